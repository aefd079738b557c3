/-- law, as the class answers -/
def lwC (M : zM) (t : Nat) (w h o : Int) : Int := if ¬ (0 ≤ w ∧ w ≤ 2 ∧ 0 ≤ h ∧ h < M t 2) then -9223372036854775808 else if w = 2 then lval (lwf M (t + 17) (nmf (M (61 + 1) h) (M (61 + 2) h) 0 0 0 (bcnt (M (61 + 3) h)) (M 61 5))) else if two (M t 2) h o then lval (lwf M (lwAt t w) (nmf (M (61 + 1) h) (M (61 + 2) h) (iabs (M (61 + 1) h - M (61 + 1) o)) 0 (M (61 + 5) (h * 6 + o)) (bcnt (M (61 + 3) h)) (M 61 5))) else -9223372036854775808

set_option maxRecDepth 100000 in
set_option maxHeartbeats 4000000 in
theorem m_X10_law {G : zG} {l : Launch} {L : Nat} {P : zP} {M : zM} {t : Nat} {w h o : Int} (hv : CV L P M t) (rw : inR w) (rh : inR h) (ro : inR o) : AM G l yX10_law mdX10_law [aR 2, aI w, aI h, aI o] (LAY L) P M (zanyL (LAY L) P (fun r M' => Cn t M M' ∧ r = lwC M t w h o)) := by
  obtain ⟨hc, hi, hxt, hnr, hhr⟩ := id hv
  obtain ⟨hP, hTp, hT, ht, hS, ha⟩ := id hc
  have q1 := hi.1.1
  have sg := st_guess L hP
  have sn := st_now L hP
  refine AM.go [some (aR 2), some (aI w), some (aI h), some (aI o)] rfl (Nat.le_of_ble_eq_true rfl) ?_ (by decide) rfl rfl
  refine a_iloadn dX10_law_0 rfl ?_
  refine a_iconst dX10_law_1 ?_
  refine a_iconst dX10_law_2 ?_
  refine a_oneS (as := [_, _, _]) dX10_law_3 mvX10_167 ⟨by decide, by decide⟩ rfl rfl (Nat.le_of_ble_eq_true rfl) ⟨rfl, rfl⟩ ⟨by decide, by decide⟩ (m_X10_isWithin ⟨by omega, by omega⟩ ⟨by omega, by omega⟩ ⟨by omega, by omega⟩) (fun x3 hx3 => ?_)
  refine a_if_eq (tgt := 17) dX10_law_6 (by decide) ⟨by omega, by omega⟩ (fun hb6 => ?_) (fun hb6 => ?_)
  · refine a_ldc2 (w := -9223372036854775808) dX10_law_17 knX10_176 (by decide) ?_
    exact a_lreturn dX10_law_20 rfl rfl rfl (zanyL_i ⟨Cn.rf hv, by unfold lwC; rw [if_pos (by omega)]⟩)
  · refine a_aloadn dX10_law_9 rfl ?_
    refine a_iloadn dX10_law_10 rfl ?_
    refine a_oneV (as := [_]) (q := 2) dX10_law_11 mvX10_121 ⟨by decide, by decide⟩ (L2 L) rfl rfl rfl (Nat.le_of_ble_eq_true rfl) ⟨rfl, rfl⟩ ⟨by decide, by decide⟩ (m_X10_isHouse hv (h := h) rh) (fun x11 hx11 => ?_)
    refine a_if_ne (tgt := 21) dX10_law_14 (by decide) ⟨by omega, by omega⟩ (fun hb14 => ?_) (fun hb14 => ?_)
    · refine a_iloadn dX10_law_21 rfl ?_
      refine a_iconst dX10_law_22 ?_
      refine a_icmp_ne (tgt := 39) dX10_law_23 (by decide) ⟨by omega, by omega⟩ ⟨by omega, by omega⟩ (fun hb23 => ?_) (fun hb23 => ?_)
      · refine a_aloadn dX10_law_39 rfl ?_
        refine a_iloadn dX10_law_40 rfl ?_
        refine a_iloadn dX10_law_41 rfl ?_
        refine a_oneV (as := [_, _]) (q := 2) dX10_law_42 mvX10_159 ⟨by decide, by decide⟩ (L2 L) rfl rfl rfl (Nat.le_of_ble_eq_true rfl) ⟨rfl, rfl⟩ ⟨by decide, by decide⟩ (m_X10_areTwo hv (h := h) (o := o) rh ro) (fun x42 hx42 => ?_)
        refine a_if_eq (tgt := 65) dX10_law_45 (by decide) ⟨by omega, by omega⟩ (fun hb45 => ?_) (fun hb45 => ?_)
        · refine a_ldc2 (w := -9223372036854775808) dX10_law_65 knX10_176 (by decide) ?_
          exact a_lreturn dX10_law_68 rfl rfl rfl (by first | exact zanyL_i ⟨(Cn.rf hv).ec hM1.1, by unfold lwC; rw [if_neg (by omega), if_neg (by omega), if_pos (by omega)]; exact hM1.2⟩ | exact zanyL_i ⟨Cn.rf hv, by unfold lwC; rw [if_neg (by omega), if_neg (by omega), if_neg (by omega)]⟩)
        · refine a_aloadn dX10_law_48 rfl ?_
          refine a_getR (j' := 5) (y := 50) dX10_law_49 flX10_35 rfl rfl (L2 L) (p2_5 hP) ?_
          refine a_aloadn dX10_law_52 rfl ?_
          refine a_getR (j' := 7) (y := 61) dX10_law_53 flX10_51 rfl rfl (L2 L) (p2_7 hP) ?_
          refine a_iloadn dX10_law_56 rfl ?_
          refine a_iloadn dX10_law_57 rfl ?_
          refine a_iloadn dX10_law_58 rfl ?_
          refine a_anyLV (as := [_, _, _, _]) (q := 50) dX10_law_59 mvX10_182 ⟨by decide, by decide⟩ (L50 L) rfl rfl rfl (Nat.le_of_ble_eq_true rfl) ⟨rfl, rfl⟩ ⟨by decide, by decide⟩ (m_X0_lawNow hc hi (by omega) (by omega) (by omega) (by omega) (by omega)) (fun x9 M1 hM1 => ?_)
          refine a_goto (tgt := 68) dX10_law_62 (by decide) ?_
          exact a_lreturn dX10_law_68 rfl rfl rfl (by first | exact zanyL_i ⟨(Cn.rf hv).ec hM1.1, by unfold lwC; rw [if_neg (by omega), if_neg (by omega), if_pos (by omega)]; exact hM1.2⟩ | exact zanyL_i ⟨Cn.rf hv, by unfold lwC; rw [if_neg (by omega), if_neg (by omega), if_neg (by omega)]⟩)
      · refine a_aloadn dX10_law_26 rfl ?_
        refine a_getR (j' := 5) (y := 50) dX10_law_27 flX10_35 rfl rfl (L2 L) (p2_5 hP) ?_
        refine a_aloadn dX10_law_30 rfl ?_
        refine a_getR (j' := 7) (y := 61) dX10_law_31 flX10_51 rfl rfl (L2 L) (p2_7 hP) ?_
        refine a_iloadn dX10_law_34 rfl ?_
        refine a_anyLV (as := [_, _]) (q := 50) dX10_law_35 mvX10_178 ⟨by decide, by decide⟩ (L50 L) rfl rfl rfl (Nat.le_of_ble_eq_true rfl) ⟨rfl, rfl⟩ ⟨by decide, by decide⟩ (m_X0_driftNow hc hi (by omega) (by omega)) (fun x9 M1 hM1 => ?_)
        exact a_lreturn dX10_law_38 rfl rfl rfl (zanyL_i ⟨(Cn.rf hv).ec hM1.1, by unfold lwC; rw [if_neg (by omega), if_pos (by omega)]; exact hM1.2⟩)
    · refine a_ldc2 (w := -9223372036854775808) dX10_law_17 knX10_176 (by decide) ?_
      exact a_lreturn dX10_law_20 rfl rfl rfl (zanyL_i ⟨Cn.rf hv, by unfold lwC; rw [if_pos (by omega)]⟩)

def ctC (M : zM) (t : Nat) (w : Int) : Int := if w = 0 then M t 2 else if w = 1 then M t 6 else if w = 2 then M t 10 else if w = 3 then M t 1 else if w = 4 then M 61 5 else if w = 5 then pairsC M 61 else if w = 6 then heardC M 61 else if w = 7 then zsm (M (61 + 2)) 6 0 0 else if w = 8 then M 201 6 else if w = 9 then cnd M else if w = 10 then M 79 2 else -1

set_option maxRecDepth 100000 in
set_option maxHeartbeats 4000000 in
theorem m_X10_count {G : zG} {l : Launch} {L : Nat} {P : zP} {M : zM} {t : Nat} {w : Int} (hv : CV L P M t) (hn : NI M) (rw : inR w) : AM G l yX10_count mdX10_count [aR 2, aI w] (LAY L) P M (zany (LAY L) P (fun r M' => Cn t M M' ∧ r = ctC M t w)) := by
  obtain ⟨hc, hi, hxt, hnr, hhr⟩ := id hv
  obtain ⟨hP, hTp, hT, ht, hS, ha⟩ := id hc
  have q1 := hi.1.1
  have sg := st_guess L hP
  have sn := st_now L hP
  refine AM.go [some (aR 2), some (aI w)] rfl (Nat.le_of_ble_eq_true rfl) ?_ (by decide) rfl rfl
  refine a_iloadn dX10_count_0 rfl ?_
  rcases (show w = 0 ∨ w = 1 ∨ w = 2 ∨ w = 3 ∨ w = 4 ∨ w = 5 ∨ w = 6 ∨ w = 7 ∨ w = 8 ∨ w = 9 ∨ w = 10 ∨ (w < 0 ∨ 10 < w) by omega) with e1 | e1 | e1 | e1 | e1 | e1 | e1 | e1 | e1 | e1 | e1 | e1
  · refine c_tabIn (tgt := 60) (off := 59) e1 dX10_count_1 ⟨by decide, by decide⟩ (by decide) (by decide) rfl (by decide) ?_
    refine a_aloadn dX10_count_60 rfl ?_
    refine a_getR (j' := 2) (y := t) dX10_count_61 flX10_16 rfl rfl (L2 L) hxt ?_
    refine b_getI (j' := 2) dX10_count_64 flX10_118 rfl rfl hT.1.2.1 (fun hr64 => ?_)
    exact a_ireturn dX10_count_67 rfl rfl rfl (zany_i ⟨Cn.rf hv, by unfold ctC; rw [if_pos (by omega)]⟩)
  · refine c_tabIn (tgt := 68) (off := 67) e1 dX10_count_1 ⟨by decide, by decide⟩ (by decide) (by decide) rfl (by decide) ?_
    refine a_aloadn dX10_count_68 rfl ?_
    refine a_getR (j' := 2) (y := t) dX10_count_69 flX10_16 rfl rfl (L2 L) hxt ?_
    refine b_getI (j' := 6) dX10_count_72 flX10_186 rfl rfl hT.1.2.1 (fun hr72 => ?_)
    exact a_ireturn dX10_count_75 rfl rfl rfl (zany_i ⟨Cn.rf hv, by unfold ctC; rw [if_neg (by omega), if_pos (by omega)]⟩)
  · refine c_tabIn (tgt := 76) (off := 75) e1 dX10_count_1 ⟨by decide, by decide⟩ (by decide) (by decide) rfl (by decide) ?_
    refine a_aloadn dX10_count_76 rfl ?_
    refine a_getR (j' := 2) (y := t) dX10_count_77 flX10_16 rfl rfl (L2 L) hxt ?_
    refine b_getI (j' := 10) dX10_count_80 flX10_189 rfl rfl hT.1.2.1 (fun hr80 => ?_)
    exact a_ireturn dX10_count_83 rfl rfl rfl (zany_i ⟨Cn.rf hv, by unfold ctC; rw [if_neg (by omega), if_neg (by omega), if_pos (by omega)]⟩)
  · refine c_tabIn (tgt := 84) (off := 83) e1 dX10_count_1 ⟨by decide, by decide⟩ (by decide) (by decide) rfl (by decide) ?_
    refine a_aloadn dX10_count_84 rfl ?_
    refine a_getR (j' := 2) (y := t) dX10_count_85 flX10_16 rfl rfl (L2 L) hxt ?_
    refine b_getI (j' := 1) dX10_count_88 flX10_192 rfl rfl hT.1.2.1 (fun hr88 => ?_)
    exact a_ireturn dX10_count_91 rfl rfl rfl (zany_i ⟨Cn.rf hv, by unfold ctC; rw [if_neg (by omega), if_neg (by omega), if_neg (by omega), if_pos (by omega)]⟩)
  · refine c_tabIn (tgt := 92) (off := 91) e1 dX10_count_1 ⟨by decide, by decide⟩ (by decide) (by decide) rfl (by decide) ?_
    refine a_aloadn dX10_count_92 rfl ?_
    refine a_getR (j' := 7) (y := 61) dX10_count_93 flX10_51 rfl rfl (L2 L) (p2_7 hP) ?_
    refine b_getI (j' := 5) dX10_count_96 flX10_195 rfl rfl (L61 L) (fun hr96 => ?_)
    exact a_ireturn dX10_count_99 rfl rfl rfl (zany_i ⟨Cn.rf hv, by unfold ctC; rw [if_neg (by omega), if_neg (by omega), if_neg (by omega), if_neg (by omega), if_pos (by omega)]⟩)
  · refine c_tabIn (tgt := 100) (off := 99) e1 dX10_count_1 ⟨by decide, by decide⟩ (by decide) (by decide) rfl (by decide) ?_
    refine a_aloadn dX10_count_100 rfl ?_
    refine a_getR (j' := 7) (y := 61) dX10_count_101 flX10_51 rfl rfl (L2 L) (p2_7 hP) ?_
    refine a_callV (as := []) (q := 61) dX10_count_104 mvX10_198 ⟨by decide, by decide⟩ (L61 L) rfl rfl rfl (Nat.le_of_ble_eq_true rfl) ⟨rfl, rfl⟩ ⟨by decide, by decide⟩ (m_X5_pairs sn) ?_
    exact a_ireturn dX10_count_107 rfl rfl rfl (zany_i ⟨Cn.rf hv, by unfold ctC; rw [if_neg (by omega), if_neg (by omega), if_neg (by omega), if_neg (by omega), if_neg (by omega), if_pos (by omega), pairsC]⟩)
  · refine c_tabIn (tgt := 108) (off := 107) e1 dX10_count_1 ⟨by decide, by decide⟩ (by decide) (by decide) rfl (by decide) ?_
    refine a_aloadn dX10_count_108 rfl ?_
    refine a_getR (j' := 7) (y := 61) dX10_count_109 flX10_51 rfl rfl (L2 L) (p2_7 hP) ?_
    refine a_callV (as := []) (q := 61) dX10_count_112 mvX10_202 ⟨by decide, by decide⟩ (L61 L) rfl rfl rfl (Nat.le_of_ble_eq_true rfl) ⟨rfl, rfl⟩ ⟨by decide, by decide⟩ (m_X5_heardInAll sn) ?_
    exact a_ireturn dX10_count_115 rfl rfl rfl (zany_i ⟨Cn.rf hv, by unfold ctC; rw [if_neg (by omega), if_neg (by omega), if_neg (by omega), if_neg (by omega), if_neg (by omega), if_neg (by omega), if_pos (by omega), heardC]⟩)
  · refine c_tabIn (tgt := 116) (off := 115) e1 dX10_count_1 ⟨by decide, by decide⟩ (by decide) (by decide) rfl (by decide) ?_
    refine a_aloadn dX10_count_116 rfl ?_
    refine a_getR (j' := 7) (y := 61) dX10_count_117 flX10_51 rfl rfl (L2 L) (p2_7 hP) ?_
    refine a_callV (as := []) (q := 61) dX10_count_120 mvX10_205 ⟨by decide, by decide⟩ (L61 L) rfl rfl rfl (Nat.le_of_ble_eq_true rfl) ⟨rfl, rfl⟩ ⟨by decide, by decide⟩ (m_X5_gainOfAll sn) ?_
    exact a_ireturn dX10_count_123 rfl rfl rfl (zany_i ⟨Cn.rf hv, by unfold ctC; rw [if_neg (by omega), if_neg (by omega), if_neg (by omega), if_neg (by omega), if_neg (by omega), if_neg (by omega), if_neg (by omega), if_pos (by omega)]⟩)
  · refine c_tabIn (tgt := 124) (off := 123) e1 dX10_count_1 ⟨by decide, by decide⟩ (by decide) (by decide) rfl (by decide) ?_
    refine a_aloadn dX10_count_124 rfl ?_
    refine a_getR (j' := 12) (y := 201) dX10_count_125 flX10_71 rfl rfl (L2 L) (p2_12 hP) ?_
    refine b_getI (j' := 6) dX10_count_128 flX10_208 rfl rfl (L201 L) (fun hr128 => ?_)
    exact a_ireturn dX10_count_131 rfl rfl rfl (zany_i ⟨Cn.rf hv, by unfold ctC; rw [if_neg (by omega), if_neg (by omega), if_neg (by omega), if_neg (by omega), if_neg (by omega), if_neg (by omega), if_neg (by omega), if_neg (by omega), if_pos (by omega)]⟩)
  · refine c_tabIn (tgt := 132) (off := 131) e1 dX10_count_1 ⟨by decide, by decide⟩ (by decide) (by decide) rfl (by decide) ?_
    refine a_aloadn dX10_count_132 rfl ?_
    refine a_getR (j' := 12) (y := 201) dX10_count_133 flX10_71 rfl rfl (L2 L) (p2_12 hP) ?_
    refine a_callV (as := []) (q := 201) dX10_count_136 mvX10_211 ⟨by decide, by decide⟩ (L201 L) rfl rfl rfl (Nat.le_of_ble_eq_true rfl) ⟨rfl, rfl⟩ ⟨by decide, by decide⟩ (m_X2_counted hP hn) ?_
    exact a_ireturn dX10_count_139 rfl rfl rfl (zany_i ⟨Cn.rf hv, by unfold ctC; rw [if_neg (by omega), if_neg (by omega), if_neg (by omega), if_neg (by omega), if_neg (by omega), if_neg (by omega), if_neg (by omega), if_neg (by omega), if_neg (by omega), if_pos (by omega)]⟩)
  · refine c_tabIn (tgt := 140) (off := 139) e1 dX10_count_1 ⟨by decide, by decide⟩ (by decide) (by decide) rfl (by decide) ?_
    refine a_aloadn dX10_count_140 rfl ?_
    refine a_getR (j' := 11) (y := 79) dX10_count_141 flX10_64 rfl rfl (L2 L) (p2_11 hP) ?_
    refine b_getI (j' := 2) dX10_count_144 flX10_214 rfl rfl (L79 L) (fun hr144 => ?_)
    exact a_ireturn dX10_count_147 rfl rfl rfl (zany_i ⟨Cn.rf hv, by unfold ctC; rw [if_neg (by omega), if_neg (by omega), if_neg (by omega), if_neg (by omega), if_neg (by omega), if_neg (by omega), if_neg (by omega), if_neg (by omega), if_neg (by omega), if_neg (by omega), if_pos (by omega)]⟩)
  · refine c_tabOut (tgt := 148) e1 dX10_count_1 rw (by decide) ?_
    refine a_iconst dX10_count_148 ?_
    exact a_ireturn dX10_count_149 rfl rfl rfl (zany_i ⟨Cn.rf hv, by unfold ctC; rw [if_neg (by omega), if_neg (by omega), if_neg (by omega), if_neg (by omega), if_neg (by omega), if_neg (by omega), if_neg (by omega), if_neg (by omega), if_neg (by omega), if_neg (by omega), if_neg (by omega)]⟩)

/-- what is now is laid where it can be undone -/
def PsR (M M' : zM) : Prop := ∃ M1, CyR M (81 + 6 * (M 79 1).toNat) 61 M1 ∧ M' = sm (sm M1 79 1 ((M 79 1 + 1).tmod 20)) 79 2 (if M 79 2 + 1 < 20 then M 79 2 + 1 else 20)
theorem PsR.fr {M M' : zM} (h : PsR M M') (hU : UI M) {k : Nat} (hk : k ≤ 78 ∨ 201 ≤ k) : M' k = M k := by
  obtain ⟨M1, h1, rfl⟩ := h
  have u := hU.1
  rw [sm_n (by omega), sm_n (by omega)]
  exact h1.2.2.2.2 k (by omega)
theorem CV.fr {L : Nat} {P : zP} {M M' : zM} {t : Nat} (hv : CV L P M t) (h : ∀ k : Nat, k ≤ 78 ∨ 201 ≤ k → M' k = M k) : CV L P M' t := by
  obtain ⟨hc, hi, hx, hn, hh⟩ := hv
  have ht := hc.2.2.2.1
  refine ⟨hc, hi.tr (by omega) (fun k hk => h k (by omega)) (by rw [h 50 (by omega)]; exact hi.2.2.2), hx, ?_, ?_⟩
  · rw [h 50 (by omega), h (t + 10) (by omega)]; exact hn
  · rw [h 61 (by omega)]; exact hh
theorem m_push {G : zG} {l : Launch} {L : Nat} {P : zP} {M : zM} (hP : PFok P) (hU : UI M) : AM G l yX9_push mdX9_push [aR 79, aR 61] (LAY L) P M (zrel none (LAY L) P (PsR M)) := m_X9_push hP hU

set_option maxRecDepth 100000 in
set_option maxHeartbeats 4000000 in
theorem m_X10_turn {G : zG} {l : Launch} {L : Nat} {P : zP} {M : zM} {t : Nat} {h d : Int} (hv : CV L P M t) (hU : UI M) (rh : inR h) (rd : inR d) : AM G l yX10_turn mdX10_turn [aR 2, aI h, aI d] (LAY L) P M (zany (LAY L) P (fun r M' => ((¬ (0 ≤ h ∧ h < M t 2 ∧ 0 ≤ d ∧ d ≤ 99 ∧ M 62 h ≠ d)) ∧ r = 0 ∧ M' = M) ∨ (¬ (¬ (0 ≤ h ∧ h < M t 2 ∧ 0 ≤ d ∧ d ≤ 99 ∧ M 62 h ≠ d)) ∧ r = 1 ∧ ∃ M1, PsR M M1 ∧ M' = sm M1 62 h d))) := by
  obtain ⟨hc, hi, hxt, hnr, hhr⟩ := id hv
  obtain ⟨hP, hTp, hT, ht, hS, ha⟩ := id hc
  have q1 := hi.1.1
  have sg := st_guess L hP
  have sn := st_now L hP
  refine AM.go [some (aR 2), some (aI h), some (aI d)] rfl (Nat.le_of_ble_eq_true rfl) ?_ (by decide) rfl rfl
  refine a_aloadn dX10_turn_0 rfl ?_
  refine a_iloadn dX10_turn_1 rfl ?_
  refine a_oneV (as := [_]) (q := 2) dX10_turn_2 mvX10_121 ⟨by decide, by decide⟩ (L2 L) rfl rfl rfl (Nat.le_of_ble_eq_true rfl) ⟨rfl, rfl⟩ ⟨by decide, by decide⟩ (m_X10_isHouse hv (h := h) rh) (fun x2 hx2 => ?_)
  refine a_if_eq (tgt := 31) dX10_turn_5 (by decide) ⟨by omega, by omega⟩ (fun hb5 => ?_) (fun hb5 => ?_)
  · refine a_iconst dX10_turn_31 ?_
    exact a_zreturn dX10_turn_32 rfl rfl rfl (by omega) (zany_i (Or.inl ⟨by omega, rfl, rfl⟩))
  · refine a_iloadn dX10_turn_8 rfl ?_
    refine a_iconst dX10_turn_9 ?_
    refine a_bipush (w := 99) dX10_turn_10 (by decide) ?_
    refine a_oneS (as := [_, _, _]) dX10_turn_12 mvX10_167 ⟨by decide, by decide⟩ rfl rfl (Nat.le_of_ble_eq_true rfl) ⟨rfl, rfl⟩ ⟨by decide, by decide⟩ (m_X10_isWithin ⟨by omega, by omega⟩ ⟨by omega, by omega⟩ ⟨by omega, by omega⟩) (fun x12 hx12 => ?_)
    refine a_if_eq (tgt := 31) dX10_turn_15 (by decide) ⟨by omega, by omega⟩ (fun hb15 => ?_) (fun hb15 => ?_)
    · refine a_iconst dX10_turn_31 ?_
      exact a_zreturn dX10_turn_32 rfl rfl rfl (by omega) (zany_i (Or.inl ⟨by omega, rfl, rfl⟩))
    · refine a_aloadn dX10_turn_18 rfl ?_
      refine a_getR (j' := 7) (y := 61) dX10_turn_19 flX10_51 rfl rfl (L2 L) (p2_7 hP) ?_
      refine a_getR (j' := 0) (y := 62) dX10_turn_22 flX10_132 rfl rfl (L61 L) (p61_0 hP) ?_
      refine a_iloadn dX10_turn_25 rfl ?_
      refine b_iald (N := 6) dX10_turn_26 (L62 L) (by decide) (by omega) (by omega) (fun hr26 => ?_)
      have qd := hi.2.2.1.1 h (by omega) (by omega)
      have qd2 : 0 ≤ M 62 h ∧ M 62 h ≤ 99 := qd
      refine a_iloadn dX10_turn_27 rfl ?_
      refine a_icmp_ne (tgt := 33) dX10_turn_28 (by decide) ⟨by omega, by omega⟩ ⟨by omega, by omega⟩ (fun hb28 => ?_) (fun hb28 => ?_)
      · refine a_aloadn dX10_turn_33 rfl ?_
        refine a_getR (j' := 11) (y := 79) dX10_turn_34 flX10_64 rfl rfl (L2 L) (p2_11 hP) ?_
        refine a_aloadn dX10_turn_37 rfl ?_
        refine a_getR (j' := 7) (y := 61) dX10_turn_38 flX10_51 rfl rfl (L2 L) (p2_7 hP) ?_
        refine a_relVv (as := [_]) (q := 79) dX10_turn_41 mvX10_215 ⟨by decide, by decide⟩ (L79 L) rfl rfl rfl (Nat.le_of_ble_eq_true rfl) ⟨rfl, rfl⟩ ⟨by decide, by decide⟩ (m_push hP hU) (fun M1 hM1 => ?_)
        refine a_aloadn dX10_turn_44 rfl ?_
        refine a_getR (j' := 7) (y := 61) dX10_turn_45 flX10_51 rfl rfl (L2 L) (p2_7 hP) ?_
        refine a_getR (j' := 0) (y := 62) dX10_turn_48 flX10_132 rfl rfl (L61 L) (p61_0 hP) ?_
        refine a_iloadn dX10_turn_51 rfl ?_
        refine a_iloadn dX10_turn_52 rfl ?_
        refine a_iast (N := 6) dX10_turn_53 (L62 L) (by decide) (by decide) (by omega) (by omega) ⟨by omega, by omega⟩ ?_
        refine a_iconst dX10_turn_54 ?_
        exact a_zreturn dX10_turn_55 rfl rfl rfl (by omega) (zany_i (Or.inr ⟨by omega, rfl, M1, hM1, rfl⟩))
      · refine a_iconst dX10_turn_31 ?_
        exact a_zreturn dX10_turn_32 rfl rfl rfl (by omega) (zany_i (Or.inl ⟨by omega, rfl, rfl⟩))

set_option maxRecDepth 100000 in
set_option maxHeartbeats 4000000 in
theorem m_X10_make {G : zG} {l : Launch} {L : Nat} {P : zP} {M : zM} {t : Nat} {h d : Int} (hv : CV L P M t) (hU : UI M) (rh : inR h) (rd : inR d) : AM G l yX10_make mdX10_make [aR 2, aI h, aI d] (LAY L) P M (zany (LAY L) P (fun r M' => ((¬ (0 ≤ h ∧ h < M t 2 ∧ 1 ≤ d ∧ d ≤ 9)) ∧ r = -1 ∧ M' = M) ∨ (¬ (¬ (0 ≤ h ∧ h < M t 2 ∧ 1 ≤ d ∧ d ≤ 9)) ∧ ∃ M1, PsR M M1 ∧ Ec (sdM t 61 h d (M1 t 2).toNat 0 M1 0).1 M' ∧ r = (sdM t 61 h d (M1 t 2).toNat 0 M1 0).2))) := by
  obtain ⟨hc, hi, hxt, hnr, hhr⟩ := id hv
  obtain ⟨hP, hTp, hT, ht, hS, ha⟩ := id hc
  have q1 := hi.1.1
  have sg := st_guess L hP
  have sn := st_now L hP
  refine AM.go [some (aR 2), some (aI h), some (aI d)] rfl (Nat.le_of_ble_eq_true rfl) ?_ (by decide) rfl rfl
  refine a_aloadn dX10_make_0 rfl ?_
  refine a_iloadn dX10_make_1 rfl ?_
  refine a_oneV (as := [_]) (q := 2) dX10_make_2 mvX10_121 ⟨by decide, by decide⟩ (L2 L) rfl rfl rfl (Nat.le_of_ble_eq_true rfl) ⟨rfl, rfl⟩ ⟨by decide, by decide⟩ (m_X10_isHouse hv (h := h) rh) (fun x2 hx2 => ?_)
  refine a_if_eq (tgt := 18) dX10_make_5 (by decide) ⟨by omega, by omega⟩ (fun hb5 => ?_) (fun hb5 => ?_)
  · refine a_iconst dX10_make_18 ?_
    exact a_ireturn dX10_make_19 rfl rfl rfl (zany_i (Or.inl ⟨by omega, rfl, rfl⟩))
  · refine a_iloadn dX10_make_8 rfl ?_
    refine a_iconst dX10_make_9 ?_
    refine a_bipush (w := 9) dX10_make_10 (by decide) ?_
    refine a_oneS (as := [_, _, _]) dX10_make_12 mvX10_167 ⟨by decide, by decide⟩ rfl rfl (Nat.le_of_ble_eq_true rfl) ⟨rfl, rfl⟩ ⟨by decide, by decide⟩ (m_X10_isWithin ⟨by omega, by omega⟩ ⟨by omega, by omega⟩ ⟨by omega, by omega⟩) (fun x12 hx12 => ?_)
    refine a_if_ne (tgt := 20) dX10_make_15 (by decide) ⟨by omega, by omega⟩ (fun hb15 => ?_) (fun hb15 => ?_)
    · refine a_aloadn dX10_make_20 rfl ?_
      refine a_getR (j' := 11) (y := 79) dX10_make_21 flX10_64 rfl rfl (L2 L) (p2_11 hP) ?_
      refine a_aloadn dX10_make_24 rfl ?_
      refine a_getR (j' := 7) (y := 61) dX10_make_25 flX10_51 rfl rfl (L2 L) (p2_7 hP) ?_
      refine a_relVv (as := [_]) (q := 79) dX10_make_28 mvX10_215 ⟨by decide, by decide⟩ (L79 L) rfl rfl rfl (Nat.le_of_ble_eq_true rfl) ⟨rfl, rfl⟩ ⟨by decide, by decide⟩ (m_push hP hU) (fun M1 hM1 => ?_)
      have hv1 := hv.fr (fun k hk => hM1.fr hU hk)
      refine a_aloadn dX10_make_31 rfl ?_
      refine a_getR (j' := 5) (y := 50) dX10_make_32 flX10_35 rfl rfl (L2 L) (p2_5 hP) ?_
      refine a_aloadn dX10_make_35 rfl ?_
      refine a_getR (j' := 7) (y := 61) dX10_make_36 flX10_51 rfl rfl (L2 L) (p2_7 hP) ?_
      refine a_iloadn dX10_make_39 rfl ?_
      refine a_iloadn dX10_make_40 rfl ?_
      refine a_anyV (as := [_, _, _]) (q := 50) dX10_make_41 mvX10_219 ⟨by decide, by decide⟩ (L50 L) rfl rfl rfl (Nat.le_of_ble_eq_true rfl) ⟨rfl, rfl⟩ ⟨by decide, by decide⟩ (m_X0_soundMade hv1.1 hv1.2.1 (by omega) (by omega) ⟨by omega, by omega⟩) (fun x9 M2 hM2 => ?_)
      exact a_ireturn dX10_make_44 rfl rfl rfl (zany_i (Or.inr ⟨by omega, M1, hM1, hM2.1, hM2.2⟩))
    · refine a_iconst dX10_make_18 ?_
      exact a_ireturn dX10_make_19 rfl rfl rfl (zany_i (Or.inl ⟨by omega, rfl, rfl⟩))

set_option maxRecDepth 100000 in
set_option maxHeartbeats 4000000 in
theorem m_X10_valve {G : zG} {l : Launch} {L : Nat} {P : zP} {M : zM} {t : Nat} {h : Int} (hv : CV L P M t) (hU : UI M) (rh : inR h) : AM G l yX10_valve mdX10_valve [aR 2, aI h] (LAY L) P M (zany (LAY L) P (fun r M' => ((¬ (0 ≤ h ∧ h < M t 2)) ∧ r = -1 ∧ M' = M) ∨ (¬ (¬ (0 ≤ h ∧ h < M t 2)) ∧ M 63 h = M (t + 3) h ∧ r = -2 ∧ M' = M) ∨ (¬ (¬ (0 ≤ h ∧ h < M t 2)) ∧ M 63 h ≠ M (t + 3) h ∧ r = M (t + 3) h ∧ ∃ M1, PsR M M1 ∧ M' = sm M1 63 h (M (t + 3) h)))) := by
  obtain ⟨hc, hi, hxt, hnr, hhr⟩ := id hv
  obtain ⟨hP, hTp, hT, ht, hS, ha⟩ := id hc
  have q1 := hi.1.1
  have sg := st_guess L hP
  have sn := st_now L hP
  refine AM.go [some (aR 2), some (aI h)] rfl (Nat.le_of_ble_eq_true rfl) ?_ (by decide) rfl rfl
  refine a_aloadn dX10_valve_0 rfl ?_
  refine a_iloadn dX10_valve_1 rfl ?_
  refine a_oneV (as := [_]) (q := 2) dX10_valve_2 mvX10_121 ⟨by decide, by decide⟩ (L2 L) rfl rfl rfl (Nat.le_of_ble_eq_true rfl) ⟨rfl, rfl⟩ ⟨by decide, by decide⟩ (m_X10_isHouse hv (h := h) rh) (fun x2 hx2 => ?_)
  refine a_if_ne (tgt := 10) dX10_valve_5 (by decide) ⟨by omega, by omega⟩ (fun hb5 => ?_) (fun hb5 => ?_)
  · refine a_aloadn dX10_valve_10 rfl ?_
    refine a_getR (j' := 7) (y := 61) dX10_valve_11 flX10_51 rfl rfl (L2 L) (p2_7 hP) ?_
    refine a_getR (j' := 1) (y := 63) dX10_valve_14 flX10_135 rfl rfl (L61 L) (p61_1 hP) ?_
    refine a_iloadn dX10_valve_17 rfl ?_
    refine b_iald (N := 6) dX10_valve_18 (L63 L) (by decide) (by omega) (by omega) (fun hr18 => ?_)
    refine a_aloadn dX10_valve_19 rfl ?_
    refine a_getR (j' := 2) (y := t) dX10_valve_20 flX10_16 rfl rfl (L2 L) hxt ?_
    refine a_getR (j' := 5) (y := (t + 3)) dX10_valve_23 flX10_223 rfl rfl hT.1.2.1 hT.1.2.2.2.2.1.2 ?_
    refine a_iloadn dX10_valve_26 rfl ?_
    refine b_iald (N := 6) dX10_valve_27 hT.1.2.2.2.2.1.1 (by decide) (by omega) (by omega) (fun hr27 => ?_)
    refine a_icmp_ne (tgt := 34) dX10_valve_28 (by decide) hr18 hr27 (fun hb28 => ?_) (fun hb28 => ?_)
    · refine a_aloadn dX10_valve_34 rfl ?_
      refine a_getR (j' := 11) (y := 79) dX10_valve_35 flX10_64 rfl rfl (L2 L) (p2_11 hP) ?_
      refine a_aloadn dX10_valve_38 rfl ?_
      refine a_getR (j' := 7) (y := 61) dX10_valve_39 flX10_51 rfl rfl (L2 L) (p2_7 hP) ?_
      refine a_relVv (as := [_]) (q := 79) dX10_valve_42 mvX10_215 ⟨by decide, by decide⟩ (L79 L) rfl rfl rfl (Nat.le_of_ble_eq_true rfl) ⟨rfl, rfl⟩ ⟨by decide, by decide⟩ (m_push hP hU) (fun M1 hM1 => ?_)
      refine a_aloadn dX10_valve_45 rfl ?_
      refine a_getR (j' := 7) (y := 61) dX10_valve_46 flX10_51 rfl rfl (L2 L) (p2_7 hP) ?_
      refine a_getR (j' := 1) (y := 63) dX10_valve_49 flX10_135 rfl rfl (L61 L) (p61_1 hP) ?_
      refine a_iloadn dX10_valve_52 rfl ?_
      refine a_aloadn dX10_valve_53 rfl ?_
      refine a_getR (j' := 2) (y := t) dX10_valve_54 flX10_16 rfl rfl (L2 L) hxt ?_
      refine a_getR (j' := 5) (y := (t + 3)) dX10_valve_57 flX10_223 rfl rfl hT.1.2.1 hT.1.2.2.2.2.1.2 ?_
      refine a_iloadn dX10_valve_60 rfl ?_
      refine b_iald (N := 6) dX10_valve_61 hT.1.2.2.2.2.1.1 (by decide) (by omega) (by omega) (fun hr61 => ?_)
      have e61 : M1 (t + 3) h = M (t + 3) h := by rw [hM1.fr hU (k := t + 3) (by omega)]
      rw [e61] at hr61
      rw [e61]
      have q6 := hi.1.2.2.2.2.1 h (by omega) (by omega)
      refine a_iast (N := 6) dX10_valve_62 (L63 L) (by decide) (by decide) (by omega) (by omega) ⟨by omega, by omega⟩ ?_
      refine a_aloadn dX10_valve_63 rfl ?_
      refine a_getR (j' := 7) (y := 61) dX10_valve_64 flX10_51 rfl rfl (L2 L) (p2_7 hP) ?_
      refine a_getR (j' := 1) (y := 63) dX10_valve_67 flX10_135 rfl rfl (L61 L) (p61_1 hP) ?_
      refine a_iloadn dX10_valve_70 rfl ?_
      refine b_iald (N := 6) dX10_valve_71 (L63 L) (by decide) (by omega) (by omega) (fun hr71 => ?_)
      rw [sm_s] at hr71
      rw [sm_s]
      exact a_ireturn dX10_valve_72 rfl rfl rfl (zany_i (Or.inr (Or.inr ⟨by omega, by omega, rfl, M1, hM1, rfl⟩)))
    · refine a_bipush (w := (-2)) dX10_valve_31 (by decide) ?_
      exact a_ireturn dX10_valve_33 rfl rfl rfl (zany_i (Or.inr (Or.inl ⟨by omega, by omega, rfl, rfl⟩)))
  · refine a_iconst dX10_valve_8 ?_
    exact a_ireturn dX10_valve_9 rfl rfl rfl (zany_i (Or.inl ⟨by omega, rfl, rfl⟩))

set_option maxRecDepth 100000 in
set_option maxHeartbeats 4000000 in
theorem m_X10_go {G : zG} {l : Launch} {L : Nat} {P : zP} {M : zM} {t : Nat} {n : Int} (hv : CV L P M t) (hU : UI M) (rn : inR n) : AM G l yX10_go mdX10_go [aR 2, aI n] (LAY L) P M (zany (LAY L) P (fun r M' => ((¬ (0 ≤ n ∧ n ≤ 99 ∧ M 61 5 + n ≤ 9000)) ∧ r = -1 ∧ M' = M) ∨ (¬ (¬ (0 ≤ n ∧ n ≤ 99 ∧ M 61 5 + n ≤ 9000)) ∧ r = M 61 5 + n ∧ ((n = 0 ∧ M' = M) ∨ (n ≠ 0 ∧ Ec (passM t 61 n.toNat (adM t (sm M 79 2 0))) M'))))) := by
  obtain ⟨hc, hi, hxt, hnr, hhr⟩ := id hv
  obtain ⟨hP, hTp, hT, ht, hS, ha⟩ := id hc
  have q1 := hi.1.1
  have sg := st_guess L hP
  have sn := st_now L hP
  have qh := hi.2.2.1.2.2.2.2.2.1
  refine AM.go [some (aR 2), some (aI n)] rfl (Nat.le_of_ble_eq_true rfl) ?_ (by decide) rfl rfl
  refine a_iloadn dX10_go_0 rfl ?_
  refine a_iconst dX10_go_1 ?_
  refine a_bipush (w := 99) dX10_go_2 (by decide) ?_
  refine a_oneS (as := [_, _, _]) dX10_go_4 mvX10_167 ⟨by decide, by decide⟩ rfl rfl (Nat.le_of_ble_eq_true rfl) ⟨rfl, rfl⟩ ⟨by decide, by decide⟩ (m_X10_isWithin ⟨by omega, by omega⟩ ⟨by omega, by omega⟩ ⟨by omega, by omega⟩) (fun x4 hx4 => ?_)
  refine a_if_eq (tgt := 25) dX10_go_7 (by decide) ⟨by omega, by omega⟩ (fun hb7 => ?_) (fun hb7 => ?_)
  · refine a_iconst dX10_go_25 ?_
    exact a_ireturn dX10_go_26 rfl rfl rfl (zany_i (Or.inl ⟨by omega, rfl, rfl⟩))
  · refine a_aloadn dX10_go_10 rfl ?_
    refine a_getR (j' := 7) (y := 61) dX10_go_11 flX10_51 rfl rfl (L2 L) (p2_7 hP) ?_
    refine b_getI (j' := 5) dX10_go_14 flX10_195 rfl rfl (L61 L) (fun hr14 => ?_)
    refine a_iloadn dX10_go_17 rfl ?_
    refine a_iadd dX10_go_18 ?_
    refine a_sipush (w := 9000) dX10_go_19 (by decide) ?_
    refine a_icmp_le (tgt := 27) dX10_go_22 (by decide) ⟨by omega, by omega⟩ ⟨by omega, by omega⟩ (fun hb22 => ?_) (fun hb22 => ?_)
    · refine a_iloadn dX10_go_27 rfl ?_
      refine a_if_le (tgt := 57) dX10_go_28 (by decide) ⟨by omega, by omega⟩ (fun hb28 => ?_) (fun hb28 => ?_)
      · refine a_aloadn dX10_go_57 rfl ?_
        refine a_getR (j' := 7) (y := 61) dX10_go_58 flX10_51 rfl rfl (L2 L) (p2_7 hP) ?_
        refine b_getI (j' := 5) dX10_go_61 flX10_195 rfl rfl (L61 L) (fun hr61 => ?_)
        first
        | (have e9 : M2 61 5 = M 61 5 + n := by rw [hM2 61 5 (by decide) (by decide) (by omega), passM_h, e61]; omega
           rw [e9] at hr61
           rw [e9])
        | skip
        exact a_ireturn dX10_go_64 rfl rfl rfl (by first | exact zany_i (Or.inr ⟨by omega, rfl, Or.inr ⟨by omega, hM2⟩⟩) | exact zany_i (Or.inr ⟨by omega, by omega, Or.inl ⟨by omega, rfl⟩⟩))
      · refine a_aloadn dX10_go_31 rfl ?_
        refine a_getR (j' := 11) (y := 79) dX10_go_32 flX10_64 rfl rfl (L2 L) (p2_11 hP) ?_
        refine a_callVv (as := []) (q := 79) dX10_go_35 mvX10_100 ⟨by decide, by decide⟩ (L79 L) rfl rfl rfl (Nat.le_of_ble_eq_true rfl) ⟨rfl, rfl⟩ ⟨by decide, by decide⟩ (m_X9_clear hP) ?_
        refine a_aloadn dX10_go_38 rfl ?_
        refine a_getR (j' := 5) (y := 50) dX10_go_39 flX10_35 rfl rfl (L2 L) (p2_5 hP) ?_
        have hv1 : CV L P (sm M 79 2 0) t := hv.fr (fun k hk => sm_n (by omega))
        refine a_callVv (as := []) (q := 50) dX10_go_42 mvX10_224 ⟨by decide, by decide⟩ (L50 L) rfl rfl rfl (Nat.le_of_ble_eq_true rfl) ⟨rfl, rfl⟩ ⟨by decide, by decide⟩ (m_X0_asDrawn hP hTp hT ht hv1.2.1.1) ?_
        refine a_aloadn dX10_go_45 rfl ?_
        refine a_getR (j' := 5) (y := 50) dX10_go_46 flX10_35 rfl rfl (L2 L) (p2_5 hP) ?_
        refine a_aloadn dX10_go_49 rfl ?_
        refine a_getR (j' := 7) (y := 61) dX10_go_50 flX10_51 rfl rfl (L2 L) (p2_7 hP) ?_
        refine a_iloadn dX10_go_53 rfl ?_
        have hc2 : CI (adM t (sm M 79 2 0)) t 61 := adM_ci hv1.2.1 (by omega) (by omega)
        have e61 : adM t (sm M 79 2 0) 61 5 = M 61 5 := by rw [adM_n t _ (by decide), sm_n (by decide)]
        refine a_relVv (as := [_, _]) (q := 50) dX10_go_54 mvX10_227 ⟨by decide, by decide⟩ (L50 L) rfl rfl rfl (Nat.le_of_ble_eq_true rfl) ⟨rfl, rfl⟩ ⟨by decide, by decide⟩ (m_X0_pass (Ma := adM t (sm M 79 2 0)) hc (Ec.rf _) hc2 ⟨by omega, by omega⟩ (by omega)) (fun M2 hM2 => ?_)
        refine a_aloadn dX10_go_57 rfl ?_
        refine a_getR (j' := 7) (y := 61) dX10_go_58 flX10_51 rfl rfl (L2 L) (p2_7 hP) ?_
        refine b_getI (j' := 5) dX10_go_61 flX10_195 rfl rfl (L61 L) (fun hr61 => ?_)
        first
        | (have e9 : M2 61 5 = M 61 5 + n := by rw [hM2 61 5 (by decide) (by decide) (by omega), passM_h, e61]; omega
           rw [e9] at hr61
           rw [e9])
        | skip
        exact a_ireturn dX10_go_64 rfl rfl rfl (by first | exact zany_i (Or.inr ⟨by omega, rfl, Or.inr ⟨by omega, hM2⟩⟩) | exact zany_i (Or.inr ⟨by omega, by omega, Or.inl ⟨by omega, rfl⟩⟩))
    · refine a_iconst dX10_go_25 ?_
      exact a_ireturn dX10_go_26 rfl rfl rfl (zany_i (Or.inl ⟨by omega, rfl, rfl⟩))

set_option maxRecDepth 100000 in
set_option maxHeartbeats 4000000 in
theorem m_X10_undo {G : zG} {l : Launch} {L : Nat} {P : zP} {M : zM} {t : Nat} (hv : CV L P M t) (hU : UI M)  : AM G l yX10_undo mdX10_undo [aR 2] (LAY L) P M (zany (LAY L) P (fun r M' => (M 79 2 = 0 ∧ r = -1 ∧ M' = M) ∨ (M 79 2 ≠ 0 ∧ r = M 79 2 - 1 ∧ CyR (sm (sm M 79 1 ((M 79 1 + 20 - 1).tmod 20)) 79 2 (M 79 2 - 1)) 61 (81 + 6 * ((M 79 1 + 20 - 1).tmod 20).toNat) M'))) := by
  obtain ⟨hc, hi, hxt, hnr, hhr⟩ := id hv
  obtain ⟨hP, hTp, hT, ht, hS, ha⟩ := id hc
  have q1 := hi.1.1
  have sg := st_guess L hP
  have sn := st_now L hP
  refine AM.go [some (aR 2)] rfl (Nat.le_of_ble_eq_true rfl) ?_ (by decide) rfl rfl
  refine a_aloadn dX10_undo_0 rfl ?_
  refine a_getR (j' := 11) (y := 79) dX10_undo_1 flX10_64 rfl rfl (L2 L) (p2_11 hP) ?_
  refine a_aloadn dX10_undo_4 rfl ?_
  refine a_getR (j' := 7) (y := 61) dX10_undo_5 flX10_51 rfl rfl (L2 L) (p2_7 hP) ?_
  refine a_anyV (as := [_]) (q := 79) dX10_undo_8 mvX10_231 ⟨by decide, by decide⟩ (L79 L) rfl rfl rfl (Nat.le_of_ble_eq_true rfl) ⟨rfl, rfl⟩ ⟨by decide, by decide⟩ (m_X9_pop hP hU) (fun x9 M1 hM1 => ?_)
  refine a_if_eq (tgt := 24) dX10_undo_11 (by decide) (by rcases hM1 with z | z <;> exact ⟨by omega, by omega⟩) (fun hb11 => ?_) (fun hb11 => ?_)
  · rcases hM1 with ⟨z1, z2, rfl⟩ | z
    rotate_left
    · omega
    refine a_iconst dX10_undo_24 ?_
    exact a_ireturn dX10_undo_25 rfl rfl rfl (by first | exact zany_i (Or.inr ⟨z2, rfl, z3⟩) | exact zany_i (Or.inl ⟨z2, rfl, rfl⟩))
  · rcases hM1 with z | ⟨z1, z2, z3⟩
    · omega
    have e79 : M1 79 2 = M 79 2 - 1 := by rw [z3.2.2.2.2 79 (by omega), sm_s]
    refine a_aloadn dX10_undo_14 rfl ?_
    refine a_getR (j' := 11) (y := 79) dX10_undo_15 flX10_64 rfl rfl (L2 L) (p2_11 hP) ?_
    refine b_getI (j' := 2) dX10_undo_18 flX10_214 rfl rfl (L79 L) (fun hr18 => ?_)
    rw [e79] at hr18
    rw [e79]
    refine a_goto (tgt := 25) dX10_undo_21 (by decide) ?_
    exact a_ireturn dX10_undo_25 rfl rfl rfl (by first | exact zany_i (Or.inr ⟨z2, rfl, z3⟩) | exact zany_i (Or.inl ⟨z2, rfl, rfl⟩))

set_option maxRecDepth 100000 in
set_option maxHeartbeats 4000000 in
theorem m_X10_keep {G : zG} {l : Launch} {L : Nat} {P : zP} {M : zM} {t : Nat} (hv : CV L P M t) : AM G l yX10_keep mdX10_keep [aR 2] (LAY L) P M (zany (LAY L) P (fun r M' => r = M 61 5 ∧ ∃ M1, CyR M 73 61 M1 ∧ M' = sm M1 2 10 1)) := by
  obtain ⟨hc, hi, hxt, hnr, hhr⟩ := id hv
  obtain ⟨hP, hTp, hT, ht, hS, ha⟩ := id hc
  have q1 := hi.1.1
  have sg := st_guess L hP
  have sn := st_now L hP
  refine AM.go [some (aR 2)] rfl (Nat.le_of_ble_eq_true rfl) ?_ (by decide) rfl rfl
  refine a_aloadn dX10_keep_0 rfl ?_
  refine a_getR (j' := 9) (y := 73) dX10_keep_1 flX10_58 rfl rfl (L2 L) (p2_9 hP) ?_
  refine a_aloadn dX10_keep_4 rfl ?_
  refine a_getR (j' := 7) (y := 61) dX10_keep_5 flX10_51 rfl rfl (L2 L) (p2_7 hP) ?_
  refine a_relVv (as := [_]) (q := 73) dX10_keep_8 mvX10_235 ⟨by decide, by decide⟩ (L73 L) rfl rfl rfl (Nat.le_of_ble_eq_true rfl) ⟨rfl, rfl⟩ ⟨by decide, by decide⟩ (m_X5_copy (st_image L hP) sn (by omega)) (fun M1 hM1 => ?_)
  refine a_aloadn dX10_keep_11 rfl ?_
  refine a_iconst dX10_keep_12 ?_
  refine a_putZ (j' := 10) dX10_keep_13 flX10_101 rfl rfl (L2 L) (by decide) rfl (by omega) ?_
  refine a_aloadn dX10_keep_16 rfl ?_
  refine a_getR (j' := 7) (y := 61) dX10_keep_17 flX10_51 rfl rfl (L2 L) (p2_7 hP) ?_
  refine b_getI (j' := 5) dX10_keep_20 flX10_195 rfl rfl (L61 L) (fun hr20 => ?_)
  have e20 : sm M1 2 10 1 61 5 = M 61 5 := by rw [sm_n (by decide), hM1.2.2.2.2 61 (by omega)]
  rw [e20] at hr20
  rw [e20]
  exact a_ireturn dX10_keep_23 rfl rfl rfl (zany_i ⟨rfl, M1, hM1, rfl⟩)

set_option maxRecDepth 100000 in
set_option maxHeartbeats 4000000 in
theorem m_X10_back {G : zG} {l : Launch} {L : Nat} {P : zP} {M : zM} {t : Nat} (hv : CV L P M t) : AM G l yX10_back mdX10_back [aR 2] (LAY L) P M (zany (LAY L) P (fun r M' => (M 2 10 = 0 ∧ r = -1 ∧ M' = M) ∨ (M 2 10 ≠ 0 ∧ r = M 73 5 ∧ ∃ M1, CyR M 61 73 M1 ∧ M' = sm M1 79 2 0))) := by
  obtain ⟨hc, hi, hxt, hnr, hhr⟩ := id hv
  obtain ⟨hP, hTp, hT, ht, hS, ha⟩ := id hc
  have q1 := hi.1.1
  have sg := st_guess L hP
  have sn := st_now L hP
  refine AM.go [some (aR 2)] rfl (Nat.le_of_ble_eq_true rfl) ?_ (by decide) rfl rfl
  refine a_aloadn dX10_back_0 rfl ?_
  refine b_getZ (j' := 10) dX10_back_1 flX10_101 rfl rfl (L2 L) (fun hr1 => ?_)
  refine a_if_ne (tgt := 9) dX10_back_4 (by decide) (by rcases hr1 with z | z <;> exact ⟨by omega, by omega⟩) (fun hb4 => ?_) (fun hb4 => ?_)
  · refine a_aloadn dX10_back_9 rfl ?_
    refine a_getR (j' := 7) (y := 61) dX10_back_10 flX10_51 rfl rfl (L2 L) (p2_7 hP) ?_
    refine a_aloadn dX10_back_13 rfl ?_
    refine a_getR (j' := 9) (y := 73) dX10_back_14 flX10_58 rfl rfl (L2 L) (p2_9 hP) ?_
    refine a_relVv (as := [_]) (q := 61) dX10_back_17 mvX10_235 ⟨by decide, by decide⟩ (L61 L) rfl rfl rfl (Nat.le_of_ble_eq_true rfl) ⟨rfl, rfl⟩ ⟨by decide, by decide⟩ (m_X5_copy sn (st_image L hP) (by omega)) (fun M1 hM1 => ?_)
    refine a_aloadn dX10_back_20 rfl ?_
    refine a_getR (j' := 11) (y := 79) dX10_back_21 flX10_64 rfl rfl (L2 L) (p2_11 hP) ?_
    refine a_callVv (as := []) (q := 79) dX10_back_24 mvX10_100 ⟨by decide, by decide⟩ (L79 L) rfl rfl rfl (Nat.le_of_ble_eq_true rfl) ⟨rfl, rfl⟩ ⟨by decide, by decide⟩ (m_X9_clear hP) ?_
    refine a_aloadn dX10_back_27 rfl ?_
    refine a_getR (j' := 7) (y := 61) dX10_back_28 flX10_51 rfl rfl (L2 L) (p2_7 hP) ?_
    refine b_getI (j' := 5) dX10_back_31 flX10_195 rfl rfl (L61 L) (fun hr31 => ?_)
    have e31 : sm M1 79 2 0 61 5 = M 73 5 := by rw [sm_n (by decide), hM1.2.2.1]
    rw [e31] at hr31
    rw [e31]
    exact a_ireturn dX10_back_34 rfl rfl rfl (zany_i (Or.inr ⟨hb4, rfl, M1, hM1, rfl⟩))
  · refine a_iconst dX10_back_7 ?_
    exact a_ireturn dX10_back_8 rfl rfl rfl (zany_i (Or.inl ⟨by omega, rfl, rfl⟩))
