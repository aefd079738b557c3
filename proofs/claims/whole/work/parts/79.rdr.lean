set_option maxRecDepth 100000 in
set_option maxHeartbeats 4000000 in
theorem m_X4_fail {G : zG} {l : Launch} {L : Nat} {P : zP} {M : zM} {c : Int} (hP : PFok P) (rc : inR c) : AM G l yX4_fail mdX4_fail [aR 42, aI c] (LAY L) P M (zdet none (LAY L) P (flM M c)) := by
  refine AM.go [some (aR 42), some (aI c)] rfl (Nat.le_of_ble_eq_true rfl) ?_ (by decide) rfl rfl
  refine a_aloadn dX4_fail_0 rfl ?_
  refine b_getI (j' := 6) dX4_fail_1 flX4_43 rfl rfl (L42 L) (fun hr1 => ?_)
  refine a_if_ne (tgt := 23) dX4_fail_4 (by decide) ⟨by omega, by omega⟩ (fun hb4 => ?_) (fun hb4 => ?_)
  · exact a_return dX4_fail_23 rfl rfl rfl (zdet_V (by unfold flM; first | (rw [if_pos (by omega)]; done) | (rw [if_neg (by omega)]; done)))
  · refine a_aloadn dX4_fail_7 rfl ?_
    refine a_iloadn dX4_fail_8 rfl ?_
    refine a_putI (j' := 6) dX4_fail_9 flX4_43 rfl rfl (L42 L) (by decide) rfl rc ?_
    refine a_aloadn dX4_fail_12 rfl ?_
    refine a_aloadn dX4_fail_13 rfl ?_
    refine a_getR (j' := 0) (y := 43) dX4_fail_14 flX4_12 rfl rfl (L42 L) (p42_0 hP) ?_
    refine b_getI (j' := 10) dX4_fail_17 flX4_59 rfl rfl (L43 L) (fun hr17 => ?_)
    rw [sm_n (show 43 ≠ 42 by decide)] at hr17
    rw [sm_n (show 43 ≠ 42 by decide)]
    refine a_putI (j' := 7) dX4_fail_20 flX4_22 rfl rfl (L42 L) (by decide) rfl hr17 ?_
    exact a_return dX4_fail_23 rfl rfl rfl (zdet_V (by unfold flM; first | (rw [if_pos (by omega)]; done) | (rw [if_neg (by omega)]; done)))

set_option maxRecDepth 100000 in
set_option maxHeartbeats 4000000 in
theorem m_X4_takeLineWord {G : zG} {l : Launch} {L : Nat} {P : zP} {M : zM} {a m : Int} (hP : PFok P) (ra : inR a) (rm : inR m) (hv : TV M) (hs : M 43 9 ≠ 0) : AM G l yX4_takeLineWord mdX4_takeLineWord [aR 42, aI a, aI m] (LAY L) P M (zdet none (LAY L) P (lwM a m M)) := by
  refine AM.go [some (aR 42), some (aI a), some (aI m)] rfl (Nat.le_of_ble_eq_true rfl) ?_ (by decide) rfl rfl
  refine a_iloadn dX4_takeLineWord_0 rfl ?_
  refine a_iloadn dX4_takeLineWord_1 rfl ?_
  refine a_icmp_lt (tgt := 11) dX4_takeLineWord_2 (by decide) ⟨by omega, by omega⟩ ⟨by omega, by omega⟩ (fun hb2 => ?_) (fun hb2 => ?_)
  · refine a_aloadn dX4_takeLineWord_11 rfl ?_
    refine a_getR (j' := 0) (y := 43) dX4_takeLineWord_12 flX4_12 rfl rfl (L42 L) (p42_0 hP) ?_
    refine a_callVv (as := []) (q := 43) dX4_takeLineWord_15 mvX4_88 ⟨by decide, by decide⟩ (L43 L) rfl rfl rfl (Nat.le_of_ble_eq_true rfl) ⟨rfl, rfl⟩ ⟨by decide, by decide⟩ (m_X7_step hP (hv.lt hs)) ?_
    exact a_return dX4_takeLineWord_18 rfl rfl rfl (zdet_V (by unfold lwM; first | (rw [if_pos (by omega)]; done) | (rw [if_neg (by omega)]; done)))
  · refine a_aloadn dX4_takeLineWord_5 rfl ?_
    refine a_iconst dX4_takeLineWord_6 ?_
    refine a_callVv (as := [_]) (q := 42) dX4_takeLineWord_7 mvX4_80 ⟨by decide, by decide⟩ (L42 L) rfl rfl rfl (Nat.le_of_ble_eq_true rfl) ⟨rfl, rfl⟩ ⟨by decide, by decide⟩ (m_X4_fail hP ⟨by omega, by omega⟩) ?_
    exact a_return dX4_takeLineWord_10 rfl rfl rfl (zdet_V (by unfold lwM; first | (rw [if_pos (by omega)]; done) | (rw [if_neg (by omega)]; done)))

set_option maxRecDepth 100000 in
set_option maxHeartbeats 4000000 in
theorem m_X4_lookNumber {G : zG} {l : Launch} {L : Nat} {P : zP} {M : zM} {lo hi : Int} (hP : PFok P) (rl : inR lo) (rh : inR hi) : AM G l yX4_lookNumber mdX4_lookNumber [aR 42, aI lo, aI hi] (LAY L) P M (zdet (some (aI (lnV lo hi M))) (LAY L) P (lnM lo hi M)) := by
  refine AM.go [some (aR 42), some (aI lo), some (aI hi)] rfl (Nat.le_of_ble_eq_true rfl) ?_ (by decide) rfl rfl
  refine a_aloadn dX4_lookNumber_0 rfl ?_
  refine b_getI (j' := 6) dX4_lookNumber_1 flX4_43 rfl rfl (L42 L) (fun hr1 => ?_)
  refine a_if_eq (tgt := 9) dX4_lookNumber_4 (by decide) ⟨by omega, by omega⟩ (fun hb4 => ?_) (fun hb4 => ?_)
  · refine a_aloadn dX4_lookNumber_9 rfl ?_
    refine a_getR (j' := 0) (y := 43) dX4_lookNumber_10 flX4_12 rfl rfl (L42 L) (p42_0 hP) ?_
    refine b_getI (j' := 9) dX4_lookNumber_13 flX4_50 rfl rfl (L43 L) (fun hr13 => ?_)
    refine a_iconst dX4_lookNumber_16 ?_
    refine a_icmp_eq (tgt := 28) dX4_lookNumber_17 (by decide) hr13 ⟨by omega, by omega⟩ (fun hb17 => ?_) (fun hb17 => ?_)
    · refine a_aloadn dX4_lookNumber_28 rfl ?_
      refine a_getR (j' := 0) (y := 43) dX4_lookNumber_29 flX4_12 rfl rfl (L42 L) (p42_0 hP) ?_
      refine b_getI (j' := 11) dX4_lookNumber_32 flX4_60 rfl rfl (L43 L) (fun hr32 => ?_)
      refine a_iloadn dX4_lookNumber_35 rfl ?_
      refine a_iloadn dX4_lookNumber_36 rfl ?_
      refine a_oneSN (as := [_, _, _]) dX4_lookNumber_37 mvX4_94 ⟨by decide, by decide⟩ rfl rfl (Nat.le_of_ble_eq_true rfl) ⟨rfl, rfl⟩ ⟨by decide, by decide⟩ (m_X10_isWithin hr32 rl rh) (fun x37 hx37 => ?_)
      refine a_if_ne (tgt := 48) dX4_lookNumber_40 (by decide) ⟨by omega, by omega⟩ (fun hb40 => ?_) (fun hb40 => ?_)
      · refine a_aloadn dX4_lookNumber_48 rfl ?_
        refine b_getI (j' := 6) dX4_lookNumber_49 flX4_43 rfl rfl (L42 L) (fun hr49 => ?_)
        have hf := flM_6 (M := M) 1 (by omega)
        have hf2 := flM_6 (M := M) 2 (by omega)
        refine a_if_ne (tgt := 65) dX4_lookNumber_52 (by decide) ⟨by omega, by omega⟩ (fun hb52 => ?_) (fun hb52 => ?_)
        · refine a_iloadn dX4_lookNumber_65 rfl ?_
          exact a_ireturn dX4_lookNumber_66 rfl rfl rfl (by first | (exfalso; omega) | exact zdet_I (by unfold lnV; rw [if_pos (by omega)]) (by unfold lnM; rw [if_neg (by omega), if_neg (by omega), if_pos (by omega)]) | exact zdet_I (by unfold lnV; rw [if_neg (by omega)]) (by unfold lnM; rw [if_neg (by omega), if_neg (by omega), if_neg (by omega)]) | exact zdet_I (by unfold lnV; rw [if_neg (by omega)]) (by unfold lnM; rw [if_neg (by omega), if_pos (by omega)]) )
        · refine a_aloadn dX4_lookNumber_55 rfl ?_
          refine a_getR (j' := 0) (y := 43) dX4_lookNumber_56 flX4_12 rfl rfl (L42 L) (p42_0 hP) ?_
          refine b_getI (j' := 11) dX4_lookNumber_59 flX4_60 rfl rfl (L43 L) (fun hr59 => ?_)
          refine a_goto (tgt := 66) dX4_lookNumber_62 (by decide) ?_
          exact a_ireturn dX4_lookNumber_66 rfl rfl rfl (by first | (exfalso; omega) | exact zdet_I (by unfold lnV; rw [if_pos (by omega)]) (by unfold lnM; rw [if_neg (by omega), if_neg (by omega), if_pos (by omega)]) | exact zdet_I (by unfold lnV; rw [if_neg (by omega)]) (by unfold lnM; rw [if_neg (by omega), if_neg (by omega), if_neg (by omega)]) | exact zdet_I (by unfold lnV; rw [if_neg (by omega)]) (by unfold lnM; rw [if_neg (by omega), if_pos (by omega)]) )
      · refine a_aloadn dX4_lookNumber_43 rfl ?_
        refine a_iconst dX4_lookNumber_44 ?_
        refine a_callVv (as := [_]) (q := 42) dX4_lookNumber_45 mvX4_80 ⟨by decide, by decide⟩ (L42 L) rfl rfl rfl (Nat.le_of_ble_eq_true rfl) ⟨rfl, rfl⟩ ⟨by decide, by decide⟩ (m_X4_fail hP ⟨by omega, by omega⟩) ?_
        refine a_aloadn dX4_lookNumber_48 rfl ?_
        refine b_getI (j' := 6) dX4_lookNumber_49 flX4_43 rfl rfl (L42 L) (fun hr49 => ?_)
        have hf := flM_6 (M := M) 1 (by omega)
        have hf2 := flM_6 (M := M) 2 (by omega)
        refine a_if_ne (tgt := 65) dX4_lookNumber_52 (by decide) ⟨by omega, by omega⟩ (fun hb52 => ?_) (fun hb52 => ?_)
        · refine a_iloadn dX4_lookNumber_65 rfl ?_
          exact a_ireturn dX4_lookNumber_66 rfl rfl rfl (by first | (exfalso; omega) | exact zdet_I (by unfold lnV; rw [if_pos (by omega)]) (by unfold lnM; rw [if_neg (by omega), if_neg (by omega), if_pos (by omega)]) | exact zdet_I (by unfold lnV; rw [if_neg (by omega)]) (by unfold lnM; rw [if_neg (by omega), if_neg (by omega), if_neg (by omega)]) | exact zdet_I (by unfold lnV; rw [if_neg (by omega)]) (by unfold lnM; rw [if_neg (by omega), if_pos (by omega)]) )
        · refine a_aloadn dX4_lookNumber_55 rfl ?_
          refine a_getR (j' := 0) (y := 43) dX4_lookNumber_56 flX4_12 rfl rfl (L42 L) (p42_0 hP) ?_
          refine b_getI (j' := 11) dX4_lookNumber_59 flX4_60 rfl rfl (L43 L) (fun hr59 => ?_)
          refine a_goto (tgt := 66) dX4_lookNumber_62 (by decide) ?_
          exact a_ireturn dX4_lookNumber_66 rfl rfl rfl (by first | (exfalso; omega) | exact zdet_I (by unfold lnV; rw [if_pos (by omega)]) (by unfold lnM; rw [if_neg (by omega), if_neg (by omega), if_pos (by omega)]) | exact zdet_I (by unfold lnV; rw [if_neg (by omega)]) (by unfold lnM; rw [if_neg (by omega), if_neg (by omega), if_neg (by omega)]) | exact zdet_I (by unfold lnV; rw [if_neg (by omega)]) (by unfold lnM; rw [if_neg (by omega), if_pos (by omega)]) )
    · refine a_aloadn dX4_lookNumber_20 rfl ?_
      refine a_iconst dX4_lookNumber_21 ?_
      refine a_callVv (as := [_]) (q := 42) dX4_lookNumber_22 mvX4_80 ⟨by decide, by decide⟩ (L42 L) rfl rfl rfl (Nat.le_of_ble_eq_true rfl) ⟨rfl, rfl⟩ ⟨by decide, by decide⟩ (m_X4_fail hP ⟨by omega, by omega⟩) ?_
      refine a_goto (tgt := 48) dX4_lookNumber_25 (by decide) ?_
      refine a_aloadn dX4_lookNumber_48 rfl ?_
      refine b_getI (j' := 6) dX4_lookNumber_49 flX4_43 rfl rfl (L42 L) (fun hr49 => ?_)
      have hf := flM_6 (M := M) 1 (by omega)
      have hf2 := flM_6 (M := M) 2 (by omega)
      refine a_if_ne (tgt := 65) dX4_lookNumber_52 (by decide) ⟨by omega, by omega⟩ (fun hb52 => ?_) (fun hb52 => ?_)
      · refine a_iloadn dX4_lookNumber_65 rfl ?_
        exact a_ireturn dX4_lookNumber_66 rfl rfl rfl (by first | (exfalso; omega) | exact zdet_I (by unfold lnV; rw [if_pos (by omega)]) (by unfold lnM; rw [if_neg (by omega), if_neg (by omega), if_pos (by omega)]) | exact zdet_I (by unfold lnV; rw [if_neg (by omega)]) (by unfold lnM; rw [if_neg (by omega), if_neg (by omega), if_neg (by omega)]) | exact zdet_I (by unfold lnV; rw [if_neg (by omega)]) (by unfold lnM; rw [if_neg (by omega), if_pos (by omega)]) )
      · refine a_aloadn dX4_lookNumber_55 rfl ?_
        refine a_getR (j' := 0) (y := 43) dX4_lookNumber_56 flX4_12 rfl rfl (L42 L) (p42_0 hP) ?_
        refine b_getI (j' := 11) dX4_lookNumber_59 flX4_60 rfl rfl (L43 L) (fun hr59 => ?_)
        refine a_goto (tgt := 66) dX4_lookNumber_62 (by decide) ?_
        exact a_ireturn dX4_lookNumber_66 rfl rfl rfl (by first | (exfalso; omega) | exact zdet_I (by unfold lnV; rw [if_pos (by omega)]) (by unfold lnM; rw [if_neg (by omega), if_neg (by omega), if_pos (by omega)]) | exact zdet_I (by unfold lnV; rw [if_neg (by omega)]) (by unfold lnM; rw [if_neg (by omega), if_neg (by omega), if_neg (by omega)]) | exact zdet_I (by unfold lnV; rw [if_neg (by omega)]) (by unfold lnM; rw [if_neg (by omega), if_pos (by omega)]) )
  · refine a_iloadn dX4_lookNumber_7 rfl ?_
    exact a_ireturn dX4_lookNumber_8 rfl rfl rfl (zdet_I (by unfold lnV; rw [if_neg (by omega)]) (by unfold lnM; rw [if_pos (by omega)]))

theorem lnM_n (lo hi : Int) (M : zM) {k : Nat} (h : k ≠ 42) : lnM lo hi M k = M k := by
  unfold lnM
  split
  · rfl
  · split
    · exact flM_n M 1 h
    · split
      · rfl
      · exact flM_n M 2 h
theorem lnM_ok {lo hi : Int} {M : zM} (h : lnM lo hi M 42 6 = 0) : lnM lo hi M = M ∧ M 42 6 = 0 ∧ M 43 9 = 4 ∧ lo ≤ M 43 11 ∧ M 43 11 ≤ hi := by
  unfold lnM at h ⊢
  by_cases c1 : M 42 6 ≠ 0
  · rw [if_pos c1] at h; exact absurd h c1
  rw [if_neg c1] at h ⊢
  by_cases c2 : M 43 9 ≠ 4
  · rw [if_pos c2, (flM_6 1 (by omega)).1] at h; omega
  rw [if_neg c2] at h ⊢
  by_cases c3 : lo ≤ M 43 11 ∧ M 43 11 ≤ hi
  · rw [if_pos c3]; exact ⟨rfl, by omega, by omega, c3⟩
  · rw [if_neg c3, (flM_6 2 (by omega)).1] at h; omega
theorem lnM_bad {lo hi : Int} {M : zM} (h0 : M 42 6 = 0) (h : ¬ (M 43 9 = 4 ∧ lo ≤ M 43 11 ∧ M 43 11 ≤ hi)) : lnM lo hi M = flM M (if M 43 9 = 4 then 2 else 1) := by
  unfold lnM
  rw [if_neg (by omega)]
  by_cases c2 : M 43 9 = 4
  · rw [if_neg (by omega), if_neg (fun z => h ⟨c2, z⟩), if_pos c2]
  · rw [if_pos c2, if_neg c2]
theorem TV.ln {M : zM} (h : TV M) (lo hi : Int) : TV (lnM lo hi M) := h.of (lnM_n _ _ _ (by decide)) (lnM_n _ _ _ (by decide)) (lnM_n _ _ _ (by decide)) (lnM_n _ _ _ (by decide))
theorem TV.tk {M : zM} (h : TV M) (lo hi : Int) : TV (tkM lo hi M) := by
  unfold tkM
  by_cases c : lnM lo hi M 42 6 = 0
  · rw [if_pos c]
    have z := lnM_ok c
    rw [z.1]; exact h.st (by omega)
  · rw [if_neg c]; exact h.ln lo hi
theorem tkM_n (lo hi : Int) (M : zM) {k : Nat} (h : k ≠ 42) (h2 : k ≠ 43) : tkM lo hi M k = M k := by
  unfold tkM
  split
  · rw [stT_n _ h2, lnM_n _ _ _ h]
  · exact lnM_n _ _ _ h
theorem nmM9_n (t : Nat) (b : Int) (M : zM) {k : Nat} (h : k ≠ 42) (h2 : k ≠ 43) : nmM9 t b M k = M k := by
  unfold nmM9
  split
  · rfl
  · split
    · exact flM_n M 1 h
    · split
      · exact flM_n M 3 h
      · split
        · exact flM_n M 4 h
        · exact stT_n M h2
theorem TV.tn {M : zM} (h : TV M) (t : Nat) (b : Int) : TV (nmM9 t b M) := by
  unfold nmM9
  by_cases c1 : M 42 6 ≠ 0
  · rw [if_pos c1]; exact h
  rw [if_neg c1]
  by_cases c2 : M 43 9 ≠ 2
  · rw [if_pos c2]; exact h.fl 1
  rw [if_neg c2]
  split
  · exact h.fl 3
  · split
    · exact h.fl 4
    · exact h.st (by omega)
theorem lwM_n (a m : Int) (M : zM) {k : Nat} (h : k ≠ 42) (h2 : k ≠ 43) : lwM a m M k = M k := by
  unfold lwM
  split
  · exact stT_n M h2
  · exact flM_n M 2 h
theorem TV.lw {M : zM} (h : TV M) (hs : M 43 9 ≠ 0) (a m : Int) : TV (lwM a m M) := by
  unfold lwM
  split
  · exact h.st hs
  · exact h.fl 2

set_option maxRecDepth 100000 in
set_option maxHeartbeats 4000000 in
theorem m_X4_takeNumber {G : zG} {l : Launch} {L : Nat} {P : zP} {M : zM} {lo hi : Int} (hP : PFok P) (rl : inR lo) (rh : inR hi) (hv : TV M) : AM G l yX4_takeNumber mdX4_takeNumber [aR 42, aI lo, aI hi] (LAY L) P M (zdet (some (aI (lnV lo hi M))) (LAY L) P (tkM lo hi M)) := by
  refine AM.go [some (aR 42), some (aI lo), some (aI hi), none] rfl (Nat.le_of_ble_eq_true rfl) ?_ (by decide) rfl rfl
  refine a_aloadn dX4_takeNumber_0 rfl ?_
  refine a_iloadn dX4_takeNumber_1 rfl ?_
  refine a_iloadn dX4_takeNumber_2 rfl ?_
  refine a_callV (as := [_, _]) (q := 42) dX4_takeNumber_3 mvX4_98 ⟨by decide, by decide⟩ (L42 L) rfl rfl rfl (Nat.le_of_ble_eq_true rfl) ⟨rfl, rfl⟩ ⟨by decide, by decide⟩ (m_X4_lookNumber hP rl rh) ?_
  refine c_istoren (ls' := [_, _, _, _]) dX4_takeNumber_6 (by decide) rfl rfl ?_
  refine a_aloadn dX4_takeNumber_7 rfl ?_
  refine b_getI (j' := 6) dX4_takeNumber_8 flX4_43 rfl rfl (L42 L) (fun hr8 => ?_)
  refine a_if_ne (tgt := 21) dX4_takeNumber_11 (by decide) ⟨by omega, by omega⟩ (fun hb11 => ?_) (fun hb11 => ?_)
  · refine a_iloadn dX4_takeNumber_21 rfl ?_
    exact a_ireturn dX4_takeNumber_22 rfl rfl rfl (zdet_I rfl (by unfold tkM; first | (rw [if_pos (by omega)]; done) | (rw [if_neg (by omega)]; done)))
  · refine a_aloadn dX4_takeNumber_14 rfl ?_
    refine a_getR (j' := 0) (y := 43) dX4_takeNumber_15 flX4_12 rfl rfl (L42 L) (p42_0 hP) ?_
    refine a_callVv (as := []) (q := 43) dX4_takeNumber_18 mvX4_88 ⟨by decide, by decide⟩ (L43 L) rfl rfl rfl (Nat.le_of_ble_eq_true rfl) ⟨rfl, rfl⟩ ⟨by decide, by decide⟩ (m_X7_step hP ((hv.ln lo hi).lt (by have z := lnM_ok (lo := lo) (hi := hi) (M := M) (by omega); rw [lnM_n _ _ _ (by decide)]; omega))) ?_
    refine a_iloadn dX4_takeNumber_21 rfl ?_
    exact a_ireturn dX4_takeNumber_22 rfl rfl rfl (zdet_I rfl (by unfold tkM; first | (rw [if_pos (by omega)]; done) | (rw [if_neg (by omega)]; done)))

set_option maxRecDepth 100000 in
set_option maxHeartbeats 4000000 in
theorem m_X4_takeName {G : zG} {l : Launch} {L : Nat} {P : zP} {M : zM} {t : Nat} {b : Int} (hP : PFok P) (h42 : P 42 1 = some t) (hT : ToA L P t) (ht : t = 4 ∨ t = 23) (hI : ToI M t) (hv : TV M) (rb : b = 0 ∨ b = 1) : AM G l yX4_takeName mdX4_takeName [aR 42, aI b] (LAY L) P M (zdet (some (aI (tnV M))) (LAY L) P (nmM9 t b M)) := by
  refine AM.go [some (aR 42), some (aI b), none] rfl (Nat.le_of_ble_eq_true rfl) ?_ (by decide) rfl rfl
  refine a_aloadn dX4_takeName_0 rfl ?_
  refine b_getI (j' := 6) dX4_takeName_1 flX4_43 rfl rfl (L42 L) (fun hr1 => ?_)
  refine a_if_eq (tgt := 9) dX4_takeName_4 (by decide) ⟨by omega, by omega⟩ (fun hb4 => ?_) (fun hb4 => ?_)
  · refine a_aloadn dX4_takeName_9 rfl ?_
    refine a_getR (j' := 0) (y := 43) dX4_takeName_10 flX4_12 rfl rfl (L42 L) (p42_0 hP) ?_
    refine b_getI (j' := 11) dX4_takeName_13 flX4_60 rfl rfl (L43 L) (fun hr13 => ?_)
    refine c_istoren (ls' := [_, _, _]) dX4_takeName_16 (by decide) rfl rfl ?_
    refine a_aloadn dX4_takeName_17 rfl ?_
    refine a_getR (j' := 0) (y := 43) dX4_takeName_18 flX4_12 rfl rfl (L42 L) (p42_0 hP) ?_
    refine b_getI (j' := 9) dX4_takeName_21 flX4_50 rfl rfl (L43 L) (fun hr21 => ?_)
    refine a_iconst dX4_takeName_24 ?_
    refine a_icmp_eq (tgt := 36) dX4_takeName_25 (by decide) hr21 ⟨by omega, by omega⟩ (fun hb25 => ?_) (fun hb25 => ?_)
    · refine a_iloadn dX4_takeName_36 rfl ?_
      refine a_if_eq (tgt := 60) dX4_takeName_37 (by decide) (by rcases rb with z | z <;> exact ⟨by omega, by omega⟩) (fun hb37 => ?_) (fun hb37 => ?_)
      · refine a_iloadn dX4_takeName_60 rfl ?_
        refine a_if_ne (tgt := 84) dX4_takeName_61 (by decide) (by rcases rb with z | z <;> exact ⟨by omega, by omega⟩) (fun hb61 => ?_) (fun hb61 => ?_)
        · refine a_aloadn dX4_takeName_84 rfl ?_
          refine a_getR (j' := 0) (y := 43) dX4_takeName_85 flX4_12 rfl rfl (L42 L) (p42_0 hP) ?_
          refine a_callVv (as := []) (q := 43) dX4_takeName_88 mvX4_88 ⟨by decide, by decide⟩ (L43 L) rfl rfl rfl (Nat.le_of_ble_eq_true rfl) ⟨rfl, rfl⟩ ⟨by decide, by decide⟩ (m_X7_step hP (hv.lt (by omega))) ?_
          refine a_iloadn dX4_takeName_91 rfl ?_
          exact a_ireturn dX4_takeName_92 rfl rfl rfl (by first | (exfalso; omega) | exact zdet_I (by unfold tnV; rw [if_neg (by omega)]) (by unfold nmM9; rw [if_neg (by omega), if_pos (by omega)]) | exact zdet_I (by unfold tnV; rw [if_neg (by omega)]) (by unfold nmM9; rw [if_neg (by omega), if_neg (by omega), if_pos (by omega)]) | exact zdet_I (by unfold tnV; rw [if_neg (by omega)]) (by unfold nmM9; rw [if_neg (by omega), if_neg (by omega), if_neg (by omega), if_pos (by omega)]) | exact zdet_I (by unfold tnV; rw [if_neg (by omega)]) (by unfold nmM9; rw [if_neg (by omega), if_neg (by omega), if_neg (by omega), if_neg (by omega)]) )
        · refine a_aloadn dX4_takeName_64 rfl ?_
          refine a_getR (j' := 1) (y := t) dX4_takeName_65 flX4_26 rfl rfl (L42 L) h42 ?_
          refine a_iloadn dX4_takeName_68 rfl ?_
          refine a_callV (as := [_]) (q := t) dX4_takeName_69 mvX4_102 ⟨by decide, by decide⟩ hT.1.2.1 rfl rfl rfl (Nat.le_of_ble_eq_true rfl) ⟨rfl, rfl⟩ ⟨by decide, by decide⟩ (m_X8_houseOf hT hI hr13) ?_
          have hz := zfind_in (M (t + 1)) (M 43 11) (M t 2).toNat 0 (by omega)
          have q1 := hI.1
          refine a_stk (st' := [aI (hoT t M (M 43 11))]) rfl ?_
          have hz2 : hoT t M (M 43 11) = -1 ∨ (0 ≤ hoT t M (M 43 11) ∧ hoT t M (M 43 11) < 0 + ((M t 2).toNat : Int) ∧ M (t + 1) (hoT t M (M 43 11)) = M 43 11) := hz
          refine a_iconst dX4_takeName_72 ?_
          refine a_icmp_ne (tgt := 84) dX4_takeName_73 (by decide) ⟨by omega, by omega⟩ ⟨by omega, by omega⟩ (fun hb73 => ?_) (fun hb73 => ?_)
          · refine a_aloadn dX4_takeName_84 rfl ?_
            refine a_getR (j' := 0) (y := 43) dX4_takeName_85 flX4_12 rfl rfl (L42 L) (p42_0 hP) ?_
            refine a_callVv (as := []) (q := 43) dX4_takeName_88 mvX4_88 ⟨by decide, by decide⟩ (L43 L) rfl rfl rfl (Nat.le_of_ble_eq_true rfl) ⟨rfl, rfl⟩ ⟨by decide, by decide⟩ (m_X7_step hP (hv.lt (by omega))) ?_
            refine a_iloadn dX4_takeName_91 rfl ?_
            exact a_ireturn dX4_takeName_92 rfl rfl rfl (by first | (exfalso; omega) | exact zdet_I (by unfold tnV; rw [if_neg (by omega)]) (by unfold nmM9; rw [if_neg (by omega), if_pos (by omega)]) | exact zdet_I (by unfold tnV; rw [if_neg (by omega)]) (by unfold nmM9; rw [if_neg (by omega), if_neg (by omega), if_pos (by omega)]) | exact zdet_I (by unfold tnV; rw [if_neg (by omega)]) (by unfold nmM9; rw [if_neg (by omega), if_neg (by omega), if_neg (by omega), if_pos (by omega)]) | exact zdet_I (by unfold tnV; rw [if_neg (by omega)]) (by unfold nmM9; rw [if_neg (by omega), if_neg (by omega), if_neg (by omega), if_neg (by omega)]) )
          · refine a_aloadn dX4_takeName_76 rfl ?_
            refine a_iconst dX4_takeName_77 ?_
            refine a_callVv (as := [_]) (q := 42) dX4_takeName_78 mvX4_80 ⟨by decide, by decide⟩ (L42 L) rfl rfl rfl (Nat.le_of_ble_eq_true rfl) ⟨rfl, rfl⟩ ⟨by decide, by decide⟩ (m_X4_fail hP ⟨by omega, by omega⟩) ?_
            refine a_goto (tgt := 91) dX4_takeName_81 (by decide) ?_
            refine a_iloadn dX4_takeName_91 rfl ?_
            exact a_ireturn dX4_takeName_92 rfl rfl rfl (by first | (exfalso; omega) | exact zdet_I (by unfold tnV; rw [if_neg (by omega)]) (by unfold nmM9; rw [if_neg (by omega), if_pos (by omega)]) | exact zdet_I (by unfold tnV; rw [if_neg (by omega)]) (by unfold nmM9; rw [if_neg (by omega), if_neg (by omega), if_pos (by omega)]) | exact zdet_I (by unfold tnV; rw [if_neg (by omega)]) (by unfold nmM9; rw [if_neg (by omega), if_neg (by omega), if_neg (by omega), if_pos (by omega)]) | exact zdet_I (by unfold tnV; rw [if_neg (by omega)]) (by unfold nmM9; rw [if_neg (by omega), if_neg (by omega), if_neg (by omega), if_neg (by omega)]) )
      · refine a_aloadn dX4_takeName_40 rfl ?_
        refine a_getR (j' := 1) (y := t) dX4_takeName_41 flX4_26 rfl rfl (L42 L) h42 ?_
        refine a_iloadn dX4_takeName_44 rfl ?_
        refine a_callV (as := [_]) (q := t) dX4_takeName_45 mvX4_102 ⟨by decide, by decide⟩ hT.1.2.1 rfl rfl rfl (Nat.le_of_ble_eq_true rfl) ⟨rfl, rfl⟩ ⟨by decide, by decide⟩ (m_X8_houseOf hT hI hr13) ?_
        have hz := zfind_in (M (t + 1)) (M 43 11) (M t 2).toNat 0 (by omega)
        have q1 := hI.1
        refine a_stk (st' := [aI (hoT t M (M 43 11))]) rfl ?_
        have hz2 : hoT t M (M 43 11) = -1 ∨ (0 ≤ hoT t M (M 43 11) ∧ hoT t M (M 43 11) < 0 + ((M t 2).toNat : Int) ∧ M (t + 1) (hoT t M (M 43 11)) = M 43 11) := hz
        refine a_iconst dX4_takeName_48 ?_
        refine a_icmp_eq (tgt := 60) dX4_takeName_49 (by decide) ⟨by omega, by omega⟩ ⟨by omega, by omega⟩ (fun hb49 => ?_) (fun hb49 => ?_)
        · refine a_iloadn dX4_takeName_60 rfl ?_
          refine a_if_ne (tgt := 84) dX4_takeName_61 (by decide) (by rcases rb with z | z <;> exact ⟨by omega, by omega⟩) (fun hb61 => ?_) (fun hb61 => ?_)
          · refine a_aloadn dX4_takeName_84 rfl ?_
            refine a_getR (j' := 0) (y := 43) dX4_takeName_85 flX4_12 rfl rfl (L42 L) (p42_0 hP) ?_
            refine a_callVv (as := []) (q := 43) dX4_takeName_88 mvX4_88 ⟨by decide, by decide⟩ (L43 L) rfl rfl rfl (Nat.le_of_ble_eq_true rfl) ⟨rfl, rfl⟩ ⟨by decide, by decide⟩ (m_X7_step hP (hv.lt (by omega))) ?_
            refine a_iloadn dX4_takeName_91 rfl ?_
            exact a_ireturn dX4_takeName_92 rfl rfl rfl (by first | (exfalso; omega) | exact zdet_I (by unfold tnV; rw [if_neg (by omega)]) (by unfold nmM9; rw [if_neg (by omega), if_pos (by omega)]) | exact zdet_I (by unfold tnV; rw [if_neg (by omega)]) (by unfold nmM9; rw [if_neg (by omega), if_neg (by omega), if_pos (by omega)]) | exact zdet_I (by unfold tnV; rw [if_neg (by omega)]) (by unfold nmM9; rw [if_neg (by omega), if_neg (by omega), if_neg (by omega), if_pos (by omega)]) | exact zdet_I (by unfold tnV; rw [if_neg (by omega)]) (by unfold nmM9; rw [if_neg (by omega), if_neg (by omega), if_neg (by omega), if_neg (by omega)]) )
          · refine a_aloadn dX4_takeName_64 rfl ?_
            refine a_getR (j' := 1) (y := t) dX4_takeName_65 flX4_26 rfl rfl (L42 L) h42 ?_
            refine a_iloadn dX4_takeName_68 rfl ?_
            refine a_callV (as := [_]) (q := t) dX4_takeName_69 mvX4_102 ⟨by decide, by decide⟩ hT.1.2.1 rfl rfl rfl (Nat.le_of_ble_eq_true rfl) ⟨rfl, rfl⟩ ⟨by decide, by decide⟩ (m_X8_houseOf hT hI hr13) ?_
            have hz := zfind_in (M (t + 1)) (M 43 11) (M t 2).toNat 0 (by omega)
            have q1 := hI.1
            refine a_stk (st' := [aI (hoT t M (M 43 11))]) rfl ?_
            have hz2 : hoT t M (M 43 11) = -1 ∨ (0 ≤ hoT t M (M 43 11) ∧ hoT t M (M 43 11) < 0 + ((M t 2).toNat : Int) ∧ M (t + 1) (hoT t M (M 43 11)) = M 43 11) := hz
            refine a_iconst dX4_takeName_72 ?_
            refine a_icmp_ne (tgt := 84) dX4_takeName_73 (by decide) ⟨by omega, by omega⟩ ⟨by omega, by omega⟩ (fun hb73 => ?_) (fun hb73 => ?_)
            · refine a_aloadn dX4_takeName_84 rfl ?_
              refine a_getR (j' := 0) (y := 43) dX4_takeName_85 flX4_12 rfl rfl (L42 L) (p42_0 hP) ?_
              refine a_callVv (as := []) (q := 43) dX4_takeName_88 mvX4_88 ⟨by decide, by decide⟩ (L43 L) rfl rfl rfl (Nat.le_of_ble_eq_true rfl) ⟨rfl, rfl⟩ ⟨by decide, by decide⟩ (m_X7_step hP (hv.lt (by omega))) ?_
              refine a_iloadn dX4_takeName_91 rfl ?_
              exact a_ireturn dX4_takeName_92 rfl rfl rfl (by first | (exfalso; omega) | exact zdet_I (by unfold tnV; rw [if_neg (by omega)]) (by unfold nmM9; rw [if_neg (by omega), if_pos (by omega)]) | exact zdet_I (by unfold tnV; rw [if_neg (by omega)]) (by unfold nmM9; rw [if_neg (by omega), if_neg (by omega), if_pos (by omega)]) | exact zdet_I (by unfold tnV; rw [if_neg (by omega)]) (by unfold nmM9; rw [if_neg (by omega), if_neg (by omega), if_neg (by omega), if_pos (by omega)]) | exact zdet_I (by unfold tnV; rw [if_neg (by omega)]) (by unfold nmM9; rw [if_neg (by omega), if_neg (by omega), if_neg (by omega), if_neg (by omega)]) )
            · refine a_aloadn dX4_takeName_76 rfl ?_
              refine a_iconst dX4_takeName_77 ?_
              refine a_callVv (as := [_]) (q := 42) dX4_takeName_78 mvX4_80 ⟨by decide, by decide⟩ (L42 L) rfl rfl rfl (Nat.le_of_ble_eq_true rfl) ⟨rfl, rfl⟩ ⟨by decide, by decide⟩ (m_X4_fail hP ⟨by omega, by omega⟩) ?_
              refine a_goto (tgt := 91) dX4_takeName_81 (by decide) ?_
              refine a_iloadn dX4_takeName_91 rfl ?_
              exact a_ireturn dX4_takeName_92 rfl rfl rfl (by first | (exfalso; omega) | exact zdet_I (by unfold tnV; rw [if_neg (by omega)]) (by unfold nmM9; rw [if_neg (by omega), if_pos (by omega)]) | exact zdet_I (by unfold tnV; rw [if_neg (by omega)]) (by unfold nmM9; rw [if_neg (by omega), if_neg (by omega), if_pos (by omega)]) | exact zdet_I (by unfold tnV; rw [if_neg (by omega)]) (by unfold nmM9; rw [if_neg (by omega), if_neg (by omega), if_neg (by omega), if_pos (by omega)]) | exact zdet_I (by unfold tnV; rw [if_neg (by omega)]) (by unfold nmM9; rw [if_neg (by omega), if_neg (by omega), if_neg (by omega), if_neg (by omega)]) )
        · refine a_aloadn dX4_takeName_52 rfl ?_
          refine a_iconst dX4_takeName_53 ?_
          refine a_callVv (as := [_]) (q := 42) dX4_takeName_54 mvX4_80 ⟨by decide, by decide⟩ (L42 L) rfl rfl rfl (Nat.le_of_ble_eq_true rfl) ⟨rfl, rfl⟩ ⟨by decide, by decide⟩ (m_X4_fail hP ⟨by omega, by omega⟩) ?_
          refine a_goto (tgt := 91) dX4_takeName_57 (by decide) ?_
          refine a_iloadn dX4_takeName_91 rfl ?_
          exact a_ireturn dX4_takeName_92 rfl rfl rfl (by first | (exfalso; omega) | exact zdet_I (by unfold tnV; rw [if_neg (by omega)]) (by unfold nmM9; rw [if_neg (by omega), if_pos (by omega)]) | exact zdet_I (by unfold tnV; rw [if_neg (by omega)]) (by unfold nmM9; rw [if_neg (by omega), if_neg (by omega), if_pos (by omega)]) | exact zdet_I (by unfold tnV; rw [if_neg (by omega)]) (by unfold nmM9; rw [if_neg (by omega), if_neg (by omega), if_neg (by omega), if_pos (by omega)]) | exact zdet_I (by unfold tnV; rw [if_neg (by omega)]) (by unfold nmM9; rw [if_neg (by omega), if_neg (by omega), if_neg (by omega), if_neg (by omega)]) )
    · refine a_aloadn dX4_takeName_28 rfl ?_
      refine a_iconst dX4_takeName_29 ?_
      refine a_callVv (as := [_]) (q := 42) dX4_takeName_30 mvX4_80 ⟨by decide, by decide⟩ (L42 L) rfl rfl rfl (Nat.le_of_ble_eq_true rfl) ⟨rfl, rfl⟩ ⟨by decide, by decide⟩ (m_X4_fail hP ⟨by omega, by omega⟩) ?_
      refine a_goto (tgt := 91) dX4_takeName_33 (by decide) ?_
      refine a_iloadn dX4_takeName_91 rfl ?_
      exact a_ireturn dX4_takeName_92 rfl rfl rfl (by first | (exfalso; omega) | exact zdet_I (by unfold tnV; rw [if_neg (by omega)]) (by unfold nmM9; rw [if_neg (by omega), if_pos (by omega)]) | exact zdet_I (by unfold tnV; rw [if_neg (by omega)]) (by unfold nmM9; rw [if_neg (by omega), if_neg (by omega), if_pos (by omega)]) | exact zdet_I (by unfold tnV; rw [if_neg (by omega)]) (by unfold nmM9; rw [if_neg (by omega), if_neg (by omega), if_neg (by omega), if_pos (by omega)]) | exact zdet_I (by unfold tnV; rw [if_neg (by omega)]) (by unfold nmM9; rw [if_neg (by omega), if_neg (by omega), if_neg (by omega), if_neg (by omega)]) )
  · refine a_iconst dX4_takeName_7 ?_
    exact a_ireturn dX4_takeName_8 rfl rfl rfl (zdet_I (by unfold tnV; rw [if_pos (by omega)]) (by unfold nmM9; rw [if_pos (by omega)]))

set_option maxRecDepth 100000 in
set_option maxHeartbeats 4000000 in
theorem m_X4_takeLineEnd {G : zG} {l : Launch} {L : Nat} {P : zP} {M : zM} {t : Nat} (hP : PFok P) (h42 : P 42 1 = some t) (hT : ToA L P t) (ht : t = 4 ∨ t = 23) (hv : TV M) (hl : 0 ≤ M t 0 ∧ M t 0 ≤ 1000) : AM G l yX4_takeLineEnd mdX4_takeLineEnd [aR 42] (LAY L) P M (zdet none (LAY L) P (leM t M)) := by
  refine AM.go [some (aR 42)] rfl (Nat.le_of_ble_eq_true rfl) ?_ (by decide) rfl rfl
  refine a_aloadn dX4_takeLineEnd_0 rfl ?_
  refine b_getI (j' := 6) dX4_takeLineEnd_1 flX4_43 rfl rfl (L42 L) (fun hr1 => ?_)
  refine a_if_eq (tgt := 8) dX4_takeLineEnd_4 (by decide) ⟨by omega, by omega⟩ (fun hb4 => ?_) (fun hb4 => ?_)
  · refine a_aloadn dX4_takeLineEnd_8 rfl ?_
    refine a_getR (j' := 0) (y := 43) dX4_takeLineEnd_9 flX4_12 rfl rfl (L42 L) (p42_0 hP) ?_
    refine a_bipush (w := 15) dX4_takeLineEnd_12 (by decide) ?_
    refine a_oneV (as := [_]) (q := 43) dX4_takeLineEnd_14 mvX4_84 ⟨by decide, by decide⟩ (L43 L) rfl rfl rfl (Nat.le_of_ble_eq_true rfl) ⟨rfl, rfl⟩ ⟨by decide, by decide⟩ (m_X7_isSign ⟨by omega, by omega⟩) (fun x14 hx14 => ?_)
    refine a_if_ne (tgt := 26) dX4_takeLineEnd_17 (by decide) ⟨by omega, by omega⟩ (fun hb17 => ?_) (fun hb17 => ?_)
    · refine a_aloadn dX4_takeLineEnd_26 rfl ?_
      refine a_getR (j' := 0) (y := 43) dX4_takeLineEnd_27 flX4_12 rfl rfl (L42 L) (p42_0 hP) ?_
      refine a_callVv (as := []) (q := 43) dX4_takeLineEnd_30 mvX4_88 ⟨by decide, by decide⟩ (L43 L) rfl rfl rfl (Nat.le_of_ble_eq_true rfl) ⟨rfl, rfl⟩ ⟨by decide, by decide⟩ (m_X7_step hP (hv.lt (by omega))) ?_
      refine a_aloadn dX4_takeLineEnd_33 rfl ?_
      refine a_getR (j' := 1) (y := t) dX4_takeLineEnd_34 flX4_26 rfl rfl (L42 L) h42 ?_
      refine a_dupR dX4_takeLineEnd_37 ?_
      refine b_getI (j' := 0) dX4_takeLineEnd_38 flX4_91 rfl rfl hT.1.2.1 (fun hr38 => ?_)
      have et : stT M t = M t := stT_n M (by omega)
      rw [et] at hr38
      rw [et]
      refine a_iconst dX4_takeLineEnd_41 ?_
      refine a_iadd dX4_takeLineEnd_42 ?_
      refine a_putI (j' := 0) dX4_takeLineEnd_43 flX4_91 rfl rfl hT.1.2.1 hT.1.1 rfl ⟨by omega, by omega⟩ ?_
      exact a_return dX4_takeLineEnd_46 rfl rfl rfl (zdet_V (by unfold leM; rw [if_neg (by omega), if_pos (by omega)]))
    · refine a_aloadn dX4_takeLineEnd_20 rfl ?_
      refine a_iconst dX4_takeLineEnd_21 ?_
      refine a_callVv (as := [_]) (q := 42) dX4_takeLineEnd_22 mvX4_80 ⟨by decide, by decide⟩ (L42 L) rfl rfl rfl (Nat.le_of_ble_eq_true rfl) ⟨rfl, rfl⟩ ⟨by decide, by decide⟩ (m_X4_fail hP ⟨by omega, by omega⟩) ?_
      exact a_return dX4_takeLineEnd_25 rfl rfl rfl (zdet_V (by unfold leM; rw [if_neg (by omega), if_neg (by omega)]))
  · exact a_return dX4_takeLineEnd_7 rfl rfl rfl (zdet_V (by unfold leM; rw [if_pos (by omega)]))

theorem lwM_ok {a m : Int} {M : zM} (h0 : M 42 6 = 0) (h : lwM a m M 42 6 = 0) : a < m ∧ lwM a m M = stT M := by
  unfold lwM at h ⊢
  by_cases c : a < m
  · rw [if_pos c]; exact ⟨c, rfl⟩
  · rw [if_neg c, (flM_6 2 h0).1] at h; omega
theorem tk_ne {lo hi : Int} {M : zM} (h : M 42 6 ≠ 0) : tkM lo hi M = M := by
  have e : lnM lo hi M = M := by unfold lnM; rw [if_pos h]
  unfold tkM
  rw [e, if_neg h]
theorem tn_ne {t : Nat} {b : Int} {M : zM} (h : M 42 6 ≠ 0) : nmM9 t b M = M := by unfold nmM9; rw [if_pos h]
theorem ln_ne {lo hi : Int} {M : zM} (h : M 42 6 ≠ 0) : lnM lo hi M = M := by unfold lnM; rw [if_pos h]
theorem tk_f {lo hi : Int} {M : zM} (h : tkM lo hi M 42 6 = 0) : M 42 6 = 0 := by
  by_cases c : M 42 6 = 0
  · exact c
  · rw [tk_ne c] at h; exact h
theorem tn_f {t : Nat} {b : Int} {M : zM} (h : nmM9 t b M 42 6 = 0) : M 42 6 = 0 := by
  by_cases c : M 42 6 = 0
  · exact c
  · rw [tn_ne c] at h; exact h
theorem ln_f {lo hi : Int} {M : zM} (h : lnM lo hi M 42 6 = 0) : M 42 6 = 0 := by
  by_cases c : M 42 6 = 0
  · exact c
  · rw [ln_ne c] at h; exact h
theorem tn_ok {t : Nat} {b : Int} {M : zM} (h : nmM9 t b M 42 6 = 0) : M 42 6 = 0 ∧ M 43 9 = 2 ∧ nmM9 t b M = stT M ∧ (b ≠ 0 → hoT t M (M 43 11) = -1) ∧ (b = 0 → hoT t M (M 43 11) ≠ -1) := by
  have h0 := tn_f h
  unfold nmM9 at h ⊢
  rw [if_neg (by omega)] at h ⊢
  by_cases c2 : M 43 9 ≠ 2
  · rw [if_pos c2, (flM_6 1 h0).1] at h; omega
  rw [if_neg c2] at h ⊢
  by_cases c3 : b ≠ 0 ∧ hoT t M (M 43 11) ≠ -1
  · rw [if_pos c3, (flM_6 3 h0).1] at h; omega
  rw [if_neg c3] at h ⊢
  by_cases c4 : b = 0 ∧ hoT t M (M 43 11) = -1
  · rw [if_pos c4, (flM_6 4 h0).1] at h; omega
  rw [if_neg c4]
  exact ⟨h0, by omega, rfl, by omega, by omega⟩

theorem ToI.eq {M M' : zM} {t : Nat} (h : ToI M t) (e : ∀ k : Nat, t ≤ k → k ≤ t + 18 → M' k = M k) : ToI M' t := by
  unfold ToI at *
  rw [e t (by omega) (by omega), e (t + 2) (by omega) (by omega), e (t + 3) (by omega) (by omega), e (t + 4) (by omega) (by omega), e (t + 5) (by omega) (by omega), e (t + 6) (by omega) (by omega), e (t + 7) (by omega) (by omega), e (t + 8) (by omega) (by omega), e (t + 9) (by omega) (by omega), e (t + 10) (by omega) (by omega)]
  exact h

theorem lnV_in (lo hi : Int) {M : zM} (h : lo ≤ hi) : lo ≤ lnV lo hi M ∧ lnV lo hi M ≤ hi := by
  unfold lnV
  split <;> omega
theorem tnV_in {M : zM} (h : inR (M 43 11)) : inR (tnV M) := by
  unfold tnV
  split
  · exact ⟨by omega, by omega⟩
  · exact h
theorem hoT_in {M : zM} {t : Nat} (hI : ToI M t) (x : Int) : -1 ≤ hoT t M x ∧ hoT t M x ≤ 5 ∧ hoT t M x < (if 0 ≤ M t 2 then M t 2 else 0) := by
  have q := hI.1
  have z := zfind_in (M (t + 1)) x (M t 2).toNat 0 (by omega)
  unfold hoT
  rw [if_pos q.1]
  rcases z with z | z
  · rw [z]; omega
  · omega

set_option maxRecDepth 100000 in
set_option maxHeartbeats 4000000 in
theorem m_X4_readHouse {G : zG} {l : Launch} {L : Nat} {P : zP} {M : zM} {t : Nat} (hP : PFok P) (h42 : P 42 1 = some t) (hT : ToA L P t) (ht : t = 4 ∨ t = 23) (hI : ToI M t) (hv : TV M) (hs : M 43 9 ≠ 0) (h0 : M 42 6 = 0) (rV : inR (lwM (M t 2) 6 M 43 11)) : AM G l yX4_readHouse mdX4_readHouse [aR 42] (LAY L) P M (zdet none (LAY L) P (rhM t M)) := by
  have q1 := hI.1
  have q6 := hI.2.1
  have q10 := hI.2.2.1
  refine AM.go [some (aR 42), none, none, none] rfl (Nat.le_of_ble_eq_true rfl) ?_ (by decide) rfl rfl
  refine a_aloadn dX4_readHouse_0 rfl ?_
  refine a_aloadn dX4_readHouse_1 rfl ?_
  refine a_getR (j' := 1) (y := t) dX4_readHouse_2 flX4_26 rfl rfl (L42 L) h42 ?_
  refine b_getI (j' := 2) dX4_readHouse_5 flX4_106 rfl rfl hT.1.2.1 (fun hr5 => ?_)
  refine a_bipush (w := 6) dX4_readHouse_8 (by decide) ?_
  refine a_callVv (as := [_, _]) (q := 42) dX4_readHouse_10 mvX4_109 ⟨by decide, by decide⟩ (L42 L) rfl rfl rfl (Nat.le_of_ble_eq_true rfl) ⟨rfl, rfl⟩ ⟨by decide, by decide⟩ (m_X4_takeLineWord hP ⟨by omega, by omega⟩ ⟨by omega, by omega⟩ hv hs) ?_
  obtain ⟨M1, e1⟩ : ∃ M1, M1 = lwM (M t 2) 6 M := ⟨_, rfl⟩
  rw [← e1]
  have v1 : TV M1 := by rw [e1]; exact hv.lw hs _ _
  have r1 : ∀ k : Nat, t ≤ k → k ≤ t + 18 → M1 k = M k := fun k h1 h2 => by rw [e1]; exact lwM_n _ _ _ (by omega) (by omega)
  have i1 : ToI M1 t := hI.eq r1
  refine a_aloadn dX4_readHouse_13 rfl ?_
  refine a_iconst dX4_readHouse_14 ?_
  refine a_callV (as := [_]) (q := 42) dX4_readHouse_15 mvX4_113 ⟨by decide, by decide⟩ (L42 L) rfl rfl rfl (Nat.le_of_ble_eq_true rfl) ⟨rfl, rfl⟩ ⟨by decide, by decide⟩ (m_X4_takeName hP h42 hT ht i1 v1 (Or.inr rfl)) ?_
  obtain ⟨M2, e2⟩ : ∃ M2, M2 = nmM9 t 1 M1 := ⟨_, rfl⟩
  rw [← e2]
  have v2 : TV M2 := by rw [e2]; exact v1.tn _ _
  have r2 : ∀ k : Nat, t ≤ k → k ≤ t + 18 → M2 k = M k := fun k h1 h2 => by rw [e2, nmM9_n _ _ _ (by omega) (by omega)]; exact r1 k h1 h2
  have i2 : ToI M2 t := hI.eq r2
  refine c_istoren (ls' := [_, _, _, _]) dX4_readHouse_18 (by decide) rfl rfl ?_
  refine a_aloadn dX4_readHouse_19 rfl ?_
  refine a_iconst dX4_readHouse_20 ?_
  refine a_bipush (w := 99) dX4_readHouse_21 (by decide) ?_
  refine a_callV (as := [_, _]) (q := 42) dX4_readHouse_23 mvX4_117 ⟨by decide, by decide⟩ (L42 L) rfl rfl rfl (Nat.le_of_ble_eq_true rfl) ⟨rfl, rfl⟩ ⟨by decide, by decide⟩ (m_X4_takeNumber hP ⟨by omega, by omega⟩ ⟨by omega, by omega⟩ v2) ?_
  obtain ⟨M3, e3⟩ : ∃ M3, M3 = tkM 0 99 M2 := ⟨_, rfl⟩
  rw [← e3]
  have v3 : TV M3 := by rw [e3]; exact v2.tk _ _
  have r3 : ∀ k : Nat, t ≤ k → k ≤ t + 18 → M3 k = M k := fun k h1 h2 => by rw [e3, tkM_n _ _ _ (by omega) (by omega)]; exact r2 k h1 h2
  refine c_istoren (ls' := [_, _, _, _]) dX4_readHouse_26 (by decide) rfl rfl ?_
  refine a_aloadn dX4_readHouse_27 rfl ?_
  refine a_iconst dX4_readHouse_28 ?_
  refine a_bipush (w := 9) dX4_readHouse_29 (by decide) ?_
  refine a_callV (as := [_, _]) (q := 42) dX4_readHouse_31 mvX4_117 ⟨by decide, by decide⟩ (L42 L) rfl rfl rfl (Nat.le_of_ble_eq_true rfl) ⟨rfl, rfl⟩ ⟨by decide, by decide⟩ (m_X4_takeNumber hP ⟨by omega, by omega⟩ ⟨by omega, by omega⟩ v3) ?_
  obtain ⟨M4, e4⟩ : ∃ M4, M4 = tkM 0 9 M3 := ⟨_, rfl⟩
  rw [← e4]
  have v4 : TV M4 := by rw [e4]; exact v3.tk _ _
  have r4 : ∀ k : Nat, t ≤ k → k ≤ t + 18 → M4 k = M k := fun k h1 h2 => by rw [e4, tkM_n _ _ _ (by omega) (by omega)]; exact r3 k h1 h2
  refine c_istoren (ls' := [_, _, _, _]) dX4_readHouse_34 (by decide) rfl rfl ?_
  refine a_aloadn dX4_readHouse_35 rfl ?_
  refine b_getI (j' := 6) dX4_readHouse_36 flX4_43 rfl rfl (L42 L) (fun hr36 => ?_)
  refine a_if_ne (tgt := 52) dX4_readHouse_39 (by decide) ⟨by omega, by omega⟩ (fun hb39 => ?_) (fun hb39 => ?_)
  · exact a_return dX4_readHouse_52 rfl rfl rfl (zdet_V (by unfold rhM; simp only []; rw [← e1, ← e2, ← e3, ← e4]; first | (rw [if_pos (by omega)]; done) | (rw [if_neg (by omega)]; done)))
  · refine a_aloadn dX4_readHouse_42 rfl ?_
    refine a_getR (j' := 1) (y := t) dX4_readHouse_43 flX4_26 rfl rfl (L42 L) h42 ?_
    refine a_iloadn dX4_readHouse_46 rfl ?_
    refine a_iloadn dX4_readHouse_47 rfl ?_
    refine a_iloadn dX4_readHouse_48 rfl ?_
    have g1 := lnV_in 0 99 (M := M2) (by omega)
    have g2 := lnV_in 0 9 (M := M3) (by omega)
    have g3 := tnV_in (M := M1) (by rw [e1]; exact rV)
    have k4 : M4 42 6 = 0 := by omega
    have k3 : M3 42 6 = 0 := tk_f (by rw [← e4]; exact k4)
    have k2 : M2 42 6 = 0 := tk_f (by rw [← e3]; exact k3)
    have k1 : M1 42 6 = 0 := tn_f (by rw [← e2]; exact k2)
    have hlt := (lwM_ok h0 (by rw [← e1]; exact k1)).1
    refine a_callVv (as := [_, _, _]) (q := t) dX4_readHouse_49 mvX4_120 ⟨by decide, by decide⟩ hT.1.2.1 rfl rfl rfl (Nat.le_of_ble_eq_true rfl) ⟨rfl, rfl⟩ ⟨by decide, by decide⟩ (m_X8_addHouse hT (by rw [r4 t (by omega) (by omega)]; omega) g3 ⟨by omega, by omega⟩ ⟨by omega, by omega⟩) ?_
    exact a_return dX4_readHouse_52 rfl rfl rfl (zdet_V (by unfold rhM; simp only []; rw [← e1, ← e2, ← e3, ← e4]; first | (rw [if_pos (by omega)]; done) | (rw [if_neg (by omega)]; done)))
