theorem DgR.ci {L : Nat} {P : zP} {M M' : zM} {t : Nat} {x : Int} (hv : CV L P M t) (h : DgR t M x M') (hx : 0 ≤ x ∧ x ≤ 2147483647) : CI M' t 67 := by
  obtain ⟨h1, h2, h3, h4, h5, h6⟩ := h
  have hv1 := h5.cv hv
  have hI := hv.2.1.2.2.1
  refine hv1.2.1.sw ⟨fun j j0 j1 => ?_, fun j j0 j1 => ?_, fun j j0 j1 => ?_, fun j j0 j1 => ?_, fun j j0 j1 => ?_, ?_, ?_⟩
  · rw [(h1 j j0 j1).1]; exact hI.1 j j0 j1
  · rw [(h1 j j0 j1).2.1]; exact hI.2.1 j j0 j1
  · rw [(h1 j j0 j1).2.2.1]; exact hI.2.2.1 j j0 j1
  · rw [(h1 j j0 j1).2.2.2]; exact hI.2.2.2.1 j j0 j1
  · rw [h2 j j0 j1]; exact hI.2.2.2.2.1 j j0 j1
  · rw [h3]; exact hI.2.2.2.2.2.1
  · rw [h4]; exact hx
/-- the hours are drawn in a memory that is M but for scratch -/
def Dd (t : Nat) (M M' : zM) : Prop := Cn t M M' ∧ (M' 50 2 = (if M (t + 10) 2 = 0 then 0 else if M (t + 10) 2 = 100 then 1 else 2) ∧ M' 50 3 = 1 ∧ M' 50 4 = 1 ∧ M' 50 5 = -1)
theorem Dd.cy {L : Nat} {P : zP} {M M1 M2 : zM} {t : Nat} (x : Int) (hv : CV L P M t) (h : Dd t M M1) (h2 : CyR M1 67 61 M2) : DgR t M x (sm M2 67 6 x) := by
  obtain ⟨a1, a2, a3, a4, a5⟩ := h2
  have ht := hv.1.2.2.2.1
  refine ⟨fun j j0 j1 => ?_, fun j j0 j1 => ?_, ?_, ?_, (h.1.fa a5).sm (by omega) _ _, ?_⟩
  · have := a1 j j0 j1
    rw [sm_n (by decide), sm_n (by decide), sm_n (by decide), sm_n (by decide), ← h.1.1 62 (by omega), ← h.1.1 63 (by omega), ← h.1.1 64 (by omega), ← h.1.1 65 (by omega)]
    exact this
  · rw [sm_n (by decide), ← h.1.1 66 (by omega)]; exact a2 j j0 j1
  · rw [sm_k, us_n (by decide), ← h.1.1 61 (by omega)]; exact a3
  · rw [sm_s]
  · rw [sm_n (by decide), a5 50 (by omega)]; exact h.2

set_option maxRecDepth 100000 in
set_option maxHeartbeats 4000000 in
theorem lpX10_chance {G : zG} {l : Launch} {L : Nat} {P : zP} {M0 : zM} {t : Nat} {sd n9 h o : Int} (hv : CV L P M0 t) (hw : two (M0 t 2) h o) (hn : 1 ≤ n9 ∧ n9 ≤ 99) : ∀ (n : Nat) (i x acc : Int) (M : zM) (g0 : 0 ≤ i) (g1 : i + n = 10) (ga : 0 ≤ acc ∧ acc ≤ i) (gx : 0 ≤ x ∧ x ≤ 2147483647) (hd : Dd t M0 M) (Q : Int → Prop) (hQ : ∀ r, chP t M0 n9.toNat h o n x acc r → Q r), AW G l mdX10_chance (zany (LAY L) P (fun r M' => Cn t M0 M' ∧ Q r)) 42 [some (aR 2), some (aI sd), some (aI n9), some (aI h), some (aI o), some (aI x), some (aI acc), some (aI i)] [] (LAY L) P M 0 0 := by
  intro n
  induction n with
  | zero =>
    intro i x acc M g0 g1 ga gx hd Q hQ
    obtain ⟨hc, hi, hxt, hnr, hhr⟩ := id hv
    obtain ⟨hP, hTp, hT, ht, hS, ha⟩ := id hc
    have q1 := hi.1.1
    have sg := st_guess L hP
    have sn := st_now L hP
    unfold two at hw
    refine a_iload dX10_chance_42 rfl ?_
    refine a_bipush (w := 10) dX10_chance_44 (by decide) ?_
    refine a_icmp_ge (tgt := 112) dX10_chance_46 (by decide) ⟨by omega, by omega⟩ ⟨by omega, by omega⟩ (fun hb46 => ?_) (fun hb46 => ?_)
    · refine a_iload dX10_chance_112 rfl ?_
      exact a_ireturn dX10_chance_114 rfl rfl rfl (zany_i ⟨hd.1, hQ _ rfl⟩)
    · exfalso; omega
  | succ n ih =>
    intro i x acc M g0 g1 ga gx hd Q hQ
    obtain ⟨hc, hi, hxt, hnr, hhr⟩ := id hv
    obtain ⟨hP, hTp, hT, ht, hS, ha⟩ := id hc
    have q1 := hi.1.1
    have sg := st_guess L hP
    have sn := st_now L hP
    unfold two at hw
    refine a_iload dX10_chance_42 rfl ?_
    refine a_bipush (w := 10) dX10_chance_44 (by decide) ?_
    refine a_icmp_ge (tgt := 112) dX10_chance_46 (by decide) ⟨by omega, by omega⟩ ⟨by omega, by omega⟩ (fun hb46 => ?_) (fun hb46 => ?_)
    · exfalso; omega
    · refine a_aloadn dX10_chance_49 rfl ?_
      refine a_getR (j' := 8) (y := 67) dX10_chance_50 flX10_55 rfl rfl (L2 L) (p2_8 hP) ?_
      refine a_aloadn dX10_chance_53 rfl ?_
      refine a_getR (j' := 7) (y := 61) dX10_chance_54 flX10_51 rfl rfl (L2 L) (p2_7 hP) ?_
      refine a_relVv (as := [_]) (q := 67) dX10_chance_57 mvX10_235 ⟨by decide, by decide⟩ (L67 L) rfl rfl rfl (Nat.le_of_ble_eq_true rfl) ⟨rfl, rfl⟩ ⟨by decide, by decide⟩ (m_X5_copy sg sn (by omega)) (fun M1 hM1 => ?_)
      refine a_aloadn dX10_chance_60 rfl ?_
      refine a_getR (j' := 8) (y := 67) dX10_chance_61 flX10_55 rfl rfl (L2 L) (p2_8 hP) ?_
      refine a_iload dX10_chance_64 rfl ?_
      refine a_putI (j' := 6) dX10_chance_66 flX10_244 rfl rfl (L67 L) (by decide) rfl ⟨by omega, by omega⟩ ?_
      refine a_aloadn dX10_chance_69 rfl ?_
      refine a_getR (j' := 5) (y := 50) dX10_chance_70 flX10_35 rfl rfl (L2 L) (p2_5 hP) ?_
      refine a_aloadn dX10_chance_73 rfl ?_
      refine a_getR (j' := 8) (y := 67) dX10_chance_74 flX10_55 rfl rfl (L2 L) (p2_8 hP) ?_
      refine a_iloadn dX10_chance_77 rfl ?_
      have hdg := hd.cy x hv hM1
      have hci := hdg.ci hv gx
      have h67 : sm M1 67 6 x 67 5 = M0 61 5 := hdg.2.2.1
      refine a_relVv (as := [_, _]) (q := 50) dX10_chance_78 mvX10_227 ⟨by decide, by decide⟩ (L50 L) rfl rfl rfl (Nat.le_of_ble_eq_true rfl) ⟨rfl, rfl⟩ ⟨by decide, by decide⟩ (m_X0_pass hc.sw (Ec.rf _) hci ⟨by omega, by omega⟩ (by omega)) (fun M2 hM2 => ?_)
      have hci2 := passM_I (t := t) (a := 67) (by omega) (by omega) n9.toNat _ hci (by omega)
      have hfa := passM_Fa t 67 n9.toNat (sm M1 67 6 x)
      have hd2 : Dd t M0 M2 := ⟨(hdg.2.2.2.2.1.fa hfa).ec hM2, by rw [hM2 50 2 (by decide) (by decide) (by omega), hM2 50 3 (by decide) (by decide) (by omega), hM2 50 4 (by decide) (by decide) (by omega), hM2 50 5 (by decide) (by decide) (by omega), hfa 50 (by omega)]; exact hdg.2.2.2.2.2⟩
      have qn := hci2.2.2.1.2.2.2.2.2.2
      refine a_aloadn dX10_chance_81 rfl ?_
      refine a_getR (j' := 8) (y := 67) dX10_chance_82 flX10_55 rfl rfl (L2 L) (p2_8 hP) ?_
      refine b_getI (j' := 6) dX10_chance_85 flX10_244 rfl rfl (L67 L) (fun hr85 => ?_)
      have e85 : M2 67 6 = passM t 67 n9.toNat (sm M1 67 6 x) 67 6 := hM2 67 6 (by decide) (by decide) (by omega)
      rw [e85] at hr85
      rw [e85]
      refine c_istore (ls' := [_, _, _, _, _, _, _, _]) dX10_chance_88 (by decide) rfl rfl ?_
      refine a_aloadn dX10_chance_90 rfl ?_
      refine a_getR (j' := 8) (y := 67) dX10_chance_91 flX10_55 rfl rfl (L2 L) (p2_8 hP) ?_
      refine a_iloadn dX10_chance_94 rfl ?_
      refine a_iload dX10_chance_95 rfl ?_
      refine a_callV (as := [_, _]) (q := 67) dX10_chance_97 mvX10_247 ⟨by decide, by decide⟩ (L67 L) rfl rfl rfl (Nat.le_of_ble_eq_true rfl) ⟨rfl, rfl⟩ ⟨by decide, by decide⟩ (m_X5_isKnown sg (by omega) (by omega)) ?_
      have e97 : M2 (67 + 3) h = passM t 67 n9.toNat (sm M1 67 6 x) (67 + 3) h := hM2 _ _ (by decide) (by decide) (by omega)
      rw [e97]
      refine a_if_eq (tgt := 106) dX10_chance_100 (by decide) (by have q9 := kbit01 (passM t 67 n9.toNat (sm M1 67 6 x) (67 + 3) h) o; exact ⟨by omega, by omega⟩) (fun hb100 => ?_) (fun hb100 => ?_)
      · refine c_iinc (ls' := [_, _, _, _, _, _, _, _]) dX10_chance_106 rfl (by decide) rfl rfl ?_
        refine a_goto (tgt := 42) dX10_chance_109 (by decide) ?_
        exact ih _ _ _ _ (by omega) (by omega) (by omega) qn hd2 Q (fun r hr => hQ r ⟨_, hdg, by first | (rw [if_pos hb100]; exact hr) | (rw [if_neg hb100]; exact hr)⟩)
      · refine c_iinc (ls' := [_, _, _, _, _, _, _, _]) dX10_chance_103 rfl (by decide) rfl rfl ?_
        refine c_iinc (ls' := [_, _, _, _, _, _, _, _]) dX10_chance_106 rfl (by decide) rfl rfl ?_
        refine a_goto (tgt := 42) dX10_chance_109 (by decide) ?_
        exact ih _ _ _ _ (by omega) (by omega) (by omega) qn hd2 Q (fun r hr => hQ r ⟨_, hdg, by first | (rw [if_pos hb100]; exact hr) | (rw [if_neg hb100]; exact hr)⟩)

set_option maxRecDepth 100000 in
set_option maxHeartbeats 4000000 in
theorem m_X10_chance {G : zG} {l : Launch} {L : Nat} {P : zP} {M : zM} {t : Nat} {sd n9 h o : Int} (hv : CV L P M t) (rsd : inR sd) (rn9 : inR n9) (rh : inR h) (ro : inR o) : AM G l yX10_chance mdX10_chance [aR 2, aI sd, aI n9, aI h, aI o] (LAY L) P M (zany (LAY L) P (fun r M' => Cn t M M' ∧ ((¬ (0 ≤ sd ∧ 1 ≤ n9 ∧ n9 ≤ 99 ∧ two (M t 2) h o)) ∧ r = -1 ∨ ¬ (¬ (0 ≤ sd ∧ 1 ≤ n9 ∧ n9 ≤ 99 ∧ two (M t 2) h o)) ∧ chP t M n9.toNat h o 10 sd 0 r))) := by
  obtain ⟨hc, hi, hxt, hnr, hhr⟩ := id hv
  obtain ⟨hP, hTp, hT, ht, hS, ha⟩ := id hc
  have q1 := hi.1.1
  have sg := st_guess L hP
  have sn := st_now L hP
  refine AM.go [some (aR 2), some (aI sd), some (aI n9), some (aI h), some (aI o), none, none, none] rfl (Nat.le_of_ble_eq_true rfl) ?_ (by decide) rfl rfl
  refine a_iloadn dX10_chance_0 rfl ?_
  refine a_if_lt (tgt := 24) dX10_chance_1 (by decide) ⟨by omega, by omega⟩ (fun hb1 => ?_) (fun hb1 => ?_)
  · refine a_iconst dX10_chance_24 ?_
    exact a_ireturn dX10_chance_25 rfl rfl rfl (zany_i ⟨Cn.rf hv, Or.inl ⟨by omega, rfl⟩⟩)
  · refine a_iloadn dX10_chance_4 rfl ?_
    refine a_iconst dX10_chance_5 ?_
    refine a_bipush (w := 99) dX10_chance_6 (by decide) ?_
    refine a_oneS (as := [_, _, _]) dX10_chance_8 mvX10_167 ⟨by decide, by decide⟩ rfl rfl (Nat.le_of_ble_eq_true rfl) ⟨rfl, rfl⟩ ⟨by decide, by decide⟩ (m_X10_isWithin ⟨by omega, by omega⟩ ⟨by omega, by omega⟩ ⟨by omega, by omega⟩) (fun x8 hx8 => ?_)
    refine a_if_eq (tgt := 24) dX10_chance_11 (by decide) ⟨by omega, by omega⟩ (fun hb11 => ?_) (fun hb11 => ?_)
    · refine a_iconst dX10_chance_24 ?_
      exact a_ireturn dX10_chance_25 rfl rfl rfl (zany_i ⟨Cn.rf hv, Or.inl ⟨by omega, rfl⟩⟩)
    · refine a_aloadn dX10_chance_14 rfl ?_
      refine a_iloadn dX10_chance_15 rfl ?_
      refine a_iload dX10_chance_16 rfl ?_
      refine a_oneV (as := [_, _]) (q := 2) dX10_chance_18 mvX10_159 ⟨by decide, by decide⟩ (L2 L) rfl rfl rfl (Nat.le_of_ble_eq_true rfl) ⟨rfl, rfl⟩ ⟨by decide, by decide⟩ (m_X10_areTwo hv (h := h) (o := o) rh ro) (fun x18 hx18 => ?_)
      refine a_if_ne (tgt := 26) dX10_chance_21 (by decide) ⟨by omega, by omega⟩ (fun hb21 => ?_) (fun hb21 => ?_)
      · refine a_aloadn dX10_chance_26 rfl ?_
        refine a_getR (j' := 5) (y := 50) dX10_chance_27 flX10_35 rfl rfl (L2 L) (p2_5 hP) ?_
        refine a_callVv (as := []) (q := 50) dX10_chance_30 mvX10_224 ⟨by decide, by decide⟩ (L50 L) rfl rfl rfl (Nat.le_of_ble_eq_true rfl) ⟨rfl, rfl⟩ ⟨by decide, by decide⟩ (m_X0_asDrawn hP hTp hT ht hi.1) ?_
        refine a_iloadn dX10_chance_33 rfl ?_
        refine c_istore (ls' := [_, _, _, _, _, _, _, _]) dX10_chance_34 (by decide) rfl rfl ?_
        refine a_iconst dX10_chance_36 ?_
        refine c_istore (ls' := [_, _, _, _, _, _, _, _]) dX10_chance_37 (by decide) rfl rfl ?_
        refine a_iconst dX10_chance_39 ?_
        refine c_istore (ls' := [_, _, _, _, _, _, _, _]) dX10_chance_40 (by decide) rfl rfl ?_
        have hd : Dd t M (adM t M) := ⟨adM_cn (Cn.rf hv) (by omega), (adM_f t M).2⟩
        refine AW.mono2 (lpX10_chance hv (sd := sd) (n9 := n9) (h := h) (o := o) (by omega) (by omega) 10 0 sd 0 (adM t M) (by omega) (by omega) (by omega) (by omega) hd (fun r => chP t M n9.toNat h o 10 sd 0 r) (fun r hr => hr)) ?_
        rintro r lay P' M' ⟨h1, h2, x, h3, h4, h5⟩
        exact ⟨h1, h2, x, h3, h4, Or.inr ⟨by omega, h5⟩⟩
      · refine a_iconst dX10_chance_24 ?_
        exact a_ireturn dX10_chance_25 rfl rfl rfl (zany_i ⟨Cn.rf hv, Or.inl ⟨by omega, rfl⟩⟩)

theorem sgM_Fa (a : Nat) : ∀ (n : Nat) (i : Int) (M : zM), Fa a M (sgM a n i M)
  | 0, i, M => Fa.rf a M
  | n + 1, i, M => by
    unfold sgM
    exact ((Fa.rf a M).sm (by omega) _ _).tr (sgM_Fa a n (i + 1) _)
theorem sgM_I (a : Nat) : ∀ (n : Nat) (i : Int) (M : zM), StI M a → StI (sgM a n i M) a
  | 0, i, M, h => h
  | n + 1, i, M, h => by
    unfold sgM
    exact sgM_I a n (i + 1) _ (h.g rfl ⟨by omega, by omega⟩)
theorem sgM_h (a : Nat) : ∀ (n : Nat) (i : Int) (M : zM), sgM a n i M a = M a
  | 0, i, M => rfl
  | n + 1, i, M => by
    unfold sgM
    rw [sgM_h a n (i + 1) _, sm_n (by omega)]
theorem sm50_ci {M : zM} {t : Nat} (h : CI M t 67) (ht : t ≤ 25) {j : Int} (hj : j ≠ 1) (v : Int) : CI (sm M 50 j v) t 67 := h.tr ht (fun k hk => sm_n (by omega)) (by rw [sm_k, us_n (fun z => hj z.symm)]; exact h.2.2.2)
theorem sm50_cn {M0 M : zM} {t : Nat} (h : Cn t M0 M) {j : Int} (hj : j ≠ 1) (v : Int) : Cn t M0 (sm M 50 j v) := ⟨h.1.sm (by omega) _ _, by rw [sm_k, us_n (fun z => hj z.symm)]; exact h.2⟩
theorem trM_all {M0 M : zM} {t : Nat} (w i hs : Int) (h : CI M t 67) (ht : t ≤ 25) (hq : Cn t M0 M) : CI (trM w i hs M) t 67 ∧ Cn t M0 (trM w i hs M) ∧ trM w i hs M 67 5 = M 67 5 := by
  unfold trM
  split
  · exact ⟨sm50_ci h ht (by decide) _, sm50_cn hq (by decide) _, by rw [sm_n (by decide)]⟩
  split
  · exact ⟨sm50_ci h ht (by decide) _, sm50_cn hq (by decide) _, by rw [sm_n (by decide)]⟩
  split
  · exact ⟨sm50_ci h ht (by decide) _, sm50_cn hq (by decide) _, by rw [sm_n (by decide)]⟩
  split
  · exact ⟨(sgM_Fa 67 _ 0 M).ci (by omega) ht h (sgM_I 67 _ 0 M h.2.2.1), hq.fa (sgM_Fa 67 _ 0 M), by rw [sgM_h]⟩
  · exact ⟨sm50_ci h ht (by decide) _, sm50_cn hq (by decide) _, by rw [sm_n (by decide)]⟩

set_option maxRecDepth 100000 in
set_option maxHeartbeats 4000000 in
theorem tlX10_tried {G : zG} {l : Launch} {L : Nat} {P : zP} {M Mt : zM} {t : Nat} {w i n : Int} (hv : CV L P M t) (hn : 0 ≤ n ∧ n ≤ 99) (g1 : CI Mt t 67) (g2 : Cn t M Mt) (g3 : Mt 67 5 = M 61 5) : AW G l mdX10_tried (zany (LAY L) P (fun r M' => Cn t M M' ∧ r = pairsC (passM t 67 n.toNat Mt) 67 - pairsC M 61)) 138 [some (aR 2), some (aI w), some (aI i), some (aI n)] [] (LAY L) P Mt 0 0 := by
  obtain ⟨hc, hi, hxt, hnr, hhr⟩ := id hv
  obtain ⟨hP, hTp, hT, ht, hS, ha⟩ := id hc
  have q1 := hi.1.1
  have sg := st_guess L hP
  have sn := st_now L hP
  refine a_aloadn dX10_tried_138 rfl ?_
  refine a_getR (j' := 5) (y := 50) dX10_tried_139 flX10_35 rfl rfl (L2 L) (p2_5 hP) ?_
  refine a_aloadn dX10_tried_142 rfl ?_
  refine a_getR (j' := 8) (y := 67) dX10_tried_143 flX10_55 rfl rfl (L2 L) (p2_8 hP) ?_
  refine a_iloadn dX10_tried_146 rfl ?_
  refine a_relVv (as := [_, _]) (q := 50) dX10_tried_147 mvX10_227 ⟨by decide, by decide⟩ (L50 L) rfl rfl rfl (Nat.le_of_ble_eq_true rfl) ⟨rfl, rfl⟩ ⟨by decide, by decide⟩ (m_X0_pass hc.sw (Ec.rf Mt) g1 ⟨by omega, by omega⟩ (by omega)) (fun M2 hM2 => ?_)
  have d3 : Cn t M M2 := (g2.fa (passM_Fa t 67 n.toNat Mt)).ec hM2
  refine a_aloadn dX10_tried_150 rfl ?_
  refine a_getR (j' := 8) (y := 67) dX10_tried_151 flX10_55 rfl rfl (L2 L) (p2_8 hP) ?_
  refine a_callV (as := []) (q := 67) dX10_tried_154 mvX10_198 ⟨by decide, by decide⟩ (L67 L) rfl rfl rfl (Nat.le_of_ble_eq_true rfl) ⟨rfl, rfl⟩ ⟨by decide, by decide⟩ (m_X5_pairs sg) ?_
  refine a_aloadn dX10_tried_157 rfl ?_
  refine a_getR (j' := 7) (y := 61) dX10_tried_158 flX10_51 rfl rfl (L2 L) (p2_7 hP) ?_
  refine a_callV (as := []) (q := 61) dX10_tried_161 mvX10_198 ⟨by decide, by decide⟩ (L61 L) rfl rfl rfl (Nat.le_of_ble_eq_true rfl) ⟨rfl, rfl⟩ ⟨by decide, by decide⟩ (m_X5_pairs sn) ?_
  refine a_isub dX10_tried_164 ?_
  exact a_ireturn dX10_tried_165 rfl rfl rfl (zany_i ⟨d3, by unfold pairsC; rw [hM2.row (k := 67 + 3) (by decide) (by decide) (by decide), d3.1 (61 + 3) (by omega)]⟩)

set_option maxRecDepth 100000 in
set_option maxHeartbeats 4000000 in
theorem m_X10_tried {G : zG} {l : Launch} {L : Nat} {P : zP} {M : zM} {t : Nat} {w i n : Int} (hv : CV L P M t) (rw : inR w) (ri : inR i) (rn : inR n) : AM G l yX10_tried mdX10_tried [aR 2, aI w, aI i, aI n] (LAY L) P M (zany (LAY L) P (fun r M' => Cn t M M' ∧ ((¬ (0 ≤ w ∧ w ≤ 4 ∧ 0 ≤ n ∧ n ≤ 99 ∧ ((w = 2 ∧ 0 ≤ i ∧ i < M t 2) ∨ (w ≠ 2 ∧ i = 0)))) ∧ r = -1 ∨ ¬ (¬ (0 ≤ w ∧ w ≤ 4 ∧ 0 ≤ n ∧ n ≤ 99 ∧ ((w = 2 ∧ 0 ≤ i ∧ i < M t 2) ∨ (w ≠ 2 ∧ i = 0)))) ∧ ∃ Mg, GsR t M Mg ∧ r = pairsC (passM t 67 n.toNat (trM w i (M t 2) Mg)) 67 - pairsC M 61))) := by
  obtain ⟨hc, hi, hxt, hnr, hhr⟩ := id hv
  obtain ⟨hP, hTp, hT, ht, hS, ha⟩ := id hc
  have q1 := hi.1.1
  have sg := st_guess L hP
  have sn := st_now L hP
  refine AM.go [some (aR 2), some (aI w), some (aI i), some (aI n)] rfl (Nat.le_of_ble_eq_true rfl) ?_ (by decide) rfl rfl
  refine a_iloadn dX10_tried_0 rfl ?_
  refine a_iconst dX10_tried_1 ?_
  refine a_iconst dX10_tried_2 ?_
  refine a_oneS (as := [_, _, _]) dX10_tried_3 mvX10_167 ⟨by decide, by decide⟩ rfl rfl (Nat.le_of_ble_eq_true rfl) ⟨rfl, rfl⟩ ⟨by decide, by decide⟩ (m_X10_isWithin ⟨by omega, by omega⟩ ⟨by omega, by omega⟩ ⟨by omega, by omega⟩) (fun x3 hx3 => ?_)
  refine a_if_eq (tgt := 19) dX10_tried_6 (by decide) ⟨by omega, by omega⟩ (fun hb6 => ?_) (fun hb6 => ?_)
  · refine a_iconst dX10_tried_19 ?_
    exact a_ireturn dX10_tried_20 rfl rfl rfl (zany_i ⟨Cn.rf hv, Or.inl ⟨by omega, rfl⟩⟩)
  · refine a_iloadn dX10_tried_9 rfl ?_
    refine a_iconst dX10_tried_10 ?_
    refine a_bipush (w := 99) dX10_tried_11 (by decide) ?_
    refine a_oneS (as := [_, _, _]) dX10_tried_13 mvX10_167 ⟨by decide, by decide⟩ rfl rfl (Nat.le_of_ble_eq_true rfl) ⟨rfl, rfl⟩ ⟨by decide, by decide⟩ (m_X10_isWithin ⟨by omega, by omega⟩ ⟨by omega, by omega⟩ ⟨by omega, by omega⟩) (fun x13 hx13 => ?_)
    refine a_if_ne (tgt := 21) dX10_tried_16 (by decide) ⟨by omega, by omega⟩ (fun hb16 => ?_) (fun hb16 => ?_)
    · refine a_iloadn dX10_tried_21 rfl ?_
      refine a_iconst dX10_tried_22 ?_
      refine a_icmp_ne (tgt := 37) dX10_tried_23 (by decide) ⟨by omega, by omega⟩ ⟨by omega, by omega⟩ (fun hb23 => ?_) (fun hb23 => ?_)
      · refine a_iloadn dX10_tried_37 rfl ?_
        refine a_if_eq (tgt := 43) dX10_tried_38 (by decide) ⟨by omega, by omega⟩ (fun hb38 => ?_) (fun hb38 => ?_)
        · refine a_aloadn dX10_tried_43 rfl ?_
          refine a_relVv (as := []) (q := 2) dX10_tried_44 mvX10_238 ⟨by decide, by decide⟩ (L2 L) rfl rfl rfl (Nat.le_of_ble_eq_true rfl) ⟨rfl, rfl⟩ ⟨by decide, by decide⟩ (m_X10_guessAsItGoes hv) (fun Mg hMg => ?_)
          have hga := hMg.all hv
          refine a_iloadn dX10_tried_47 rfl ?_
          rcases (show w = 0 ∨ w = 1 ∨ w = 2 ∨ w = 3 ∨ (w < 0 ∨ 3 < w) by omega) with e48 | e48 | e48 | e48 | e48
          · refine c_tabIn (tgt := 80) (off := 32) e48 dX10_tried_48 ⟨by decide, by decide⟩ (by decide) (by decide) rfl (by decide) ?_
            refine a_aloadn dX10_tried_80 rfl ?_
            refine a_getR (j' := 5) (y := 50) dX10_tried_81 flX10_35 rfl rfl (L2 L) (p2_5 hP) ?_
            refine a_iconst dX10_tried_84 ?_
            refine a_putI (j' := 2) dX10_tried_85 flX10_250 rfl rfl (L50 L) (by decide) rfl ⟨by omega, by omega⟩ ?_
            refine a_goto (tgt := 138) dX10_tried_88 (by decide) ?_
            have htr : trM w i (M t 2) Mg = sm Mg 50 2 0 := by unfold trM; rw [if_pos (by omega)]
            have hta := trM_all w i (M t 2) hga.2.1 (by omega) hga.2.2.1
            rw [htr] at hta
            refine AW.mono2 (tlX10_tried hv (by omega) hta.1 hta.2.1 (by rw [hta.2.2]; exact hga.2.2.2)) ?_
            rintro r lay P' M' ⟨h1, h2, x, h3, h4, h5⟩
            exact ⟨h1, h2, x, h3, h4, Or.inr ⟨by omega, Mg, hMg, by rw [htr]; exact h5⟩⟩
          · refine c_tabIn (tgt := 91) (off := 43) e48 dX10_tried_48 ⟨by decide, by decide⟩ (by decide) (by decide) rfl (by decide) ?_
            refine a_aloadn dX10_tried_91 rfl ?_
            refine a_getR (j' := 5) (y := 50) dX10_tried_92 flX10_35 rfl rfl (L2 L) (p2_5 hP) ?_
            refine a_iconst dX10_tried_95 ?_
            refine a_putZ (j' := 3) dX10_tried_96 flX10_253 rfl rfl (L50 L) (by decide) rfl (by omega) ?_
            refine a_goto (tgt := 138) dX10_tried_99 (by decide) ?_
            have htr : trM w i (M t 2) Mg = sm Mg 50 3 0 := by unfold trM; rw [if_neg (by omega), if_pos (by omega)]
            have hta := trM_all w i (M t 2) hga.2.1 (by omega) hga.2.2.1
            rw [htr] at hta
            refine AW.mono2 (tlX10_tried hv (by omega) hta.1 hta.2.1 (by rw [hta.2.2]; exact hga.2.2.2)) ?_
            rintro r lay P' M' ⟨h1, h2, x, h3, h4, h5⟩
            exact ⟨h1, h2, x, h3, h4, Or.inr ⟨by omega, Mg, hMg, by rw [htr]; exact h5⟩⟩
          · refine c_tabIn (tgt := 102) (off := 54) e48 dX10_tried_48 ⟨by decide, by decide⟩ (by decide) (by decide) rfl (by decide) ?_
            refine a_aloadn dX10_tried_102 rfl ?_
            refine a_getR (j' := 5) (y := 50) dX10_tried_103 flX10_35 rfl rfl (L2 L) (p2_5 hP) ?_
            refine a_iloadn dX10_tried_106 rfl ?_
            refine a_putI (j' := 5) dX10_tried_107 flX10_256 rfl rfl (L50 L) (by decide) rfl ⟨by omega, by omega⟩ ?_
            refine a_goto (tgt := 138) dX10_tried_110 (by decide) ?_
            have htr : trM w i (M t 2) Mg = sm Mg 50 5 i := by unfold trM; rw [if_neg (by omega), if_neg (by omega), if_pos (by omega)]
            have hta := trM_all w i (M t 2) hga.2.1 (by omega) hga.2.2.1
            rw [htr] at hta
            refine AW.mono2 (tlX10_tried hv (by omega) hta.1 hta.2.1 (by rw [hta.2.2]; exact hga.2.2.2)) ?_
            rintro r lay P' M' ⟨h1, h2, x, h3, h4, h5⟩
            exact ⟨h1, h2, x, h3, h4, Or.inr ⟨by omega, Mg, hMg, by rw [htr]; exact h5⟩⟩
          · refine c_tabIn (tgt := 113) (off := 65) e48 dX10_tried_48 ⟨by decide, by decide⟩ (by decide) (by decide) rfl (by decide) ?_
            refine a_aloadn dX10_tried_113 rfl ?_
            refine a_getR (j' := 8) (y := 67) dX10_tried_114 flX10_55 rfl rfl (L2 L) (p2_8 hP) ?_
            refine a_aloadn dX10_tried_117 rfl ?_
            refine a_getR (j' := 2) (y := t) dX10_tried_118 flX10_16 rfl rfl (L2 L) hxt ?_
            refine b_getI (j' := 2) dX10_tried_121 flX10_118 rfl rfl hT.1.2.1 (fun hr121 => ?_)
            have e121 : Mg t 2 = M t 2 := by rw [hga.2.2.1.1 t (by omega)]
            rw [e121] at hr121
            rw [e121]
            refine a_callVv (as := [_]) (q := 67) dX10_tried_124 mvX10_259 ⟨by decide, by decide⟩ (L67 L) rfl rfl rfl (Nat.le_of_ble_eq_true rfl) ⟨rfl, rfl⟩ ⟨by decide, by decide⟩ (m_X5_strengthen sg (by omega)) ?_
            refine a_goto (tgt := 138) dX10_tried_127 (by decide) ?_
            have htr : trM w i (M t 2) Mg = sgM 67 (M t 2).toNat 0 Mg := by unfold trM; rw [if_neg (by omega), if_neg (by omega), if_neg (by omega), if_pos (by omega)]
            have hta := trM_all w i (M t 2) hga.2.1 (by omega) hga.2.2.1
            rw [htr] at hta
            refine AW.mono2 (tlX10_tried hv (by omega) hta.1 hta.2.1 (by rw [hta.2.2]; exact hga.2.2.2)) ?_
            rintro r lay P' M' ⟨h1, h2, x, h3, h4, h5⟩
            exact ⟨h1, h2, x, h3, h4, Or.inr ⟨by omega, Mg, hMg, by rw [htr]; exact h5⟩⟩
          · refine c_tabOut (tgt := 130) e48 dX10_tried_48 ⟨by omega, by omega⟩ (by decide) ?_
            refine a_aloadn dX10_tried_130 rfl ?_
            refine a_getR (j' := 5) (y := 50) dX10_tried_131 flX10_35 rfl rfl (L2 L) (p2_5 hP) ?_
            refine a_iconst dX10_tried_134 ?_
            refine a_putZ (j' := 4) dX10_tried_135 flX10_262 rfl rfl (L50 L) (by decide) rfl (by omega) ?_
            have htr : trM w i (M t 2) Mg = sm Mg 50 4 0 := by unfold trM; rw [if_neg (by omega), if_neg (by omega), if_neg (by omega), if_neg (by omega)]
            have hta := trM_all w i (M t 2) hga.2.1 (by omega) hga.2.2.1
            rw [htr] at hta
            refine AW.mono2 (tlX10_tried hv (by omega) hta.1 hta.2.1 (by rw [hta.2.2]; exact hga.2.2.2)) ?_
            rintro r lay P' M' ⟨h1, h2, x, h3, h4, h5⟩
            exact ⟨h1, h2, x, h3, h4, Or.inr ⟨by omega, Mg, hMg, by rw [htr]; exact h5⟩⟩
        · refine a_iconst dX10_tried_41 ?_
          exact a_ireturn dX10_tried_42 rfl rfl rfl (zany_i ⟨Cn.rf hv, Or.inl ⟨by omega, rfl⟩⟩)
      · refine a_aloadn dX10_tried_26 rfl ?_
        refine a_iloadn dX10_tried_27 rfl ?_
        refine a_oneV (as := [_]) (q := 2) dX10_tried_28 mvX10_121 ⟨by decide, by decide⟩ (L2 L) rfl rfl rfl (Nat.le_of_ble_eq_true rfl) ⟨rfl, rfl⟩ ⟨by decide, by decide⟩ (m_X10_isHouse hv (h := i) ri) (fun x28 hx28 => ?_)
        refine a_if_ne (tgt := 43) dX10_tried_31 (by decide) ⟨by omega, by omega⟩ (fun hb31 => ?_) (fun hb31 => ?_)
        · refine a_aloadn dX10_tried_43 rfl ?_
          refine a_relVv (as := []) (q := 2) dX10_tried_44 mvX10_238 ⟨by decide, by decide⟩ (L2 L) rfl rfl rfl (Nat.le_of_ble_eq_true rfl) ⟨rfl, rfl⟩ ⟨by decide, by decide⟩ (m_X10_guessAsItGoes hv) (fun Mg hMg => ?_)
          have hga := hMg.all hv
          refine a_iloadn dX10_tried_47 rfl ?_
          rcases (show w = 0 ∨ w = 1 ∨ w = 2 ∨ w = 3 ∨ (w < 0 ∨ 3 < w) by omega) with e48 | e48 | e48 | e48 | e48
          · refine c_tabIn (tgt := 80) (off := 32) e48 dX10_tried_48 ⟨by decide, by decide⟩ (by decide) (by decide) rfl (by decide) ?_
            refine a_aloadn dX10_tried_80 rfl ?_
            refine a_getR (j' := 5) (y := 50) dX10_tried_81 flX10_35 rfl rfl (L2 L) (p2_5 hP) ?_
            refine a_iconst dX10_tried_84 ?_
            refine a_putI (j' := 2) dX10_tried_85 flX10_250 rfl rfl (L50 L) (by decide) rfl ⟨by omega, by omega⟩ ?_
            refine a_goto (tgt := 138) dX10_tried_88 (by decide) ?_
            have htr : trM w i (M t 2) Mg = sm Mg 50 2 0 := by unfold trM; rw [if_pos (by omega)]
            have hta := trM_all w i (M t 2) hga.2.1 (by omega) hga.2.2.1
            rw [htr] at hta
            refine AW.mono2 (tlX10_tried hv (by omega) hta.1 hta.2.1 (by rw [hta.2.2]; exact hga.2.2.2)) ?_
            rintro r lay P' M' ⟨h1, h2, x, h3, h4, h5⟩
            exact ⟨h1, h2, x, h3, h4, Or.inr ⟨by omega, Mg, hMg, by rw [htr]; exact h5⟩⟩
          · refine c_tabIn (tgt := 91) (off := 43) e48 dX10_tried_48 ⟨by decide, by decide⟩ (by decide) (by decide) rfl (by decide) ?_
            refine a_aloadn dX10_tried_91 rfl ?_
            refine a_getR (j' := 5) (y := 50) dX10_tried_92 flX10_35 rfl rfl (L2 L) (p2_5 hP) ?_
            refine a_iconst dX10_tried_95 ?_
            refine a_putZ (j' := 3) dX10_tried_96 flX10_253 rfl rfl (L50 L) (by decide) rfl (by omega) ?_
            refine a_goto (tgt := 138) dX10_tried_99 (by decide) ?_
            have htr : trM w i (M t 2) Mg = sm Mg 50 3 0 := by unfold trM; rw [if_neg (by omega), if_pos (by omega)]
            have hta := trM_all w i (M t 2) hga.2.1 (by omega) hga.2.2.1
            rw [htr] at hta
            refine AW.mono2 (tlX10_tried hv (by omega) hta.1 hta.2.1 (by rw [hta.2.2]; exact hga.2.2.2)) ?_
            rintro r lay P' M' ⟨h1, h2, x, h3, h4, h5⟩
            exact ⟨h1, h2, x, h3, h4, Or.inr ⟨by omega, Mg, hMg, by rw [htr]; exact h5⟩⟩
          · refine c_tabIn (tgt := 102) (off := 54) e48 dX10_tried_48 ⟨by decide, by decide⟩ (by decide) (by decide) rfl (by decide) ?_
            refine a_aloadn dX10_tried_102 rfl ?_
            refine a_getR (j' := 5) (y := 50) dX10_tried_103 flX10_35 rfl rfl (L2 L) (p2_5 hP) ?_
            refine a_iloadn dX10_tried_106 rfl ?_
            refine a_putI (j' := 5) dX10_tried_107 flX10_256 rfl rfl (L50 L) (by decide) rfl ⟨by omega, by omega⟩ ?_
            refine a_goto (tgt := 138) dX10_tried_110 (by decide) ?_
            have htr : trM w i (M t 2) Mg = sm Mg 50 5 i := by unfold trM; rw [if_neg (by omega), if_neg (by omega), if_pos (by omega)]
            have hta := trM_all w i (M t 2) hga.2.1 (by omega) hga.2.2.1
            rw [htr] at hta
            refine AW.mono2 (tlX10_tried hv (by omega) hta.1 hta.2.1 (by rw [hta.2.2]; exact hga.2.2.2)) ?_
            rintro r lay P' M' ⟨h1, h2, x, h3, h4, h5⟩
            exact ⟨h1, h2, x, h3, h4, Or.inr ⟨by omega, Mg, hMg, by rw [htr]; exact h5⟩⟩
          · refine c_tabIn (tgt := 113) (off := 65) e48 dX10_tried_48 ⟨by decide, by decide⟩ (by decide) (by decide) rfl (by decide) ?_
            refine a_aloadn dX10_tried_113 rfl ?_
            refine a_getR (j' := 8) (y := 67) dX10_tried_114 flX10_55 rfl rfl (L2 L) (p2_8 hP) ?_
            refine a_aloadn dX10_tried_117 rfl ?_
            refine a_getR (j' := 2) (y := t) dX10_tried_118 flX10_16 rfl rfl (L2 L) hxt ?_
            refine b_getI (j' := 2) dX10_tried_121 flX10_118 rfl rfl hT.1.2.1 (fun hr121 => ?_)
            have e121 : Mg t 2 = M t 2 := by rw [hga.2.2.1.1 t (by omega)]
            rw [e121] at hr121
            rw [e121]
            refine a_callVv (as := [_]) (q := 67) dX10_tried_124 mvX10_259 ⟨by decide, by decide⟩ (L67 L) rfl rfl rfl (Nat.le_of_ble_eq_true rfl) ⟨rfl, rfl⟩ ⟨by decide, by decide⟩ (m_X5_strengthen sg (by omega)) ?_
            refine a_goto (tgt := 138) dX10_tried_127 (by decide) ?_
            have htr : trM w i (M t 2) Mg = sgM 67 (M t 2).toNat 0 Mg := by unfold trM; rw [if_neg (by omega), if_neg (by omega), if_neg (by omega), if_pos (by omega)]
            have hta := trM_all w i (M t 2) hga.2.1 (by omega) hga.2.2.1
            rw [htr] at hta
            refine AW.mono2 (tlX10_tried hv (by omega) hta.1 hta.2.1 (by rw [hta.2.2]; exact hga.2.2.2)) ?_
            rintro r lay P' M' ⟨h1, h2, x, h3, h4, h5⟩
            exact ⟨h1, h2, x, h3, h4, Or.inr ⟨by omega, Mg, hMg, by rw [htr]; exact h5⟩⟩
          · refine c_tabOut (tgt := 130) e48 dX10_tried_48 ⟨by omega, by omega⟩ (by decide) ?_
            refine a_aloadn dX10_tried_130 rfl ?_
            refine a_getR (j' := 5) (y := 50) dX10_tried_131 flX10_35 rfl rfl (L2 L) (p2_5 hP) ?_
            refine a_iconst dX10_tried_134 ?_
            refine a_putZ (j' := 4) dX10_tried_135 flX10_262 rfl rfl (L50 L) (by decide) rfl (by omega) ?_
            have htr : trM w i (M t 2) Mg = sm Mg 50 4 0 := by unfold trM; rw [if_neg (by omega), if_neg (by omega), if_neg (by omega), if_neg (by omega)]
            have hta := trM_all w i (M t 2) hga.2.1 (by omega) hga.2.2.1
            rw [htr] at hta
            refine AW.mono2 (tlX10_tried hv (by omega) hta.1 hta.2.1 (by rw [hta.2.2]; exact hga.2.2.2)) ?_
            rintro r lay P' M' ⟨h1, h2, x, h3, h4, h5⟩
            exact ⟨h1, h2, x, h3, h4, Or.inr ⟨by omega, Mg, hMg, by rw [htr]; exact h5⟩⟩
        · refine a_goto (tgt := 41) dX10_tried_34 (by decide) ?_
          refine a_iconst dX10_tried_41 ?_
          exact a_ireturn dX10_tried_42 rfl rfl rfl (zany_i ⟨Cn.rf hv, Or.inl ⟨by omega, rfl⟩⟩)
    · refine a_iconst dX10_tried_19 ?_
      exact a_ireturn dX10_tried_20 rfl rfl rfl (zany_i ⟨Cn.rf hv, Or.inl ⟨by omega, rfl⟩⟩)

set_option maxRecDepth 100000 in
set_option maxHeartbeats 4000000 in
theorem lpX10_code {G : zG} {l : Launch} {L : Nat} {P : zP} {M0 : zM} {t : Nat} {h o kn wd : Int} (hv : CV L P M0 t) (hw : two (M0 t 2) h o) (hwd : inR wd) : ∀ (n : Nat) (k : Int) (M Mp : zM) (g0 : 0 ≤ k) (g1 : k + n = 21) (hE : Ec Mp M) (hI : CI Mp t 67) (hq : Cn t M0 M) (e2 : Mp t 2 = M0 t 2), AW G l mdX10_code (zany (LAY L) P (fun r M' => Cn t M0 M' ∧ r = cdF t h wd n k Mp)) 41 [some (aR 2), some (aI h), some (aI o), some (aI kn), some (aI wd), some (aI k)] [] (LAY L) P M 0 0 := by
  intro n
  induction n with
  | zero =>
    intro k M Mp g0 g1 hE hI hq e2
    obtain ⟨hc, hi, hxt, hnr, hhr⟩ := id hv
    obtain ⟨hP, hTp, hT, ht, hS, ha⟩ := id hc
    have q1 := hi.1.1
    have sg := st_guess L hP
    have sn := st_now L hP
    unfold two at hw
    refine a_iload dX10_code_41 rfl ?_
    refine a_bipush (w := 20) dX10_code_43 (by decide) ?_
    refine a_icmp_gt (tgt := 84) dX10_code_45 (by decide) ⟨by omega, by omega⟩ ⟨by omega, by omega⟩ (fun hb45 => ?_) (fun hb45 => ?_)
    · refine a_bipush (w := (-2)) dX10_code_84 (by decide) ?_
      exact a_ireturn dX10_code_86 rfl rfl rfl (zany_i ⟨hq, rfl⟩)
    · exfalso; omega
  | succ n ih =>
    intro k M Mp g0 g1 hE hI hq e2
    obtain ⟨hc, hi, hxt, hnr, hhr⟩ := id hv
    obtain ⟨hP, hTp, hT, ht, hS, ha⟩ := id hc
    have q1 := hi.1.1
    have sg := st_guess L hP
    have sn := st_now L hP
    unfold two at hw
    refine a_iload dX10_code_41 rfl ?_
    refine a_bipush (w := 20) dX10_code_43 (by decide) ?_
    refine a_icmp_gt (tgt := 84) dX10_code_45 (by decide) ⟨by omega, by omega⟩ ⟨by omega, by omega⟩ (fun hb45 => ?_) (fun hb45 => ?_)
    · exfalso; omega
    · refine a_aloadn dX10_code_48 rfl ?_
      refine a_getR (j' := 8) (y := 67) dX10_code_49 flX10_55 rfl rfl (L2 L) (p2_8 hP) ?_
      refine a_iloadn dX10_code_52 rfl ?_
      refine a_callV (as := [_]) (q := 67) dX10_code_53 mvX10_148 ⟨by decide, by decide⟩ (L67 L) rfl rfl rfl (Nat.le_of_ble_eq_true rfl) ⟨rfl, rfl⟩ ⟨by decide, by decide⟩ (m_X5_knowersOf sg) ?_
      have e53 : zbits (fun j => kbit (M (67 + 3) j) h) 6 0 0 = kwC Mp 67 h := by unfold kwC; rw [hE.row (k := 67 + 3) (by decide) (by decide) (by decide)]
      rw [e53]
      have q5 := zbits_in (fun j => kbit (Mp (67 + 3) j) h) 6 0 0 (by omega) (by omega) (by omega)
      have q6 : 0 ≤ kwC Mp 67 h ∧ kwC Mp 67 h ≤ 63 := q5
      refine a_iload dX10_code_56 rfl ?_
      refine a_icmp_ne (tgt := 64) dX10_code_58 (by decide) ⟨by omega, by omega⟩ hwd (fun hb58 => ?_) (fun hb58 => ?_)
      · refine a_aloadn dX10_code_64 rfl ?_
        refine a_getR (j' := 5) (y := 50) dX10_code_65 flX10_35 rfl rfl (L2 L) (p2_5 hP) ?_
        refine a_aloadn dX10_code_68 rfl ?_
        refine a_getR (j' := 8) (y := 67) dX10_code_69 flX10_55 rfl rfl (L2 L) (p2_8 hP) ?_
        refine a_iloadn dX10_code_72 rfl ?_
        refine a_iconst dX10_code_73 ?_
        refine a_anyV (as := [_, _, _]) (q := 50) dX10_code_74 mvX10_219 ⟨by decide, by decide⟩ (L50 L) rfl rfl rfl (Nat.le_of_ble_eq_true rfl) ⟨rfl, rfl⟩ ⟨by decide, by decide⟩ (m_soundMade2 hc.sw hE hI (by omega) (by omega) ⟨by omega, by omega⟩) (fun x9 M1 hM1 => ?_)
        refine a_popI dX10_code_77 ?_
        refine c_iinc (ls' := [_, _, _, _, _, _]) dX10_code_78 rfl (by decide) rfl rfl ?_
        refine a_goto (tgt := 41) dX10_code_81 (by decide) ?_
        simp only [cdF]
        rw [if_neg (by omega)]
        have f := sdM_Fa t 67 h 1 (Mp t 2).toNat 0 Mp 0
        exact ih _ _ _ (by omega) (by omega) hM1.1 (f.ci (by omega) (by omega) hI (sdM_I t 67 ⟨by omega, by omega⟩ ⟨by omega, by omega⟩ _ 0 Mp 0 hI.2.2.1 (by omega) (by have := hI.1.1; omega))) ⟨hq.1.tr (fun q hq9 => by rw [hM1.1.row (by omega) (by omega) (by omega), f q (by omega), hE.row (by omega) (by omega) (by omega)]), by rw [hM1.1 50 1 (by decide) (by decide) (by omega), f 50 (by omega), ← hE 50 1 (by decide) (by decide) (by omega)]; exact hq.2⟩ (by rw [f t (by omega)]; exact e2)
      · refine a_iload dX10_code_61 rfl ?_
        exact a_ireturn dX10_code_63 rfl rfl rfl (zany_i ⟨hq, by simp only [cdF]; rw [if_pos (by omega)]⟩)

set_option maxRecDepth 100000 in
set_option maxHeartbeats 4000000 in
theorem m_X10_code {G : zG} {l : Launch} {L : Nat} {P : zP} {M : zM} {t : Nat} {h o : Int} (hv : CV L P M t) (rh : inR h) (ro : inR o) : AM G l yX10_code mdX10_code [aR 2, aI h, aI o] (LAY L) P M (zany (LAY L) P (fun r M' => Cn t M M' ∧ ((¬ two (M t 2) h o) ∧ r = -1 ∨ ¬ (¬ two (M t 2) h o) ∧ ∃ M1, CyR M 67 61 M1 ∧ r = cdF t h (kset (kwC M 61 h) o) 21 0 M1))) := by
  obtain ⟨hc, hi, hxt, hnr, hhr⟩ := id hv
  obtain ⟨hP, hTp, hT, ht, hS, ha⟩ := id hc
  have q1 := hi.1.1
  have sg := st_guess L hP
  have sn := st_now L hP
  refine AM.go [some (aR 2), some (aI h), some (aI o), none, none, none] rfl (Nat.le_of_ble_eq_true rfl) ?_ (by decide) rfl rfl
  refine a_aloadn dX10_code_0 rfl ?_
  refine a_iloadn dX10_code_1 rfl ?_
  refine a_iloadn dX10_code_2 rfl ?_
  refine a_oneV (as := [_, _]) (q := 2) dX10_code_3 mvX10_159 ⟨by decide, by decide⟩ (L2 L) rfl rfl rfl (Nat.le_of_ble_eq_true rfl) ⟨rfl, rfl⟩ ⟨by decide, by decide⟩ (m_X10_areTwo hv (h := h) (o := o) rh ro) (fun x3 hx3 => ?_)
  refine a_if_ne (tgt := 11) dX10_code_6 (by decide) ⟨by omega, by omega⟩ (fun hb6 => ?_) (fun hb6 => ?_)
  · refine a_aloadn dX10_code_11 rfl ?_
    refine a_getR (j' := 8) (y := 67) dX10_code_12 flX10_55 rfl rfl (L2 L) (p2_8 hP) ?_
    refine a_aloadn dX10_code_15 rfl ?_
    refine a_getR (j' := 7) (y := 61) dX10_code_16 flX10_51 rfl rfl (L2 L) (p2_7 hP) ?_
    refine a_relVv (as := [_]) (q := 67) dX10_code_19 mvX10_235 ⟨by decide, by decide⟩ (L67 L) rfl rfl rfl (Nat.le_of_ble_eq_true rfl) ⟨rfl, rfl⟩ ⟨by decide, by decide⟩ (m_X5_copy sg sn (by omega)) (fun M1 hM1 => ?_)
    have hcy := hM1.cv hv
    refine a_aloadn dX10_code_22 rfl ?_
    refine a_getR (j' := 7) (y := 61) dX10_code_23 flX10_51 rfl rfl (L2 L) (p2_7 hP) ?_
    refine a_iloadn dX10_code_26 rfl ?_
    refine a_callV (as := [_]) (q := 61) dX10_code_27 mvX10_148 ⟨by decide, by decide⟩ (L61 L) rfl rfl rfl (Nat.le_of_ble_eq_true rfl) ⟨rfl, rfl⟩ ⟨by decide, by decide⟩ (m_X5_knowersOf sn) ?_
    have e27 : zbits (fun j => kbit (M1 (61 + 3) j) h) 6 0 0 = kwC M 61 h := by unfold kwC; rw [hcy.1.1 (61 + 3) (by omega)]
    rw [e27]
    refine c_istoren (ls' := [_, _, _, _, _, _]) dX10_code_30 (by decide) rfl rfl ?_
    refine a_iloadn dX10_code_31 rfl ?_
    refine a_iconst dX10_code_32 ?_
    refine a_iloadn dX10_code_33 rfl ?_
    refine a_ishl dX10_code_34 ?_
    refine a_ior dX10_code_35 ?_
    refine c_istore (ls' := [_, _, _, _, _, _]) dX10_code_36 (by decide) rfl rfl ?_
    refine a_iconst dX10_code_38 ?_
    refine c_istore (ls' := [_, _, _, _, _, _]) dX10_code_39 (by decide) rfl rfl ?_
    have q5 := zbits_in (fun j => kbit (M (61 + 3) j) h) 6 0 0 (by omega) (by omega) (by omega)
    have q6 : 0 ≤ kwC M 61 h ∧ kwC M 61 h ≤ 63 := q5
    have q7 := kset_in (j := o) q6 (by omega)
    refine AW.mono2 (lpX10_code hv (h := h) (o := o) (kn := kwC M 61 h) (wd := kset (kwC M 61 h) o) (by omega) ⟨by omega, by omega⟩ 21 0 M1 M1 (by omega) (by omega) (Ec.rf M1) hcy.2.1 hcy.1 (by rw [hcy.1.1 t (by omega)])) ?_
    rintro r lay P' M' ⟨h1, h2, x, h3, h4, h5⟩
    exact ⟨h1, h2, x, h3, h4, Or.inr ⟨by omega, M1, hM1, h5⟩⟩
  · refine a_iconst dX10_code_9 ?_
    exact a_ireturn dX10_code_10 rfl rfl rfl (zany_i ⟨Cn.rf hv, Or.inl ⟨by omega, rfl⟩⟩)
