set_option maxRecDepth 100000 in
set_option maxHeartbeats 4000000 in
theorem m_X11_turn {G : zG} {l : Launch} {L : Nat} {P : zP} {M : zM} {h d : Int} (hv : RV P M) (hU : UR M) (rh : inR h) (rd : inR d) : AM G l yX11_turn mdX11_turn [aR 209, aI h, aI d] (LAY L) P M (zany (LAY L) P (fun r M' => ((¬ (0 ≤ h ∧ h < M 209 12 ∧ 0 ≤ d ∧ d ≤ 99 ∧ M 233 h ≠ d)) ∧ r = 0 ∧ M' = sm M 209 2 0) ∨ (¬ (¬ (0 ≤ h ∧ h < M 209 12 ∧ 0 ≤ d ∧ d ≤ 99 ∧ M 233 h ≠ d)) ∧ r = 1 ∧ ∃ M1, RmR (sm M 209 2 0) M1 ∧ M' = sm M1 233 h d))) := by
  have hP := hv.1
  have q0 := hv.2.1.1.1.1
  refine AM.go [some (aR 209), some (aI h), some (aI d)] rfl (Nat.le_of_ble_eq_true rfl) ?_ (by decide) rfl rfl
  refine a_aloadn dX11_turn_0 rfl ?_
  refine a_iconst dX11_turn_1 ?_
  refine a_putI (j' := 2) dX11_turn_2 flX11_124 rfl rfl (L209 L) (by decide) rfl ⟨by omega, by omega⟩ ?_
  obtain ⟨Mt, hMt⟩ : ∃ Mt, Mt = sm M 209 2 0 := ⟨_, rfl⟩
  rw [← hMt]
  obtain ⟨hvt, hnt, e12, eT⟩ := th_all hv hMt
  have hUt : UR Mt := by unfold UR at hU ⊢; rw [eT 209 65 (by omega)]; exact hU
  refine a_aloadn dX11_turn_5 rfl ?_
  refine a_iloadn dX11_turn_6 rfl ?_
  refine a_oneV (as := [_]) (q := 209) dX11_turn_7 mvX11_352 ⟨by decide, by decide⟩ (L209 L) rfl rfl rfl (Nat.le_of_ble_eq_true rfl) ⟨rfl, rfl⟩ ⟨by decide, by decide⟩ (m_isHouse1 (x := h) rh) (fun x7 hx7 => ?_)
  refine a_if_eq (tgt := 33) dX11_turn_10 (by decide) ⟨by omega, by omega⟩ (fun hb10 => ?_) (fun hb10 => ?_)
  · refine a_iconst dX11_turn_33 ?_
    exact a_zreturn dX11_turn_34 rfl rfl rfl (by omega) (zany_i (Or.inl ⟨by omega, rfl, rfl⟩))
  · refine a_iloadn dX11_turn_13 rfl ?_
    refine a_iconst dX11_turn_14 ?_
    refine a_bipush (w := 99) dX11_turn_15 (by decide) ?_
    refine a_oneS (as := [_, _, _]) dX11_turn_17 mvX11_169 ⟨by decide, by decide⟩ rfl rfl (Nat.le_of_ble_eq_true rfl) ⟨rfl, rfl⟩ ⟨by decide, by decide⟩ (m_isIn1 ⟨by omega, by omega⟩ ⟨by omega, by omega⟩ ⟨by omega, by omega⟩) (fun x17 hx17 => ?_)
    refine a_if_eq (tgt := 33) dX11_turn_20 (by decide) ⟨by omega, by omega⟩ (fun hb20 => ?_) (fun hb20 => ?_)
    · refine a_iconst dX11_turn_33 ?_
      exact a_zreturn dX11_turn_34 rfl rfl rfl (by omega) (zany_i (Or.inl ⟨by omega, rfl, rfl⟩))
    · refine a_aloadn dX11_turn_23 rfl ?_
      refine a_getR (j' := 48) (y := 233) dX11_turn_24 flX11_85 rfl rfl (L209 L) (p209_48 hP) ?_
      refine a_iloadn dX11_turn_27 rfl ?_
      refine b_iald (N := 12) dX11_turn_28 (L233 L) (by decide) (by omega) (by omega) (fun hr28 => ?_)
      rw [eT 233 h (by omega)] at hr28
      rw [eT 233 h (by omega)]
      refine a_iloadn dX11_turn_29 rfl ?_
      refine a_icmp_ne (tgt := 35) dX11_turn_30 (by decide) hr28 rd (fun hb30 => ?_) (fun hb30 => ?_)
      · refine a_aloadn dX11_turn_35 rfl ?_
        refine a_relVv (as := []) (q := 209) dX11_turn_36 mvX11_421 ⟨by decide, by decide⟩ (L209 L) rfl rfl rfl (Nat.le_of_ble_eq_true rfl) ⟨rfl, rfl⟩ ⟨by decide, by decide⟩ (m_X11_remember hP hUt) (fun M1 hM1 => ?_)
        refine a_aloadn dX11_turn_39 rfl ?_
        refine a_getR (j' := 48) (y := 233) dX11_turn_40 flX11_85 rfl rfl (L209 L) (p209_48 hP) ?_
        refine a_iloadn dX11_turn_43 rfl ?_
        refine a_iloadn dX11_turn_44 rfl ?_
        refine a_iast (N := 12) dX11_turn_45 (L233 L) (by decide) (by decide) (by omega) (by omega) ⟨by omega, by omega⟩ ?_
        refine a_iconst dX11_turn_46 ?_
        exact a_zreturn dX11_turn_47 rfl rfl rfl (by omega) (zany_i (Or.inr ⟨by omega, rfl, M1, hM1, rfl⟩))
      · refine a_iconst dX11_turn_33 ?_
        exact a_zreturn dX11_turn_34 rfl rfl rfl (by omega) (zany_i (Or.inl ⟨by omega, rfl, rfl⟩))

set_option maxRecDepth 100000 in
set_option maxHeartbeats 4000000 in
theorem m_X11_make {G : zG} {l : Launch} {L : Nat} {P : zP} {M : zM} {h d : Int} (hv : RV P M) (hU : UR M) (rh : inR h) (rd : inR d) : AM G l yX11_make mdX11_make [aR 209, aI h, aI d] (LAY L) P M (zany (LAY L) P (fun r M' => ((¬ (0 ≤ h ∧ h < M 209 12 ∧ 1 ≤ d ∧ d ≤ 9)) ∧ r = -1 ∧ M' = sm M 209 2 0) ∨ (¬ (¬ (0 ≤ h ∧ h < M 209 12 ∧ 1 ≤ d ∧ d ≤ 9)) ∧ ∃ M1, RmR (ptM (sm M 209 2 0)) M1 ∧ Es (sdR 0 h d (M1 209 12).toNat 0 M1 0).1 M' ∧ r = (sdR 0 h d (M1 209 12).toNat 0 M1 0).2))) := by
  have hP := hv.1
  have q0 := hv.2.1.1.1.1
  refine AM.go [some (aR 209), some (aI h), some (aI d)] rfl (Nat.le_of_ble_eq_true rfl) ?_ (by decide) rfl rfl
  refine a_aloadn dX11_make_0 rfl ?_
  refine a_iconst dX11_make_1 ?_
  refine a_putI (j' := 2) dX11_make_2 flX11_124 rfl rfl (L209 L) (by decide) rfl ⟨by omega, by omega⟩ ?_
  obtain ⟨Mt, hMt⟩ : ∃ Mt, Mt = sm M 209 2 0 := ⟨_, rfl⟩
  rw [← hMt]
  obtain ⟨hvt, hnt, e12, eT⟩ := th_all hv hMt
  have hUt : UR Mt := by unfold UR at hU ⊢; rw [eT 209 65 (by omega)]; exact hU
  refine a_aloadn dX11_make_5 rfl ?_
  refine a_iloadn dX11_make_6 rfl ?_
  refine a_oneV (as := [_]) (q := 209) dX11_make_7 mvX11_352 ⟨by decide, by decide⟩ (L209 L) rfl rfl rfl (Nat.le_of_ble_eq_true rfl) ⟨rfl, rfl⟩ ⟨by decide, by decide⟩ (m_isHouse1 (x := h) rh) (fun x7 hx7 => ?_)
  refine a_if_eq (tgt := 23) dX11_make_10 (by decide) ⟨by omega, by omega⟩ (fun hb10 => ?_) (fun hb10 => ?_)
  · refine a_iconst dX11_make_23 ?_
    exact a_ireturn dX11_make_24 rfl rfl rfl (zany_i (Or.inl ⟨by omega, rfl, rfl⟩))
  · refine a_iloadn dX11_make_13 rfl ?_
    refine a_iconst dX11_make_14 ?_
    refine a_bipush (w := 9) dX11_make_15 (by decide) ?_
    refine a_oneS (as := [_, _, _]) dX11_make_17 mvX11_169 ⟨by decide, by decide⟩ rfl rfl (Nat.le_of_ble_eq_true rfl) ⟨rfl, rfl⟩ ⟨by decide, by decide⟩ (m_isIn1 ⟨by omega, by omega⟩ ⟨by omega, by omega⟩ ⟨by omega, by omega⟩) (fun x17 hx17 => ?_)
    refine a_if_ne (tgt := 25) dX11_make_20 (by decide) ⟨by omega, by omega⟩ (fun hb20 => ?_) (fun hb20 => ?_)
    · refine a_aloadn dX11_make_25 rfl ?_
      refine a_callVv (as := []) (q := 209) dX11_make_26 mvX11_322 ⟨by decide, by decide⟩ (L209 L) rfl rfl rfl (Nat.le_of_ble_eq_true rfl) ⟨rfl, rfl⟩ ⟨by decide, by decide⟩ (m_X11_plainTried hP) ?_
      have hvp := (ptM_rn hvt.2.1.1.1).rv hvt
      have hUp : UR (ptM Mt) := by unfold UR at hUt ⊢; rw [ptM_n Mt 209 65 (by omega)]; exact hUt
      refine a_aloadn dX11_make_29 rfl ?_
      refine a_relVv (as := []) (q := 209) dX11_make_30 mvX11_421 ⟨by decide, by decide⟩ (L209 L) rfl rfl rfl (Nat.le_of_ble_eq_true rfl) ⟨rfl, rfl⟩ ⟨by decide, by decide⟩ (m_X11_remember hP hUp) (fun M1 hM1 => ?_)
      have hv1 := hM1.rv hvp
      refine a_aloadn dX11_make_33 rfl ?_
      refine a_iconst dX11_make_34 ?_
      refine a_iloadn dX11_make_35 rfl ?_
      refine a_iloadn dX11_make_36 rfl ?_
      refine a_anyV (as := [_, _, _]) (q := 209) dX11_make_37 mvX11_390 ⟨by decide, by decide⟩ (L209 L) rfl rfl rfl (Nat.le_of_ble_eq_true rfl) ⟨rfl, rfl⟩ ⟨by decide, by decide⟩ (m_X11_makes hP (Or.inl rfl) (Es.rf M1) hv1.2.1.1 (by omega) (by omega) ⟨by omega, by omega⟩) (fun x9 M2 hM2 => ?_)
      exact a_ireturn dX11_make_40 rfl rfl rfl (zany_i (Or.inr ⟨by omega, M1, hM1, hM2.1, hM2.2⟩))
    · refine a_iconst dX11_make_23 ?_
      exact a_ireturn dX11_make_24 rfl rfl rfl (zany_i (Or.inl ⟨by omega, rfl, rfl⟩))

set_option maxRecDepth 100000 in
set_option maxHeartbeats 4000000 in
theorem m_X11_valve {G : zG} {l : Launch} {L : Nat} {P : zP} {M : zM} {h : Int} (hv : RV P M) (hU : UR M) (rh : inR h) : AM G l yX11_valve mdX11_valve [aR 209, aI h] (LAY L) P M (zany (LAY L) P (fun r M' => ((¬ (0 ≤ h ∧ h < M 209 12)) ∧ r = -1 ∧ M' = sm M 209 2 0) ∨ (¬ (¬ (0 ≤ h ∧ h < M 209 12)) ∧ M 234 h = M 216 h ∧ r = -2 ∧ M' = sm M 209 2 0) ∨ (¬ (¬ (0 ≤ h ∧ h < M 209 12)) ∧ M 234 h ≠ M 216 h ∧ r = M 216 h ∧ ∃ M1, RmR (sm M 209 2 0) M1 ∧ M' = sm M1 234 h (M 216 h)))) := by
  have hP := hv.1
  have q0 := hv.2.1.1.1.1
  refine AM.go [some (aR 209), some (aI h)] rfl (Nat.le_of_ble_eq_true rfl) ?_ (by decide) rfl rfl
  refine a_aloadn dX11_valve_0 rfl ?_
  refine a_iconst dX11_valve_1 ?_
  refine a_putI (j' := 2) dX11_valve_2 flX11_124 rfl rfl (L209 L) (by decide) rfl ⟨by omega, by omega⟩ ?_
  obtain ⟨Mt, hMt⟩ : ∃ Mt, Mt = sm M 209 2 0 := ⟨_, rfl⟩
  rw [← hMt]
  obtain ⟨hvt, hnt, e12, eT⟩ := th_all hv hMt
  have hUt : UR Mt := by unfold UR at hU ⊢; rw [eT 209 65 (by omega)]; exact hU
  refine a_aloadn dX11_valve_5 rfl ?_
  refine a_iloadn dX11_valve_6 rfl ?_
  refine a_oneV (as := [_]) (q := 209) dX11_valve_7 mvX11_352 ⟨by decide, by decide⟩ (L209 L) rfl rfl rfl (Nat.le_of_ble_eq_true rfl) ⟨rfl, rfl⟩ ⟨by decide, by decide⟩ (m_isHouse1 (x := h) rh) (fun x7 hx7 => ?_)
  refine a_if_ne (tgt := 15) dX11_valve_10 (by decide) ⟨by omega, by omega⟩ (fun hb10 => ?_) (fun hb10 => ?_)
  · refine a_aloadn dX11_valve_15 rfl ?_
    refine a_getR (j' := 49) (y := 234) dX11_valve_16 flX11_88 rfl rfl (L209 L) (p209_49 hP) ?_
    refine a_iloadn dX11_valve_19 rfl ?_
    refine b_iald (N := 12) dX11_valve_20 (L234 L) (by decide) (by omega) (by omega) (fun hr20 => ?_)
    rw [eT 234 h (by omega)] at hr20
    rw [eT 234 h (by omega)]
    refine a_aloadn dX11_valve_21 rfl ?_
    refine a_getR (j' := 24) (y := 216) dX11_valve_22 flX11_33 rfl rfl (L209 L) (p209_24 hP) ?_
    refine a_iloadn dX11_valve_25 rfl ?_
    refine b_iald (N := 12) dX11_valve_26 (L216 L) (by decide) (by omega) (by omega) (fun hr26 => ?_)
    rw [eT 216 h (by omega)] at hr26
    rw [eT 216 h (by omega)]
    refine a_icmp_ne (tgt := 33) dX11_valve_27 (by decide) hr20 hr26 (fun hb27 => ?_) (fun hb27 => ?_)
    · refine a_aloadn dX11_valve_33 rfl ?_
      refine a_relVv (as := []) (q := 209) dX11_valve_34 mvX11_421 ⟨by decide, by decide⟩ (L209 L) rfl rfl rfl (Nat.le_of_ble_eq_true rfl) ⟨rfl, rfl⟩ ⟨by decide, by decide⟩ (m_X11_remember hP hUt) (fun M1 hM1 => ?_)
      refine a_aloadn dX11_valve_37 rfl ?_
      refine a_getR (j' := 49) (y := 234) dX11_valve_38 flX11_88 rfl rfl (L209 L) (p209_49 hP) ?_
      refine a_iloadn dX11_valve_41 rfl ?_
      refine a_aloadn dX11_valve_42 rfl ?_
      refine a_getR (j' := 24) (y := 216) dX11_valve_43 flX11_33 rfl rfl (L209 L) (p209_24 hP) ?_
      refine a_iloadn dX11_valve_46 rfl ?_
      refine b_iald (N := 12) dX11_valve_47 (L216 L) (by decide) (by omega) (by omega) (fun hr47 => ?_)
      have e47 : M1 216 h = M 216 h := by rw [hM1.2.2.2.2 216 h (by decide) (by omega), eT 216 h (by omega)]
      rw [e47] at hr47
      rw [e47]
      refine a_iast (N := 12) dX11_valve_48 (L234 L) (by decide) (by decide) (by omega) (by omega) hr47 ?_
      refine a_aloadn dX11_valve_49 rfl ?_
      refine a_getR (j' := 49) (y := 234) dX11_valve_50 flX11_88 rfl rfl (L209 L) (p209_49 hP) ?_
      refine a_iloadn dX11_valve_53 rfl ?_
      refine b_iald (N := 12) dX11_valve_54 (L234 L) (by decide) (by omega) (by omega) (fun hr54 => ?_)
      rw [sm_s] at hr54
      rw [sm_s]
      exact a_ireturn dX11_valve_55 rfl rfl rfl (zany_i (Or.inr (Or.inr ⟨by omega, by omega, rfl, M1, hM1, rfl⟩)))
    · refine a_bipush (w := (-2)) dX11_valve_30 (by decide) ?_
      exact a_ireturn dX11_valve_32 rfl rfl rfl (zany_i (Or.inr (Or.inl ⟨by omega, by omega, rfl, rfl⟩)))
  · refine a_iconst dX11_valve_13 ?_
    exact a_ireturn dX11_valve_14 rfl rfl rfl (zany_i (Or.inl ⟨by omega, rfl, rfl⟩))

set_option maxRecDepth 100000 in
set_option maxHeartbeats 4000000 in
theorem lpX11_go {G : zG} {l : Launch} {L : Nat} {P : zP} {nn : Int} {Z : zZ} (hP : PFok P) (hn : 0 ≤ nn ∧ nn ≤ 99) : ∀ (n : Nat) (i : Int) (M Ma : zM) (g0 : 0 ≤ i) (g1 : i + n = nn) (hE : Es Ma M) (hI : RJ Ma 0) (hh : Ma 238 0 + n ≤ 9999) (kk : ∀ M' : zM, Es (goR 0 n Ma) M' → AW G l mdX11_go Z 58 [some (aR 209), some (aI nn), none] [] (LAY L) P M' 0 0), AW G l mdX11_go Z 42 [some (aR 209), some (aI nn), some (aI i)] [] (LAY L) P M 0 0 := by
  intro n
  induction n with
  | zero =>
    intro i M Ma g0 g1 hE hI hh kk
    refine a_iloadn dX11_go_42 rfl ?_
    refine a_iloadn dX11_go_43 rfl ?_
    refine a_icmp_ge (tgt := 58) dX11_go_44 (by decide) ⟨by omega, by omega⟩ ⟨by omega, by omega⟩ (fun hb44 => ?_) (fun hb44 => ?_)
    · refine a_forget [2] (ls' := [_, _, none]) rfl (kk M hE)
    · exfalso; omega
  | succ n ih =>
    intro i M Ma g0 g1 hE hI hh kk
    refine a_iloadn dX11_go_42 rfl ?_
    refine a_iloadn dX11_go_43 rfl ?_
    refine a_icmp_ge (tgt := 58) dX11_go_44 (by decide) ⟨by omega, by omega⟩ ⟨by omega, by omega⟩ (fun hb44 => ?_) (fun hb44 => ?_)
    · exfalso; omega
    · obtain ⟨p1, p2, p3, p4⟩ := hourR_all hI (by omega)
      refine a_aloadn dX11_go_47 rfl ?_
      refine a_iconst dX11_go_48 ?_
      refine a_relVv (as := [_]) (q := 209) dX11_go_49 mvX11_397 ⟨by decide, by decide⟩ (L209 L) rfl rfl rfl (Nat.le_of_ble_eq_true rfl) ⟨rfl, rfl⟩ ⟨by decide, by decide⟩ (m_X11_hourGoes hP (Or.inl rfl) hE hI (by omega)) (fun M1 hM1 => ?_)
      refine c_iinc (ls' := [_, _, _]) dX11_go_52 rfl (by decide) rfl rfl ?_
      refine a_goto (tgt := 42) dX11_go_55 (by decide) ?_
      exact ih _ _ (hourR 0 Ma) (by omega) (by omega) hM1 p2 (by rw [p3]; omega) kk

set_option maxRecDepth 100000 in
set_option maxHeartbeats 4000000 in
theorem tlX11_go {G : zG} {l : Launch} {L : Nat} {P : zP} {M : zM} {nn h0 u0 : Int} (hP : PFok P) (hn : 0 ≤ nn ∧ nn ≤ 99) (e1 : M 238 0 = h0) (e2 : M 209 65 = u0) (hu : 0 ≤ u0 ∧ u0 ≤ 20) : AW G l mdX11_go (zdet (some (aI h0)) (LAY L) P (sm (sm M 209 55 0) 209 65 (if 0 < nn then 0 else u0))) 58 [some (aR 209), some (aI nn), none] [] (LAY L) P M 0 0 := by
  refine a_aloadn dX11_go_58 rfl ?_
  refine a_iconst dX11_go_59 ?_
  refine a_putZ (j' := 55) dX11_go_60 flX11_334 rfl rfl (L209 L) (by decide) rfl (by omega) ?_
  refine a_aloadn dX11_go_63 rfl ?_
  refine a_iloadn dX11_go_64 rfl ?_
  refine a_if_le (tgt := 72) dX11_go_65 (by decide) ⟨by omega, by omega⟩ (fun hb65 => ?_) (fun hb65 => ?_)
  · refine a_aloadn dX11_go_72 rfl ?_
    refine b_getI (j' := 65) dX11_go_73 flX11_328 rfl rfl (L209 L) (fun hr73 => ?_)
    have e73 : sm M 209 55 0 209 65 = u0 := by rw [sm_k, us_n (by decide)]; exact e2
    rw [e73] at hr73
    rw [e73]
    refine a_putI (j' := 65) dX11_go_76 flX11_328 rfl rfl (L209 L) (by decide) rfl ⟨by omega, by omega⟩ ?_
    refine a_aloadn dX11_go_79 rfl ?_
    refine a_getR (j' := 53) (y := 238) dX11_go_80 flX11_100 rfl rfl (L209 L) (p209_53 hP) ?_
    refine a_iconst dX11_go_83 ?_
    refine b_iald (N := 2) dX11_go_84 (L238 L) (by decide) (by decide) (by decide) (fun hr84 => ?_)
    rw [sm_n (by decide), sm_n (by decide), e1] at hr84
    rw [sm_n (by decide), sm_n (by decide), e1]
    exact a_ireturn dX11_go_85 rfl rfl rfl (zdet_I rfl (by first | (rw [if_pos (by omega)]; done) | (rw [if_neg (by omega)]; done)))
  · refine a_iconst dX11_go_68 ?_
    refine a_goto (tgt := 76) dX11_go_69 (by decide) ?_
    refine a_putI (j' := 65) dX11_go_76 flX11_328 rfl rfl (L209 L) (by decide) rfl ⟨by omega, by omega⟩ ?_
    refine a_aloadn dX11_go_79 rfl ?_
    refine a_getR (j' := 53) (y := 238) dX11_go_80 flX11_100 rfl rfl (L209 L) (p209_53 hP) ?_
    refine a_iconst dX11_go_83 ?_
    refine b_iald (N := 2) dX11_go_84 (L238 L) (by decide) (by decide) (by decide) (fun hr84 => ?_)
    rw [sm_n (by decide), sm_n (by decide), e1] at hr84
    rw [sm_n (by decide), sm_n (by decide), e1]
    exact a_ireturn dX11_go_85 rfl rfl rfl (zdet_I rfl (by first | (rw [if_pos (by omega)]; done) | (rw [if_neg (by omega)]; done)))

set_option maxRecDepth 100000 in
set_option maxHeartbeats 4000000 in
theorem m_X11_go {G : zG} {l : Launch} {L : Nat} {P : zP} {M : zM} {n : Int} (hv : RV P M) (hU : UR M) (rn : inR n) : AM G l yX11_go mdX11_go [aR 209, aI n] (LAY L) P M (zany (LAY L) P (fun r M' => ((¬ (0 ≤ n ∧ n ≤ 99 ∧ M 238 0 + n ≤ 9000)) ∧ r = -1 ∧ M' = sm M 209 2 0) ∨ (¬ (¬ (0 ≤ n ∧ n ≤ 99 ∧ M 238 0 + n ≤ 9000)) ∧ r = M 238 0 + n ∧ ∃ M1, Es (goR 0 n.toNat (sm (ptM (sm M 209 2 0)) 209 55 1)) M1 ∧ M' = sm (sm M1 209 55 0) 209 65 (if 0 < n then 0 else M 209 65)))) := by
  have hP := hv.1
  have q0 := hv.2.1.1.1.1
  have qh := hv.2.1.1.2.2.1.2.2.2
  refine AM.go [some (aR 209), some (aI n), none] rfl (Nat.le_of_ble_eq_true rfl) ?_ (by decide) rfl rfl
  refine a_aloadn dX11_go_0 rfl ?_
  refine a_iconst dX11_go_1 ?_
  refine a_putI (j' := 2) dX11_go_2 flX11_124 rfl rfl (L209 L) (by decide) rfl ⟨by omega, by omega⟩ ?_
  obtain ⟨Mt, hMt⟩ : ∃ Mt, Mt = sm M 209 2 0 := ⟨_, rfl⟩
  rw [← hMt]
  obtain ⟨hvt, hnt, e12, eT⟩ := th_all hv hMt
  have hUt : UR Mt := by unfold UR at hU ⊢; rw [eT 209 65 (by omega)]; exact hU
  refine a_iloadn dX11_go_5 rfl ?_
  refine a_iconst dX11_go_6 ?_
  refine a_bipush (w := 99) dX11_go_7 (by decide) ?_
  refine a_oneS (as := [_, _, _]) dX11_go_9 mvX11_169 ⟨by decide, by decide⟩ rfl rfl (Nat.le_of_ble_eq_true rfl) ⟨rfl, rfl⟩ ⟨by decide, by decide⟩ (m_isIn1 ⟨by omega, by omega⟩ ⟨by omega, by omega⟩ ⟨by omega, by omega⟩) (fun x9 hx9 => ?_)
  refine a_if_eq (tgt := 29) dX11_go_12 (by decide) ⟨by omega, by omega⟩ (fun hb12 => ?_) (fun hb12 => ?_)
  · refine a_iconst dX11_go_29 ?_
    exact a_ireturn dX11_go_30 rfl rfl rfl (zany_i (Or.inl ⟨by omega, rfl, rfl⟩))
  · refine a_aloadn dX11_go_15 rfl ?_
    refine a_getR (j' := 53) (y := 238) dX11_go_16 flX11_100 rfl rfl (L209 L) (p209_53 hP) ?_
    refine a_iconst dX11_go_19 ?_
    refine b_iald (N := 2) dX11_go_20 (L238 L) (by decide) (by decide) (by decide) (fun hr20 => ?_)
    rw [eT 238 0 (by omega)] at hr20
    rw [eT 238 0 (by omega)]
    refine a_iloadn dX11_go_21 rfl ?_
    refine a_iadd dX11_go_22 ?_
    refine a_sipush (w := 9000) dX11_go_23 (by decide) ?_
    refine a_icmp_le (tgt := 31) dX11_go_26 (by decide) ⟨by omega, by omega⟩ ⟨by omega, by omega⟩ (fun hb26 => ?_) (fun hb26 => ?_)
    · refine a_aloadn dX11_go_31 rfl ?_
      refine a_callVv (as := []) (q := 209) dX11_go_32 mvX11_322 ⟨by decide, by decide⟩ (L209 L) rfl rfl rfl (Nat.le_of_ble_eq_true rfl) ⟨rfl, rfl⟩ ⟨by decide, by decide⟩ (m_X11_plainTried hP) ?_
      have hvp := (ptM_rn hvt.2.1.1.1).rv hvt
      refine a_aloadn dX11_go_35 rfl ?_
      refine a_iconst dX11_go_36 ?_
      refine a_putZ (j' := 55) dX11_go_37 flX11_334 rfl rfl (L209 L) (by decide) rfl (by omega) ?_
      
      refine a_iconst dX11_go_40 ?_
      refine c_istoren (ls' := [_, _, _]) dX11_go_41 (by decide) rfl rfl ?_
      have hz : Rn (ptM Mt) (sm (ptM Mt) 209 55 1) := ⟨(Rq.rf _).put _ (by omega), by rw [sm_k, us_n (by decide)]; exact hvp.2.1.1.2.2.2⟩
      have hvz := hz.rv hvp
      have e38 : sm (ptM Mt) 209 55 1 238 0 = M 238 0 := by rw [sm_n (by decide), ptM_n Mt 238 0 (by omega), eT 238 0 (by omega)]
      have h65 : sm (ptM Mt) 209 55 1 209 65 = M 209 65 := by rw [sm_k, us_n (by decide), ptM_n Mt 209 65 (by omega), eT 209 65 (by omega)]
      have ga := goR_all (b := 0) n.toNat _ hvz.2.1 (by rw [e38]; omega)
      refine lpX11_go hP (nn := n) (by omega) n.toNat 0 _ _ (by omega) (by omega) (Es.rf _) hvz.2.1 (by rw [e38]; omega) (fun M1 h1 => ?_)
      refine AW.mono2 (tlX11_go (h0 := M 238 0 + n) (u0 := M 209 65) hP (by omega) (by rw [h1 238 0 (by decide) (by decide) (by omega), ga.2.2.1, e38]; omega) (by rw [h1 209 65 (by decide) (by decide) (by omega), ga.2.2.2 65 (by decide), h65]) hU) ?_
      rintro r lay P' M' ⟨rfl, rfl, rfl, rfl⟩
      exact zany_i (Or.inr ⟨by omega, rfl, M1, h1, rfl⟩)
    · refine a_iconst dX11_go_29 ?_
      exact a_ireturn dX11_go_30 rfl rfl rfl (zany_i (Or.inl ⟨by omega, rfl, rfl⟩))

set_option maxRecDepth 100000 in
set_option maxHeartbeats 4000000 in
theorem m_X11_undo {G : zG} {l : Launch} {L : Nat} {P : zP} {M : zM}  (hv : RV P M) (hU : UR M)  : AM G l yX11_undo mdX11_undo [aR 209] (LAY L) P M (zany (LAY L) P (fun r M' => (M 209 65 = 0 ∧ r = -1 ∧ M' = sm M 209 2 0) ∨ (M 209 65 ≠ 0 ∧ r = M 209 65 - 1 ∧ TakR 241 (90 * (M 209 65 - 1)) (sm (sm M 209 2 0) 209 65 (M 209 65 - 1)) M'))) := by
  have hP := hv.1
  have q0 := hv.2.1.1.1.1
  have hu := hU
  unfold UR at hu
  refine AM.go [some (aR 209)] rfl (Nat.le_of_ble_eq_true rfl) ?_ (by decide) rfl rfl
  refine a_aloadn dX11_undo_0 rfl ?_
  refine a_iconst dX11_undo_1 ?_
  refine a_putI (j' := 2) dX11_undo_2 flX11_124 rfl rfl (L209 L) (by decide) rfl ⟨by omega, by omega⟩ ?_
  obtain ⟨Mt, hMt⟩ : ∃ Mt, Mt = sm M 209 2 0 := ⟨_, rfl⟩
  rw [← hMt]
  obtain ⟨hvt, hnt, e12, eT⟩ := th_all hv hMt
  refine a_aloadn dX11_undo_5 rfl ?_
  refine b_getI (j' := 65) dX11_undo_6 flX11_328 rfl rfl (L209 L) (fun hr6 => ?_)
  rw [eT 209 65 (by omega)] at hr6
  rw [eT 209 65 (by omega)]
  refine a_if_ne (tgt := 14) dX11_undo_9 (by decide) ⟨by omega, by omega⟩ (fun hb9 => ?_) (fun hb9 => ?_)
  · refine a_aloadn dX11_undo_14 rfl ?_
    refine a_dupR dX11_undo_15 ?_
    refine b_getI (j' := 65) dX11_undo_16 flX11_328 rfl rfl (L209 L) (fun hr16 => ?_)
    rw [eT 209 65 (by omega)] at hr16
    rw [eT 209 65 (by omega)]
    refine a_iconst dX11_undo_19 ?_
    refine a_isub dX11_undo_20 ?_
    refine a_putI (j' := 65) dX11_undo_21 flX11_328 rfl rfl (L209 L) (by decide) rfl ⟨by omega, by omega⟩ ?_
    refine a_aloadn dX11_undo_24 rfl ?_
    refine a_aloadn dX11_undo_25 rfl ?_
    refine a_getR (j' := 66) (y := 241) dX11_undo_26 flX11_112 rfl rfl (L209 L) (p209_66 hP) ?_
    refine a_bipush (w := 90) dX11_undo_29 (by decide) ?_
    refine a_aloadn dX11_undo_31 rfl ?_
    refine b_getI (j' := 65) dX11_undo_32 flX11_328 rfl rfl (L209 L) (fun hr32 => ?_)
    rw [sm_s] at hr32
    rw [sm_s]
    refine a_imul dX11_undo_35 ?_
    refine a_relVv (as := [_, _]) (q := 209) dX11_undo_36 mvX11_493 ⟨by decide, by decide⟩ (L209 L) rfl rfl rfl (Nat.le_of_ble_eq_true rfl) ⟨rfl, rfl⟩ ⟨by decide, by decide⟩ (m_take241 hP ⟨by omega, by omega⟩) (fun M1 hM1 => ?_)
    refine a_aloadn dX11_undo_39 rfl ?_
    refine b_getI (j' := 65) dX11_undo_40 flX11_328 rfl rfl (L209 L) (fun hr40 => ?_)
    have e40 : M1 209 65 = M 209 65 - 1 := by rw [hM1.2.2 209 65 (by omega) (by omega), sm_s]
    rw [e40] at hr40
    rw [e40]
    exact a_ireturn dX11_undo_43 rfl rfl rfl (zany_i (Or.inr ⟨by omega, rfl, hM1⟩))
  · refine a_iconst dX11_undo_12 ?_
    exact a_ireturn dX11_undo_13 rfl rfl rfl (zany_i (Or.inl ⟨by omega, rfl, rfl⟩))

set_option maxRecDepth 100000 in
set_option maxHeartbeats 4000000 in
theorem m_X11_keep {G : zG} {l : Launch} {L : Nat} {P : zP} {M : zM}  (hv : RV P M) : AM G l yX11_keep mdX11_keep [aR 209] (LAY L) P M (zany (LAY L) P (fun r M' => r = M 238 0 ∧ ∃ M1, PutR 242 0 (sm (sm M 209 2 0) 209 67 1) M1 ∧ M' = sm (sm M1 209 69 (M 238 0)) 209 70 (M 209 54))) := by
  have hP := hv.1
  have q0 := hv.2.1.1.1.1
  have qd := hv.2.1.2
  refine AM.go [some (aR 209)] rfl (Nat.le_of_ble_eq_true rfl) ?_ (by decide) rfl rfl
  refine a_aloadn dX11_keep_0 rfl ?_
  refine a_iconst dX11_keep_1 ?_
  refine a_putI (j' := 2) dX11_keep_2 flX11_124 rfl rfl (L209 L) (by decide) rfl ⟨by omega, by omega⟩ ?_
  obtain ⟨Mt, hMt⟩ : ∃ Mt, Mt = sm M 209 2 0 := ⟨_, rfl⟩
  rw [← hMt]
  obtain ⟨hvt, hnt, e12, eT⟩ := th_all hv hMt
  refine a_aloadn dX11_keep_5 rfl ?_
  refine a_iconst dX11_keep_6 ?_
  refine a_putZ (j' := 67) dX11_keep_7 flX11_331 rfl rfl (L209 L) (by decide) rfl (by omega) ?_
  refine a_aloadn dX11_keep_10 rfl ?_
  refine a_aloadn dX11_keep_11 rfl ?_
  refine a_getR (j' := 68) (y := 242) dX11_keep_12 flX11_115 rfl rfl (L209 L) (p209_68 hP) ?_
  refine a_iconst dX11_keep_15 ?_
  refine a_relVv (as := [_, _]) (q := 209) dX11_keep_16 mvX11_490 ⟨by decide, by decide⟩ (L209 L) rfl rfl rfl (Nat.le_of_ble_eq_true rfl) ⟨rfl, rfl⟩ ⟨by decide, by decide⟩ (m_put242 hP ⟨by omega, by omega⟩) (fun M1 hM1 => ?_)
  refine a_aloadn dX11_keep_19 rfl ?_
  refine a_aloadn dX11_keep_20 rfl ?_
  refine a_getR (j' := 53) (y := 238) dX11_keep_21 flX11_100 rfl rfl (L209 L) (p209_53 hP) ?_
  refine a_iconst dX11_keep_24 ?_
  refine b_iald (N := 2) dX11_keep_25 (L238 L) (by decide) (by decide) (by decide) (fun hr25 => ?_)
  have e25 : M1 238 0 = M 238 0 := by rw [hM1.2.2 238 0 (by omega), sm_n (by decide), eT 238 0 (by omega)]
  rw [e25] at hr25
  rw [e25]
  refine a_putI (j' := 69) dX11_keep_26 flX11_496 rfl rfl (L209 L) (by decide) rfl hr25 ?_
  refine a_aloadn dX11_keep_29 rfl ?_
  refine a_aloadn dX11_keep_30 rfl ?_
  refine b_getL (j' := 54) dX11_keep_31 flX11_318 rfl rfl (L209 L) (fun hr31 => ?_)
  have e31 : sm M1 209 69 (M 238 0) 209 54 = M 209 54 := by rw [sm_k, us_n (by decide), hM1.2.2 209 54 (by omega), sm_k, us_n (by decide), eT 209 54 (by omega)]
  rw [e31] at hr31
  rw [e31]
  refine a_putL (j' := 70) dX11_keep_34 flX11_499 rfl rfl (L209 L) (by decide) rfl hr31 ?_
  refine a_aloadn dX11_keep_37 rfl ?_
  refine a_getR (j' := 53) (y := 238) dX11_keep_38 flX11_100 rfl rfl (L209 L) (p209_53 hP) ?_
  refine a_iconst dX11_keep_41 ?_
  refine b_iald (N := 2) dX11_keep_42 (L238 L) (by decide) (by decide) (by decide) (fun hr42 => ?_)
  rw [sm_n (by decide), sm_n (by decide), e25] at hr42
  rw [sm_n (by decide), sm_n (by decide), e25]
  exact a_ireturn dX11_keep_43 rfl rfl rfl (zany_i ⟨rfl, M1, hM1, rfl⟩)

set_option maxRecDepth 100000 in
set_option maxHeartbeats 4000000 in
theorem m_X11_back {G : zG} {l : Launch} {L : Nat} {P : zP} {M : zM}  (hv : RV P M) : AM G l yX11_back mdX11_back [aR 209] (LAY L) P M (zany (LAY L) P (fun r M' => (M 209 67 = 0 ∧ r = -1 ∧ M' = sm M 209 2 0) ∨ (M 209 67 ≠ 0 ∧ r = M 209 69 ∧ ∃ M1, TakR 242 0 (sm M 209 2 0) M1 ∧ M' = sm (sm (sm M1 238 0 (M 209 69)) 209 54 (M 209 70)) 209 65 0))) := by
  have hP := hv.1
  have q0 := hv.2.1.1.1.1
  refine AM.go [some (aR 209)] rfl (Nat.le_of_ble_eq_true rfl) ?_ (by decide) rfl rfl
  refine a_aloadn dX11_back_0 rfl ?_
  refine a_iconst dX11_back_1 ?_
  refine a_putI (j' := 2) dX11_back_2 flX11_124 rfl rfl (L209 L) (by decide) rfl ⟨by omega, by omega⟩ ?_
  obtain ⟨Mt, hMt⟩ : ∃ Mt, Mt = sm M 209 2 0 := ⟨_, rfl⟩
  rw [← hMt]
  obtain ⟨hvt, hnt, e12, eT⟩ := th_all hv hMt
  refine a_aloadn dX11_back_5 rfl ?_
  refine b_getZ (j' := 67) dX11_back_6 flX11_331 rfl rfl (L209 L) (fun hr6 => ?_)
  rw [eT 209 67 (by omega)] at hr6
  rw [eT 209 67 (by omega)]
  refine a_if_ne (tgt := 14) dX11_back_9 (by decide) (by rcases hr6 with z | z <;> exact ⟨by omega, by omega⟩) (fun hb9 => ?_) (fun hb9 => ?_)
  · refine a_aloadn dX11_back_14 rfl ?_
    refine a_aloadn dX11_back_15 rfl ?_
    refine a_getR (j' := 68) (y := 242) dX11_back_16 flX11_115 rfl rfl (L209 L) (p209_68 hP) ?_
    refine a_iconst dX11_back_19 ?_
    refine a_relVv (as := [_, _]) (q := 209) dX11_back_20 mvX11_493 ⟨by decide, by decide⟩ (L209 L) rfl rfl rfl (Nat.le_of_ble_eq_true rfl) ⟨rfl, rfl⟩ ⟨by decide, by decide⟩ (m_take242 hP ⟨by omega, by omega⟩) (fun M1 hM1 => ?_)
    refine a_aloadn dX11_back_23 rfl ?_
    refine a_getR (j' := 53) (y := 238) dX11_back_24 flX11_100 rfl rfl (L209 L) (p209_53 hP) ?_
    refine a_iconst dX11_back_27 ?_
    refine a_aloadn dX11_back_28 rfl ?_
    refine b_getI (j' := 69) dX11_back_29 flX11_496 rfl rfl (L209 L) (fun hr29 => ?_)
    have e29 : M1 209 69 = M 209 69 := by rw [hM1.2.2 209 69 (by omega) (by omega), eT 209 69 (by omega)]
    rw [e29] at hr29
    rw [e29]
    refine a_iast (N := 2) dX11_back_32 (L238 L) (by decide) (by decide) (by decide) (by decide) hr29 ?_
    refine a_aloadn dX11_back_33 rfl ?_
    refine a_aloadn dX11_back_34 rfl ?_
    refine b_getL (j' := 70) dX11_back_35 flX11_499 rfl rfl (L209 L) (fun hr35 => ?_)
    have e35 : sm M1 238 0 (M 209 69) 209 70 = M 209 70 := by rw [sm_n (by decide), hM1.2.2 209 70 (by omega) (by omega), eT 209 70 (by omega)]
    rw [e35] at hr35
    rw [e35]
    refine a_putL (j' := 54) dX11_back_38 flX11_318 rfl rfl (L209 L) (by decide) rfl hr35 ?_
    refine a_aloadn dX11_back_41 rfl ?_
    refine a_iconst dX11_back_42 ?_
    refine a_putI (j' := 65) dX11_back_43 flX11_328 rfl rfl (L209 L) (by decide) rfl ⟨by omega, by omega⟩ ?_
    refine a_aloadn dX11_back_46 rfl ?_
    refine a_getR (j' := 53) (y := 238) dX11_back_47 flX11_100 rfl rfl (L209 L) (p209_53 hP) ?_
    refine a_iconst dX11_back_50 ?_
    refine b_iald (N := 2) dX11_back_51 (L238 L) (by decide) (by decide) (by decide) (fun hr51 => ?_)
    rw [sm_n (by decide), sm_n (by decide), sm_s] at hr51
    rw [sm_n (by decide), sm_n (by decide), sm_s]
    exact a_ireturn dX11_back_52 rfl rfl rfl (zany_i (Or.inr ⟨by omega, rfl, M1, hM1, rfl⟩))
  · refine a_iconst dX11_back_12 ?_
    exact a_ireturn dX11_back_13 rfl rfl rfl (zany_i (Or.inl ⟨by omega, rfl, rfl⟩))

set_option maxRecDepth 100000 in
set_option maxHeartbeats 4000000 in
theorem lpX11_count {G : zG} {l : Launch} {L : Nat} {P : zP} {M : zM} {w : Int} (hP : PFok P) (hT : TxI M) : ∀ (n : Nat) (i acc : Int) (g0 : 0 ≤ i) (g1 : i + n = M 209 12), AW G l mdX11_count (zone (LAY L) P M (fun r => r = zsm (M 234) n i acc)) 109 [some (aR 209), some (aI w), some (aI acc), some (aI i)] [] (LAY L) P M 0 0 := by
  intro n
  induction n with
  | zero =>
    intro i acc g0 g1
    have q1 := hT.1
    refine a_iloadn dX11_count_109 rfl ?_
    refine a_aloadn dX11_count_110 rfl ?_
    refine b_getI (j' := 12) dX11_count_111 flX11_201 rfl rfl (L209 L) (fun hr111 => ?_)
    refine a_icmp_ge (tgt := 132) dX11_count_114 (by decide) ⟨by omega, by omega⟩ ⟨by omega, by omega⟩ (fun hb114 => ?_) (fun hb114 => ?_)
    · refine a_iloadn dX11_count_132 rfl ?_
      exact a_ireturn dX11_count_133 rfl rfl rfl (zone_i rfl)
    · exfalso; omega
  | succ n ih =>
    intro i acc g0 g1
    have q1 := hT.1
    refine a_iloadn dX11_count_109 rfl ?_
    refine a_aloadn dX11_count_110 rfl ?_
    refine b_getI (j' := 12) dX11_count_111 flX11_201 rfl rfl (L209 L) (fun hr111 => ?_)
    refine a_icmp_ge (tgt := 132) dX11_count_114 (by decide) ⟨by omega, by omega⟩ ⟨by omega, by omega⟩ (fun hb114 => ?_) (fun hb114 => ?_)
    · exfalso; omega
    · refine a_iloadn dX11_count_117 rfl ?_
      refine a_aloadn dX11_count_118 rfl ?_
      refine a_getR (j' := 49) (y := 234) dX11_count_119 flX11_88 rfl rfl (L209 L) (p209_49 hP) ?_
      refine a_iloadn dX11_count_122 rfl ?_
      refine b_iald (N := 12) dX11_count_123 (L234 L) (by decide) (by omega) (by omega) (fun hr123 => ?_)
      refine a_iadd dX11_count_124 ?_
      refine c_istoren (ls' := [_, _, _, _]) dX11_count_125 (by decide) rfl rfl ?_
      refine c_iinc (ls' := [_, _, _, _]) dX11_count_126 rfl (by decide) rfl rfl ?_
      refine a_goto (tgt := 109) dX11_count_129 (by decide) ?_
      exact ih _ _ (by omega) (by omega)

set_option maxRecDepth 100000 in
set_option maxHeartbeats 4000000 in
theorem m_X11_count {G : zG} {l : Launch} {L : Nat} {P : zP} {M : zM} {w : Int} (hv : RV P M) (rw : inR w) : AM G l yX11_count mdX11_count [aR 209, aI w] (LAY L) P M (zany (LAY L) P (fun r M' => Rn M M' ∧ r = ctR M w)) := by
  have hP := hv.1
  have q0 := hv.2.1.1.1.1
  refine AM.go [some (aR 209), some (aI w), none, none] rfl (Nat.le_of_ble_eq_true rfl) ?_ (by decide) rfl rfl
  refine a_aloadn dX11_count_0 rfl ?_
  refine a_iconst dX11_count_1 ?_
  refine a_putI (j' := 2) dX11_count_2 flX11_124 rfl rfl (L209 L) (by decide) rfl ⟨by omega, by omega⟩ ?_
  obtain ⟨Mt, hMt⟩ : ∃ Mt, Mt = sm M 209 2 0 := ⟨_, rfl⟩
  rw [← hMt]
  obtain ⟨hvt, hnt, e12, eT⟩ := th_all hv hMt
  refine a_iconst dX11_count_5 ?_
  refine c_istoren (ls' := [_, _, _, _]) dX11_count_6 (by decide) rfl rfl ?_
  refine a_iloadn dX11_count_7 rfl ?_
  rcases (show w = 0 ∨ w = 1 ∨ w = 2 ∨ w = 3 ∨ w = 4 ∨ w = 5 ∨ w = 6 ∨ w = 7 ∨ w = 8 ∨ w = 9 ∨ w = 10 ∨ (w < 0 ∨ 10 < w) by omega) with e8 | e8 | e8 | e8 | e8 | e8 | e8 | e8 | e8 | e8 | e8 | e8
  · refine c_tabIn (tgt := 68) (off := 60) e8 dX11_count_8 ⟨by decide, by decide⟩ (by decide) (by decide) rfl (by decide) ?_
    refine a_aloadn dX11_count_68 rfl ?_
    refine b_getI (j' := 12) dX11_count_69 flX11_201 rfl rfl (L209 L) (fun hr69 => ?_)
    exact a_ireturn dX11_count_72 rfl rfl rfl (zany_i ⟨hnt, by unfold ctR; rw [if_pos (by omega)]; exact eT 209 12 (by omega)⟩)
  · refine c_tabIn (tgt := 73) (off := 65) e8 dX11_count_8 ⟨by decide, by decide⟩ (by decide) (by decide) rfl (by decide) ?_
    refine a_aloadn dX11_count_73 rfl ?_
    refine b_getI (j' := 13) dX11_count_74 flX11_204 rfl rfl (L209 L) (fun hr74 => ?_)
    exact a_ireturn dX11_count_77 rfl rfl rfl (zany_i ⟨hnt, by unfold ctR; rw [if_neg (by omega), if_pos (by omega)]; exact eT 209 13 (by omega)⟩)
  · refine c_tabIn (tgt := 78) (off := 70) e8 dX11_count_8 ⟨by decide, by decide⟩ (by decide) (by decide) rfl (by decide) ?_
    refine a_aloadn dX11_count_78 rfl ?_
    refine b_getI (j' := 14) dX11_count_79 flX11_207 rfl rfl (L209 L) (fun hr79 => ?_)
    exact a_ireturn dX11_count_82 rfl rfl rfl (zany_i ⟨hnt, by unfold ctR; rw [if_neg (by omega), if_neg (by omega), if_pos (by omega)]; exact eT 209 14 (by omega)⟩)
  · refine c_tabIn (tgt := 83) (off := 75) e8 dX11_count_8 ⟨by decide, by decide⟩ (by decide) (by decide) rfl (by decide) ?_
    refine a_aloadn dX11_count_83 rfl ?_
    refine b_getI (j' := 15) dX11_count_84 flX11_210 rfl rfl (L209 L) (fun hr84 => ?_)
    exact a_ireturn dX11_count_87 rfl rfl rfl (zany_i ⟨hnt, by unfold ctR; rw [if_neg (by omega), if_neg (by omega), if_neg (by omega), if_pos (by omega)]; exact eT 209 15 (by omega)⟩)
  · refine c_tabIn (tgt := 88) (off := 80) e8 dX11_count_8 ⟨by decide, by decide⟩ (by decide) (by decide) rfl (by decide) ?_
    refine a_aloadn dX11_count_88 rfl ?_
    refine a_getR (j' := 53) (y := 238) dX11_count_89 flX11_100 rfl rfl (L209 L) (p209_53 hP) ?_
    refine a_iconst dX11_count_92 ?_
    refine b_iald (N := 2) dX11_count_93 (L238 L) (by decide) (by decide) (by decide) (fun hr93 => ?_)
    exact a_ireturn dX11_count_94 rfl rfl rfl (zany_i ⟨hnt, by unfold ctR; rw [if_neg (by omega), if_neg (by omega), if_neg (by omega), if_neg (by omega), if_pos (by omega)]; exact eT 238 0 (by omega)⟩)
  · refine c_tabIn (tgt := 95) (off := 87) e8 dX11_count_8 ⟨by decide, by decide⟩ (by decide) (by decide) rfl (by decide) ?_
    refine a_aloadn dX11_count_95 rfl ?_
    refine a_iconst dX11_count_96 ?_
    refine a_callV (as := [_]) (q := 209) dX11_count_97 mvX11_430 ⟨by decide, by decide⟩ (L209 L) rfl rfl rfl (Nat.le_of_ble_eq_true rfl) ⟨rfl, rfl⟩ ⟨by decide, by decide⟩ (m_X11_pairs hP hvt.2.1.1.1 (Or.inl rfl)) ?_
    exact a_ireturn dX11_count_100 rfl rfl rfl (zany_i ⟨hnt, by unfold ctR; rw [if_neg (by omega), if_neg (by omega), if_neg (by omega), if_neg (by omega), if_neg (by omega), if_pos (by omega)]; exact hnt.1.pairs hv.2.1.1.1⟩)
  · refine c_tabIn (tgt := 101) (off := 93) e8 dX11_count_8 ⟨by decide, by decide⟩ (by decide) (by decide) rfl (by decide) ?_
    refine a_aloadn dX11_count_101 rfl ?_
    refine a_iconst dX11_count_102 ?_
    refine a_callV (as := [_]) (q := 209) dX11_count_103 mvX11_433 ⟨by decide, by decide⟩ (L209 L) rfl rfl rfl (Nat.le_of_ble_eq_true rfl) ⟨rfl, rfl⟩ ⟨by decide, by decide⟩ (m_X11_heardAll hP (Or.inl rfl)) ?_
    exact a_ireturn dX11_count_106 rfl rfl rfl (zany_i ⟨hnt, by unfold ctR; rw [if_neg (by omega), if_neg (by omega), if_neg (by omega), if_neg (by omega), if_neg (by omega), if_neg (by omega), if_pos (by omega)]; exact hnt.1.heard⟩)
  · refine c_tabIn (tgt := 107) (off := 99) e8 dX11_count_8 ⟨by decide, by decide⟩ (by decide) (by decide) rfl (by decide) ?_
    refine a_iconst dX11_count_107 ?_
    refine c_istoren (ls' := [_, _, _, _]) dX11_count_108 (by decide) rfl rfl ?_
    refine AW.mono2 (lpX11_count hP hvt.2.1.1.1 (M 209 12).toNat 0 0 (by omega) (by omega)) ?_
    rintro r lay P' M' ⟨z1, z2, rfl, x, z3, z4⟩
    refine ⟨z1, z2, x, z3, hnt, ?_⟩
    unfold ctR
    rw [if_neg (by omega), if_neg (by omega), if_neg (by omega), if_neg (by omega), if_neg (by omega), if_neg (by omega), if_neg (by omega), if_pos (by omega), z4]
    exact zsm_cong _ _ _ (fun j j0 j1 => eT 234 j (by omega))
  · refine c_tabIn (tgt := 134) (off := 126) e8 dX11_count_8 ⟨by decide, by decide⟩ (by decide) (by decide) rfl (by decide) ?_
    refine a_aloadn dX11_count_134 rfl ?_
    refine b_getI (j' := 61) dX11_count_135 flX11_325 rfl rfl (L209 L) (fun hr135 => ?_)
    exact a_ireturn dX11_count_138 rfl rfl rfl (zany_i ⟨hnt, by unfold ctR; rw [if_neg (by omega), if_neg (by omega), if_neg (by omega), if_neg (by omega), if_neg (by omega), if_neg (by omega), if_neg (by omega), if_neg (by omega), if_pos (by omega)]; exact eT 209 61 (by omega)⟩)
  · refine c_tabIn (tgt := 139) (off := 131) e8 dX11_count_8 ⟨by decide, by decide⟩ (by decide) (by decide) rfl (by decide) ?_
    refine a_aloadn dX11_count_139 rfl ?_
    refine a_callV (as := []) (q := 209) dX11_count_140 mvX11_442 ⟨by decide, by decide⟩ (L209 L) rfl rfl rfl (Nat.le_of_ble_eq_true rfl) ⟨rfl, rfl⟩ ⟨by decide, by decide⟩ m_X11_knownBy ?_
    have e9 : ctR M w = knb M := by unfold ctR; rw [if_neg (by omega), if_neg (by omega), if_neg (by omega), if_neg (by omega), if_neg (by omega), if_neg (by omega), if_neg (by omega), if_neg (by omega), if_neg (by omega), if_pos (by omega)]
    exact a_ireturn dX11_count_143 rfl rfl rfl (zany_i ⟨hnt, by rw [e9]; unfold knb; rw [eT 209 61 (by omega), eT 209 62 (by omega)]⟩)
  · refine c_tabIn (tgt := 144) (off := 136) e8 dX11_count_8 ⟨by decide, by decide⟩ (by decide) (by decide) rfl (by decide) ?_
    refine a_aloadn dX11_count_144 rfl ?_
    refine b_getI (j' := 65) dX11_count_145 flX11_328 rfl rfl (L209 L) (fun hr145 => ?_)
    exact a_ireturn dX11_count_148 rfl rfl rfl (zany_i ⟨hnt, by unfold ctR; rw [if_neg (by omega), if_neg (by omega), if_neg (by omega), if_neg (by omega), if_neg (by omega), if_neg (by omega), if_neg (by omega), if_neg (by omega), if_neg (by omega), if_neg (by omega), if_pos (by omega)]; exact eT 209 65 (by omega)⟩)
  · refine c_tabOut (tgt := 149) e8 dX11_count_8 rw (by decide) ?_
    refine a_iconst dX11_count_149 ?_
    exact a_ireturn dX11_count_150 rfl rfl rfl (zany_i ⟨hnt, by unfold ctR; rw [if_neg (by omega), if_neg (by omega), if_neg (by omega), if_neg (by omega), if_neg (by omega), if_neg (by omega), if_neg (by omega), if_neg (by omega), if_neg (by omega), if_neg (by omega), if_neg (by omega)]⟩)

set_option maxRecDepth 100000 in
set_option maxHeartbeats 4000000 in
theorem m_X11_thrown {G : zG} {l : Launch} {L : Nat} {P : zP} {M : zM}  (hP : PFok P) : AM G l yX11_thrown mdX11_thrown [aR 209] (LAY L) P M (zdet (some (aI (M 209 2))) (LAY L) P M) := by
  refine AM.go [some (aR 209)] rfl (Nat.le_of_ble_eq_true rfl) ?_ (by decide) rfl rfl
  refine a_aloadn dX11_thrown_0 rfl ?_
  refine b_getI (j' := 2) dX11_thrown_1 flX11_124 rfl rfl (L209 L) (fun hr1 => ?_)
  exact a_ireturn dX11_thrown_4 rfl rfl rfl (zdet_I (by first | rfl | omega) rfl)

set_option maxRecDepth 100000 in
set_option maxHeartbeats 4000000 in
theorem m_X11_named {G : zG} {l : Launch} {L : Nat} {P : zP} {M : zM} {x : Int} (hv : RV P M) (rx : inR x) : AM G l yX11_named mdX11_named [aR 209, aI x] (LAY L) P M (zany (LAY L) P (fun r M' => Rn M M' ∧ r = zfind (M 214) x (M 209 12).toNat 0)) := by
  have hP := hv.1
  have q0 := hv.2.1.1.1.1
  refine AM.go [some (aR 209), some (aI x)] rfl (Nat.le_of_ble_eq_true rfl) ?_ (by decide) rfl rfl
  refine a_aloadn dX11_named_0 rfl ?_
  refine a_iconst dX11_named_1 ?_
  refine a_putI (j' := 2) dX11_named_2 flX11_124 rfl rfl (L209 L) (by decide) rfl ⟨by omega, by omega⟩ ?_
  obtain ⟨Mt, hMt⟩ : ∃ Mt, Mt = sm M 209 2 0 := ⟨_, rfl⟩
  rw [← hMt]
  obtain ⟨hvt, hnt, e12, eT⟩ := th_all hv hMt
  refine a_aloadn dX11_named_5 rfl ?_
  refine a_getR (j' := 22) (y := 214) dX11_named_6 flX11_27 rfl rfl (L209 L) (p209_22 hP) ?_
  refine a_iconst dX11_named_9 ?_
  refine a_aloadn dX11_named_10 rfl ?_
  refine b_getI (j' := 12) dX11_named_11 flX11_201 rfl rfl (L209 L) (fun hr11 => ?_)
  rw [e12] at hr11
  rw [e12]
  refine a_iloadn dX11_named_14 rfl ?_
  refine a_callS (as := [_, _, _, _]) dX11_named_15 mvX11_220 ⟨by decide, by decide⟩ rfl rfl (Nat.le_of_ble_eq_true rfl) ⟨rfl, rfl⟩ ⟨by decide, by decide⟩ (m_X11_find (L214 L) (by decide) ⟨by omega, by omega, by omega⟩ ⟨by omega, by omega⟩ rx) ?_
  exact a_ireturn dX11_named_18 rfl rfl rfl (zany_i ⟨hnt, by rw [hnt.1.row (k := 214) (by omega), show (fun j => M 214 (0 + j)) = M 214 from funext fun j => by rw [Int.zero_add]]⟩)

set_option maxRecDepth 100000 in
set_option maxHeartbeats 4000000 in
theorem m_X11_fault {G : zG} {l : Launch} {L : Nat} {P : zP} {M : zM} {x : Int} (hv : RV P M) (rx : inR x) : AM G l yX11_fault mdX11_fault [aR 209, aI x] (LAY L) P M (zany (LAY L) P (fun r M' => Rn M M' ∧ r = if x = 0 then M 209 4 else if x = 1 then M 209 5 else -1)) := by
  have hP := hv.1
  have q0 := hv.2.1.1.1.1
  refine AM.go [some (aR 209), some (aI x)] rfl (Nat.le_of_ble_eq_true rfl) ?_ (by decide) rfl rfl
  refine a_aloadn dX11_fault_0 rfl ?_
  refine a_iconst dX11_fault_1 ?_
  refine a_putI (j' := 2) dX11_fault_2 flX11_124 rfl rfl (L209 L) (by decide) rfl ⟨by omega, by omega⟩ ?_
  obtain ⟨Mt, hMt⟩ : ∃ Mt, Mt = sm M 209 2 0 := ⟨_, rfl⟩
  rw [← hMt]
  obtain ⟨hvt, hnt, e12, eT⟩ := th_all hv hMt
  refine a_iloadn dX11_fault_5 rfl ?_
  refine a_if_ne (tgt := 16) dX11_fault_6 (by decide) ⟨by omega, by omega⟩ (fun hb6 => ?_) (fun hb6 => ?_)
  · refine a_iloadn dX11_fault_16 rfl ?_
    refine a_iconst dX11_fault_17 ?_
    refine a_icmp_ne (tgt := 28) dX11_fault_18 (by decide) ⟨by omega, by omega⟩ ⟨by omega, by omega⟩ (fun hb18 => ?_) (fun hb18 => ?_)
    · refine a_iconst dX11_fault_28 ?_
      exact a_ireturn dX11_fault_29 rfl rfl rfl (zany_i ⟨hnt, by first | (rw [if_pos (by omega)]; done) | (rw [if_neg (by omega), if_pos (by omega)]; done) | (rw [if_neg (by omega), if_neg (by omega)]; done)⟩)
    · refine a_aloadn dX11_fault_21 rfl ?_
      refine b_getI (j' := 5) dX11_fault_22 flX11_16 rfl rfl (L209 L) (fun hr22 => ?_)
      rw [eT 209 5 (by omega)] at hr22
      rw [eT 209 5 (by omega)]
      refine a_goto (tgt := 29) dX11_fault_25 (by decide) ?_
      exact a_ireturn dX11_fault_29 rfl rfl rfl (zany_i ⟨hnt, by first | (rw [if_pos (by omega)]; done) | (rw [if_neg (by omega), if_pos (by omega)]; done) | (rw [if_neg (by omega), if_neg (by omega)]; done)⟩)
  · refine a_aloadn dX11_fault_9 rfl ?_
    refine b_getI (j' := 4) dX11_fault_10 flX11_130 rfl rfl (L209 L) (fun hr10 => ?_)
    rw [eT 209 4 (by omega)] at hr10
    rw [eT 209 4 (by omega)]
    refine a_goto (tgt := 29) dX11_fault_13 (by decide) ?_
    exact a_ireturn dX11_fault_29 rfl rfl rfl (zany_i ⟨hnt, by first | (rw [if_pos (by omega)]; done) | (rw [if_neg (by omega), if_pos (by omega)]; done) | (rw [if_neg (by omega), if_neg (by omega)]; done)⟩)

set_option maxRecDepth 100000 in
set_option maxHeartbeats 4000000 in
theorem lpX11_feed {G : zG} {l : Launch} {L : Nat} {P : zP} {a b c d e : Int} {Z : zZ} (hP : PFok P) : ∀ (n : Nat) (k : Int) (M : zM) (g0 : 0 ≤ k) (g1 : k + n = 20) (gt : 0 ≤ M 209 1 ∧ M 209 1 + 20 ≤ 700) (kk : AW G l mdX11_feed Z 113 [some (aR 209), some (aI a), some (aI b), some (aI c), some (aI d), some (aI e), none, none] [] (LAY L) P (fdR a b c d e n k M) 0 0), AW G l mdX11_feed Z 23 [some (aR 209), some (aI a), some (aI b), some (aI c), some (aI d), some (aI e), some (aI k), none] [] (LAY L) P M 0 0 := by
  intro n
  induction n with
  | zero =>
    intro k M g0 g1 gt kk
    refine a_iload dX11_feed_23 rfl ?_
    refine a_bipush (w := 20) dX11_feed_25 (by decide) ?_
    refine a_icmp_ge (tgt := 113) dX11_feed_27 (by decide) ⟨by omega, by omega⟩ ⟨by omega, by omega⟩ (fun hb27 => ?_) (fun hb27 => ?_)
    · refine a_forget [6, 7] (ls' := [_, _, _, _, _, _, none, none]) rfl kk
    · exfalso; omega
  | succ n ih =>
    intro k M g0 g1 gt kk
    refine a_iload dX11_feed_23 rfl ?_
    refine a_bipush (w := 20) dX11_feed_25 (by decide) ?_
    refine a_icmp_ge (tgt := 113) dX11_feed_27 (by decide) ⟨by omega, by omega⟩ ⟨by omega, by omega⟩ (fun hb27 => ?_) (fun hb27 => ?_)
    · exfalso; omega
    · refine a_iload dX11_feed_30 rfl ?_
      refine a_iconst dX11_feed_32 ?_
      refine a_icmp_ge (tgt := 40) dX11_feed_33 (by decide) ⟨by omega, by omega⟩ ⟨by omega, by omega⟩ (fun hb33 => ?_) (fun hb33 => ?_)
      · refine a_iload dX11_feed_40 rfl ?_
        refine a_bipush (w := 8) dX11_feed_42 (by decide) ?_
        refine a_icmp_ge (tgt := 51) dX11_feed_44 (by decide) ⟨by omega, by omega⟩ ⟨by omega, by omega⟩ (fun hb44 => ?_) (fun hb44 => ?_)
        · refine a_iload dX11_feed_51 rfl ?_
          refine a_bipush (w := 12) dX11_feed_53 (by decide) ?_
          refine a_icmp_ge (tgt := 62) dX11_feed_55 (by decide) ⟨by omega, by omega⟩ ⟨by omega, by omega⟩ (fun hb55 => ?_) (fun hb55 => ?_)
          · refine a_iload dX11_feed_62 rfl ?_
            refine a_bipush (w := 16) dX11_feed_64 (by decide) ?_
            refine a_icmp_ge (tgt := 74) dX11_feed_66 (by decide) ⟨by omega, by omega⟩ ⟨by omega, by omega⟩ (fun hb66 => ?_) (fun hb66 => ?_)
            · refine a_iload dX11_feed_74 rfl ?_
              refine c_istore (ls' := [_, _, _, _, _, _, _, _]) dX11_feed_76 (by decide) rfl rfl ?_
              have ew : ∃ w9, w9 = (if k < 4 then a else if k < 8 then b else if k < 12 then c else if k < 16 then d else e) := ⟨_, rfl⟩
              obtain ⟨w9, ew⟩ := ew
              refine a_loc (ls' := [some (aR 209), some (aI a), some (aI b), some (aI c), some (aI d), some (aI e), some (aI k), some (aI w9)]) (by rw [ew]; first | (rw [if_pos (by omega)]; done) | (rw [if_neg (by omega), if_pos (by omega)]; done) | (rw [if_neg (by omega), if_neg (by omega), if_pos (by omega)]; done) | (rw [if_neg (by omega), if_neg (by omega), if_neg (by omega), if_pos (by omega)]; done) | (rw [if_neg (by omega), if_neg (by omega), if_neg (by omega), if_neg (by omega)]; done)) ?_
              refine a_aloadn dX11_feed_78 rfl ?_
              refine a_getR (j' := 0) (y := 210) dX11_feed_79 flX11_7 rfl rfl (L209 L) (p209_0 hP) ?_
              refine a_aloadn dX11_feed_82 rfl ?_
              refine b_getI (j' := 1) dX11_feed_83 flX11_127 rfl rfl (L209 L) (fun hr83 => ?_)
              refine a_iload dX11_feed_86 rfl ?_
              refine a_iadd dX11_feed_88 ?_
              refine a_iload dX11_feed_89 rfl ?_
              refine a_bipush (w := 24) dX11_feed_91 (by decide) ?_
              refine a_bipush (w := 8) dX11_feed_93 (by decide) ?_
              refine a_iload dX11_feed_95 rfl ?_
              refine a_iconst dX11_feed_97 ?_
              refine a_irem dX11_feed_98 ⟨by omega, by omega⟩ ⟨by omega, by omega⟩ (by omega) (by omega) ?_
              refine a_imul dX11_feed_99 ?_
              refine a_isub dX11_feed_100 ?_
              refine a_ishr dX11_feed_101 ?_
              refine a_sipush (w := 255) dX11_feed_102 (by decide) ?_
              refine a_iand dX11_feed_105 ?_
              refine a_iast (N := 700) dX11_feed_106 (L210 L) (by decide) (by decide) (by omega) (by omega) (ir _) ?_
              refine c_iinc (ls' := [_, _, _, _, _, _, _, _]) dX11_feed_107 rfl (by decide) rfl rfl ?_
              refine a_goto (tgt := 23) dX11_feed_110 (by decide) ?_
              refine a_forget [7] (ls' := [_, _, _, _, _, _, _, none]) rfl ?_
              simp only [fdR] at kk
              rw [← ew] at kk
              exact ih _ _ (by omega) (by omega) (by rw [sm_n (by decide)]; exact gt) kk
            · refine a_iload dX11_feed_69 rfl ?_
              refine a_goto (tgt := 76) dX11_feed_71 (by decide) ?_
              refine c_istore (ls' := [_, _, _, _, _, _, _, _]) dX11_feed_76 (by decide) rfl rfl ?_
              have ew : ∃ w9, w9 = (if k < 4 then a else if k < 8 then b else if k < 12 then c else if k < 16 then d else e) := ⟨_, rfl⟩
              obtain ⟨w9, ew⟩ := ew
              refine a_loc (ls' := [some (aR 209), some (aI a), some (aI b), some (aI c), some (aI d), some (aI e), some (aI k), some (aI w9)]) (by rw [ew]; first | (rw [if_pos (by omega)]; done) | (rw [if_neg (by omega), if_pos (by omega)]; done) | (rw [if_neg (by omega), if_neg (by omega), if_pos (by omega)]; done) | (rw [if_neg (by omega), if_neg (by omega), if_neg (by omega), if_pos (by omega)]; done) | (rw [if_neg (by omega), if_neg (by omega), if_neg (by omega), if_neg (by omega)]; done)) ?_
              refine a_aloadn dX11_feed_78 rfl ?_
              refine a_getR (j' := 0) (y := 210) dX11_feed_79 flX11_7 rfl rfl (L209 L) (p209_0 hP) ?_
              refine a_aloadn dX11_feed_82 rfl ?_
              refine b_getI (j' := 1) dX11_feed_83 flX11_127 rfl rfl (L209 L) (fun hr83 => ?_)
              refine a_iload dX11_feed_86 rfl ?_
              refine a_iadd dX11_feed_88 ?_
              refine a_iload dX11_feed_89 rfl ?_
              refine a_bipush (w := 24) dX11_feed_91 (by decide) ?_
              refine a_bipush (w := 8) dX11_feed_93 (by decide) ?_
              refine a_iload dX11_feed_95 rfl ?_
              refine a_iconst dX11_feed_97 ?_
              refine a_irem dX11_feed_98 ⟨by omega, by omega⟩ ⟨by omega, by omega⟩ (by omega) (by omega) ?_
              refine a_imul dX11_feed_99 ?_
              refine a_isub dX11_feed_100 ?_
              refine a_ishr dX11_feed_101 ?_
              refine a_sipush (w := 255) dX11_feed_102 (by decide) ?_
              refine a_iand dX11_feed_105 ?_
              refine a_iast (N := 700) dX11_feed_106 (L210 L) (by decide) (by decide) (by omega) (by omega) (ir _) ?_
              refine c_iinc (ls' := [_, _, _, _, _, _, _, _]) dX11_feed_107 rfl (by decide) rfl rfl ?_
              refine a_goto (tgt := 23) dX11_feed_110 (by decide) ?_
              refine a_forget [7] (ls' := [_, _, _, _, _, _, _, none]) rfl ?_
              simp only [fdR] at kk
              rw [← ew] at kk
              exact ih _ _ (by omega) (by omega) (by rw [sm_n (by decide)]; exact gt) kk
          · refine a_iloadn dX11_feed_58 rfl ?_
            refine a_goto (tgt := 76) dX11_feed_59 (by decide) ?_
            refine c_istore (ls' := [_, _, _, _, _, _, _, _]) dX11_feed_76 (by decide) rfl rfl ?_
            have ew : ∃ w9, w9 = (if k < 4 then a else if k < 8 then b else if k < 12 then c else if k < 16 then d else e) := ⟨_, rfl⟩
            obtain ⟨w9, ew⟩ := ew
            refine a_loc (ls' := [some (aR 209), some (aI a), some (aI b), some (aI c), some (aI d), some (aI e), some (aI k), some (aI w9)]) (by rw [ew]; first | (rw [if_pos (by omega)]; done) | (rw [if_neg (by omega), if_pos (by omega)]; done) | (rw [if_neg (by omega), if_neg (by omega), if_pos (by omega)]; done) | (rw [if_neg (by omega), if_neg (by omega), if_neg (by omega), if_pos (by omega)]; done) | (rw [if_neg (by omega), if_neg (by omega), if_neg (by omega), if_neg (by omega)]; done)) ?_
            refine a_aloadn dX11_feed_78 rfl ?_
            refine a_getR (j' := 0) (y := 210) dX11_feed_79 flX11_7 rfl rfl (L209 L) (p209_0 hP) ?_
            refine a_aloadn dX11_feed_82 rfl ?_
            refine b_getI (j' := 1) dX11_feed_83 flX11_127 rfl rfl (L209 L) (fun hr83 => ?_)
            refine a_iload dX11_feed_86 rfl ?_
            refine a_iadd dX11_feed_88 ?_
            refine a_iload dX11_feed_89 rfl ?_
            refine a_bipush (w := 24) dX11_feed_91 (by decide) ?_
            refine a_bipush (w := 8) dX11_feed_93 (by decide) ?_
            refine a_iload dX11_feed_95 rfl ?_
            refine a_iconst dX11_feed_97 ?_
            refine a_irem dX11_feed_98 ⟨by omega, by omega⟩ ⟨by omega, by omega⟩ (by omega) (by omega) ?_
            refine a_imul dX11_feed_99 ?_
            refine a_isub dX11_feed_100 ?_
            refine a_ishr dX11_feed_101 ?_
            refine a_sipush (w := 255) dX11_feed_102 (by decide) ?_
            refine a_iand dX11_feed_105 ?_
            refine a_iast (N := 700) dX11_feed_106 (L210 L) (by decide) (by decide) (by omega) (by omega) (ir _) ?_
            refine c_iinc (ls' := [_, _, _, _, _, _, _, _]) dX11_feed_107 rfl (by decide) rfl rfl ?_
            refine a_goto (tgt := 23) dX11_feed_110 (by decide) ?_
            refine a_forget [7] (ls' := [_, _, _, _, _, _, _, none]) rfl ?_
            simp only [fdR] at kk
            rw [← ew] at kk
            exact ih _ _ (by omega) (by omega) (by rw [sm_n (by decide)]; exact gt) kk
        · refine a_iloadn dX11_feed_47 rfl ?_
          refine a_goto (tgt := 76) dX11_feed_48 (by decide) ?_
          refine c_istore (ls' := [_, _, _, _, _, _, _, _]) dX11_feed_76 (by decide) rfl rfl ?_
          have ew : ∃ w9, w9 = (if k < 4 then a else if k < 8 then b else if k < 12 then c else if k < 16 then d else e) := ⟨_, rfl⟩
          obtain ⟨w9, ew⟩ := ew
          refine a_loc (ls' := [some (aR 209), some (aI a), some (aI b), some (aI c), some (aI d), some (aI e), some (aI k), some (aI w9)]) (by rw [ew]; first | (rw [if_pos (by omega)]; done) | (rw [if_neg (by omega), if_pos (by omega)]; done) | (rw [if_neg (by omega), if_neg (by omega), if_pos (by omega)]; done) | (rw [if_neg (by omega), if_neg (by omega), if_neg (by omega), if_pos (by omega)]; done) | (rw [if_neg (by omega), if_neg (by omega), if_neg (by omega), if_neg (by omega)]; done)) ?_
          refine a_aloadn dX11_feed_78 rfl ?_
          refine a_getR (j' := 0) (y := 210) dX11_feed_79 flX11_7 rfl rfl (L209 L) (p209_0 hP) ?_
          refine a_aloadn dX11_feed_82 rfl ?_
          refine b_getI (j' := 1) dX11_feed_83 flX11_127 rfl rfl (L209 L) (fun hr83 => ?_)
          refine a_iload dX11_feed_86 rfl ?_
          refine a_iadd dX11_feed_88 ?_
          refine a_iload dX11_feed_89 rfl ?_
          refine a_bipush (w := 24) dX11_feed_91 (by decide) ?_
          refine a_bipush (w := 8) dX11_feed_93 (by decide) ?_
          refine a_iload dX11_feed_95 rfl ?_
          refine a_iconst dX11_feed_97 ?_
          refine a_irem dX11_feed_98 ⟨by omega, by omega⟩ ⟨by omega, by omega⟩ (by omega) (by omega) ?_
          refine a_imul dX11_feed_99 ?_
          refine a_isub dX11_feed_100 ?_
          refine a_ishr dX11_feed_101 ?_
          refine a_sipush (w := 255) dX11_feed_102 (by decide) ?_
          refine a_iand dX11_feed_105 ?_
          refine a_iast (N := 700) dX11_feed_106 (L210 L) (by decide) (by decide) (by omega) (by omega) (ir _) ?_
          refine c_iinc (ls' := [_, _, _, _, _, _, _, _]) dX11_feed_107 rfl (by decide) rfl rfl ?_
          refine a_goto (tgt := 23) dX11_feed_110 (by decide) ?_
          refine a_forget [7] (ls' := [_, _, _, _, _, _, _, none]) rfl ?_
          simp only [fdR] at kk
          rw [← ew] at kk
          exact ih _ _ (by omega) (by omega) (by rw [sm_n (by decide)]; exact gt) kk
      · refine a_iloadn dX11_feed_36 rfl ?_
        refine a_goto (tgt := 76) dX11_feed_37 (by decide) ?_
        refine c_istore (ls' := [_, _, _, _, _, _, _, _]) dX11_feed_76 (by decide) rfl rfl ?_
        have ew : ∃ w9, w9 = (if k < 4 then a else if k < 8 then b else if k < 12 then c else if k < 16 then d else e) := ⟨_, rfl⟩
        obtain ⟨w9, ew⟩ := ew
        refine a_loc (ls' := [some (aR 209), some (aI a), some (aI b), some (aI c), some (aI d), some (aI e), some (aI k), some (aI w9)]) (by rw [ew]; first | (rw [if_pos (by omega)]; done) | (rw [if_neg (by omega), if_pos (by omega)]; done) | (rw [if_neg (by omega), if_neg (by omega), if_pos (by omega)]; done) | (rw [if_neg (by omega), if_neg (by omega), if_neg (by omega), if_pos (by omega)]; done) | (rw [if_neg (by omega), if_neg (by omega), if_neg (by omega), if_neg (by omega)]; done)) ?_
        refine a_aloadn dX11_feed_78 rfl ?_
        refine a_getR (j' := 0) (y := 210) dX11_feed_79 flX11_7 rfl rfl (L209 L) (p209_0 hP) ?_
        refine a_aloadn dX11_feed_82 rfl ?_
        refine b_getI (j' := 1) dX11_feed_83 flX11_127 rfl rfl (L209 L) (fun hr83 => ?_)
        refine a_iload dX11_feed_86 rfl ?_
        refine a_iadd dX11_feed_88 ?_
        refine a_iload dX11_feed_89 rfl ?_
        refine a_bipush (w := 24) dX11_feed_91 (by decide) ?_
        refine a_bipush (w := 8) dX11_feed_93 (by decide) ?_
        refine a_iload dX11_feed_95 rfl ?_
        refine a_iconst dX11_feed_97 ?_
        refine a_irem dX11_feed_98 ⟨by omega, by omega⟩ ⟨by omega, by omega⟩ (by omega) (by omega) ?_
        refine a_imul dX11_feed_99 ?_
        refine a_isub dX11_feed_100 ?_
        refine a_ishr dX11_feed_101 ?_
        refine a_sipush (w := 255) dX11_feed_102 (by decide) ?_
        refine a_iand dX11_feed_105 ?_
        refine a_iast (N := 700) dX11_feed_106 (L210 L) (by decide) (by decide) (by omega) (by omega) (ir _) ?_
        refine c_iinc (ls' := [_, _, _, _, _, _, _, _]) dX11_feed_107 rfl (by decide) rfl rfl ?_
        refine a_goto (tgt := 23) dX11_feed_110 (by decide) ?_
        refine a_forget [7] (ls' := [_, _, _, _, _, _, _, none]) rfl ?_
        simp only [fdR] at kk
        rw [← ew] at kk
        exact ih _ _ (by omega) (by omega) (by rw [sm_n (by decide)]; exact gt) kk

set_option maxRecDepth 100000 in
set_option maxHeartbeats 4000000 in
theorem m_X11_feed {G : zG} {l : Launch} {L : Nat} {P : zP} {M : zM} {a b c d e : Int} (hP : PFok P) (gt : 0 ≤ M 209 1 ∧ M 209 1 ≤ 700) : AM G l yX11_feed mdX11_feed [aR 209, aI a, aI b, aI c, aI d, aI e] (LAY L) P M (zany (LAY L) P (fun r M' => (700 < M 209 1 + 20 ∧ r = -1 ∧ M' = sm M 209 2 0) ∨ (M 209 1 + 20 ≤ 700 ∧ r = M 209 1 + 20 ∧ M' = sm (fdR a b c d e 20 0 (sm M 209 2 0)) 209 1 (M 209 1 + 20)))) := by
  refine AM.go [some (aR 209), some (aI a), some (aI b), some (aI c), some (aI d), some (aI e), none, none] rfl (Nat.le_of_ble_eq_true rfl) ?_ (by decide) rfl rfl
  refine a_aloadn dX11_feed_0 rfl ?_
  refine a_iconst dX11_feed_1 ?_
  refine a_putI (j' := 2) dX11_feed_2 flX11_124 rfl rfl (L209 L) (by decide) rfl ⟨by omega, by omega⟩ ?_
  have e1 : sm M 209 2 0 209 1 = M 209 1 := by rw [sm_k, us_n (by decide)]
  refine a_aloadn dX11_feed_5 rfl ?_
  refine b_getI (j' := 1) dX11_feed_6 flX11_127 rfl rfl (L209 L) (fun hr6 => ?_)
  rw [e1] at hr6
  rw [e1]
  refine a_bipush (w := 20) dX11_feed_9 (by decide) ?_
  refine a_iadd dX11_feed_11 ?_
  refine a_sipush (w := 700) dX11_feed_12 (by decide) ?_
  refine a_icmp_le (tgt := 20) dX11_feed_15 (by decide) ⟨by omega, by omega⟩ ⟨by omega, by omega⟩ (fun hb15 => ?_) (fun hb15 => ?_)
  · refine a_iconst dX11_feed_20 ?_
    refine c_istore (ls' := [_, _, _, _, _, _, _, _]) dX11_feed_21 (by decide) rfl rfl ?_
    have e2 : fdR a b c d e 20 0 (sm M 209 2 0) 209 1 = M 209 1 := by rw [fdR_n a b c d e 20 0 _ (by decide), e1]
    refine lpX11_feed hP 20 0 _ (by omega) (by omega) (by rw [e1]; omega) ?_
    refine a_aloadn dX11_feed_113 rfl ?_
    refine a_dupR dX11_feed_114 ?_
    refine b_getI (j' := 1) dX11_feed_115 flX11_127 rfl rfl (L209 L) (fun hr115 => ?_)
    rw [e2]
    refine a_bipush (w := 20) dX11_feed_118 (by decide) ?_
    refine a_iadd dX11_feed_120 ?_
    refine a_putI (j' := 1) dX11_feed_121 flX11_127 rfl rfl (L209 L) (by decide) rfl ⟨by omega, by omega⟩ ?_
    refine a_aloadn dX11_feed_124 rfl ?_
    refine b_getI (j' := 1) dX11_feed_125 flX11_127 rfl rfl (L209 L) (fun hr125 => ?_)
    rw [sm_s]
    exact a_ireturn dX11_feed_128 rfl rfl rfl (zany_i (Or.inr ⟨by omega, rfl, rfl⟩))
  · refine a_iconst dX11_feed_18 ?_
    exact a_ireturn dX11_feed_19 rfl rfl rfl (zany_i (Or.inl ⟨by omega, rfl, rfl⟩))
