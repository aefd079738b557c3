set_option maxRecDepth 100000 in
set_option maxHeartbeats 4000000 in
theorem lpX10_reachedFrom_in {G : zG} {l : Launch} {L : Nat} {P : zP} {M : zM} {t : Nat} {h nn rc k : Int} {Z : zZ} (hv : CV L P M t) : ∀ (n : Nat) (i mo : Int) (g0 : 0 ≤ i) (g1 : i + n = M t 2) (kk : AW G l mdX10_reachedFrom Z 59 [some (aR 2), some (aI h), some (aI nn), some (aI rc), some (aI k), some (aI (rfI (M 208) rc n i mo)), none] [] (LAY L) P M 0 0), AW G l mdX10_reachedFrom Z 19 [some (aR 2), some (aI h), some (aI nn), some (aI rc), some (aI k), some (aI mo), some (aI i)] [] (LAY L) P M 0 0 := by
  intro n
  induction n with
  | zero =>
    intro i mo g0 g1 kk
    obtain ⟨hc, hi, hxt, hnr, hhr⟩ := id hv
    obtain ⟨hP, hTp, hT, ht, hS, ha⟩ := id hc
    have q1 := hi.1.1
    have sg := st_guess L hP
    have sn := st_now L hP
    refine a_iload dX10_reachedFrom_19 rfl ?_
    refine a_aloadn dX10_reachedFrom_21 rfl ?_
    refine a_getR (j' := 2) (y := t) dX10_reachedFrom_22 flX10_16 rfl rfl (L2 L) hxt ?_
    refine b_getI (j' := 2) dX10_reachedFrom_25 flX10_118 rfl rfl hT.1.2.1 (fun hr25 => ?_)
    refine a_icmp_ge (tgt := 59) dX10_reachedFrom_28 (by decide) ⟨by omega, by omega⟩ ⟨by omega, by omega⟩ (fun hb28 => ?_) (fun hb28 => ?_)
    · refine a_forget [6] (ls' := [_, _, _, _, _, _, none]) rfl kk
    · exfalso; omega
  | succ n ih =>
    intro i mo g0 g1 kk
    obtain ⟨hc, hi, hxt, hnr, hhr⟩ := id hv
    obtain ⟨hP, hTp, hT, ht, hS, ha⟩ := id hc
    have q1 := hi.1.1
    have sg := st_guess L hP
    have sn := st_now L hP
    refine a_iload dX10_reachedFrom_19 rfl ?_
    refine a_aloadn dX10_reachedFrom_21 rfl ?_
    refine a_getR (j' := 2) (y := t) dX10_reachedFrom_22 flX10_16 rfl rfl (L2 L) hxt ?_
    refine b_getI (j' := 2) dX10_reachedFrom_25 flX10_118 rfl rfl hT.1.2.1 (fun hr25 => ?_)
    refine a_icmp_ge (tgt := 59) dX10_reachedFrom_28 (by decide) ⟨by omega, by omega⟩ ⟨by omega, by omega⟩ (fun hb28 => ?_) (fun hb28 => ?_)
    · exfalso; omega
    · refine a_iloadn dX10_reachedFrom_31 rfl ?_
      refine a_iload dX10_reachedFrom_32 rfl ?_
      refine a_ishr dX10_reachedFrom_34 ?_
      refine a_iconst dX10_reachedFrom_35 ?_
      refine a_iand dX10_reachedFrom_36 ?_
      refine a_iconst dX10_reachedFrom_37 ?_
      refine a_icmp_ne (tgt := 53) dX10_reachedFrom_38 (by decide) (ir _) ⟨by omega, by omega⟩ (fun hb38 => ?_) (fun hb38 => ?_)
      · refine c_iinc (ls' := [_, _, _, _, _, _, _]) dX10_reachedFrom_53 rfl (by decide) rfl rfl ?_
        refine a_goto (tgt := 19) dX10_reachedFrom_56 (by decide) ?_
        simp only [rfI] at kk
        first
        | (rw [if_pos (kbit_1 hb38)] at kk; exact ih _ _ (by omega) (by omega) kk)
        | (rw [if_neg (by rw [kbit_0 hb38]; decide)] at kk; exact ih _ _ (by omega) (by omega) kk)
      · refine a_iload dX10_reachedFrom_41 rfl ?_
        refine a_aloadn dX10_reachedFrom_43 rfl ?_
        refine a_getR (j' := 13) (y := 208) dX10_reachedFrom_44 flX10_75 rfl rfl (L2 L) (p2_13 hP) ?_
        refine a_iload dX10_reachedFrom_47 rfl ?_
        refine b_iald (N := 6) dX10_reachedFrom_49 (L208 L) (by decide) (by omega) (by omega) (fun hr49 => ?_)
        refine a_ior dX10_reachedFrom_50 ?_
        refine c_istore (ls' := [_, _, _, _, _, _, _]) dX10_reachedFrom_51 (by decide) rfl rfl ?_
        refine c_iinc (ls' := [_, _, _, _, _, _, _]) dX10_reachedFrom_53 rfl (by decide) rfl rfl ?_
        refine a_goto (tgt := 19) dX10_reachedFrom_56 (by decide) ?_
        simp only [rfI] at kk
        first
        | (rw [if_pos (kbit_1 hb38)] at kk; exact ih _ _ (by omega) (by omega) kk)
        | (rw [if_neg (by rw [kbit_0 hb38]; decide)] at kk; exact ih _ _ (by omega) (by omega) kk)

set_option maxRecDepth 100000 in
set_option maxHeartbeats 4000000 in
theorem lpX10_reachedFrom {G : zG} {l : Launch} {L : Nat} {P : zP} {M : zM} {t : Nat} {h nn : Int} (hv : CV L P M t) (hn : 0 ≤ nn ∧ nn ≤ 6) : ∀ (n : Nat) (k rc : Int) (g0 : 0 ≤ k) (g1 : k + n = nn), AW G l mdX10_reachedFrom (zone (LAY L) P M (fun r => r = rfO (M 208) (M t 2).toNat n rc)) 7 [some (aR 2), some (aI h), some (aI nn), some (aI rc), some (aI k), none, none] [] (LAY L) P M 0 0 := by
  intro n
  induction n with
  | zero =>
    intro k rc g0 g1
    obtain ⟨hc, hi, hxt, hnr, hhr⟩ := id hv
    obtain ⟨hP, hTp, hT, ht, hS, ha⟩ := id hc
    have q1 := hi.1.1
    have sg := st_guess L hP
    have sn := st_now L hP
    refine a_iload dX10_reachedFrom_7 rfl ?_
    refine a_iloadn dX10_reachedFrom_9 rfl ?_
    refine a_icmp_ge (tgt := 68) dX10_reachedFrom_10 (by decide) ⟨by omega, by omega⟩ ⟨by omega, by omega⟩ (fun hb10 => ?_) (fun hb10 => ?_)
    · refine a_iloadn dX10_reachedFrom_68 rfl ?_
      exact a_ireturn dX10_reachedFrom_69 rfl rfl rfl (zone_i rfl)
    · exfalso; omega
  | succ n ih =>
    intro k rc g0 g1
    obtain ⟨hc, hi, hxt, hnr, hhr⟩ := id hv
    obtain ⟨hP, hTp, hT, ht, hS, ha⟩ := id hc
    have q1 := hi.1.1
    have sg := st_guess L hP
    have sn := st_now L hP
    refine a_iload dX10_reachedFrom_7 rfl ?_
    refine a_iloadn dX10_reachedFrom_9 rfl ?_
    refine a_icmp_ge (tgt := 68) dX10_reachedFrom_10 (by decide) ⟨by omega, by omega⟩ ⟨by omega, by omega⟩ (fun hb10 => ?_) (fun hb10 => ?_)
    · exfalso; omega
    · refine a_iloadn dX10_reachedFrom_13 rfl ?_
      refine c_istore (ls' := [_, _, _, _, _, _, _]) dX10_reachedFrom_14 (by decide) rfl rfl ?_
      refine a_iconst dX10_reachedFrom_16 ?_
      refine c_istore (ls' := [_, _, _, _, _, _, _]) dX10_reachedFrom_17 (by decide) rfl rfl ?_
      refine lpX10_reachedFrom_in hv (M t 2).toNat 0 rc (by omega) (by omega) ?_
      refine a_iload dX10_reachedFrom_59 rfl ?_
      refine c_istoren (ls' := [_, _, _, _, _, _, _]) dX10_reachedFrom_61 (by decide) rfl rfl ?_
      refine c_iinc (ls' := [_, _, _, _, _, _, _]) dX10_reachedFrom_62 rfl (by decide) rfl rfl ?_
      refine a_goto (tgt := 7) dX10_reachedFrom_65 (by decide) ?_
      refine a_forget [5, 6] (ls' := [_, _, _, _, _, none, none]) rfl ?_
      simp only [rfO]
      exact ih _ _ (by omega) (by omega)

set_option maxRecDepth 100000 in
set_option maxHeartbeats 4000000 in
theorem m_X10_reachedFrom {G : zG} {l : Launch} {L : Nat} {P : zP} {M : zM} {t : Nat} {h nn : Int} (hv : CV L P M t) (hn : 0 ≤ nn ∧ nn ≤ 6) : AM G l yX10_reachedFrom mdX10_reachedFrom [aR 2, aI h, aI nn] (LAY L) P M (zone (LAY L) P M (fun r => r = rfO (M 208) (M t 2).toNat nn.toNat (b_ishl 1 h))) := by
  obtain ⟨hc, hi, hxt, hnr, hhr⟩ := id hv
  obtain ⟨hP, hTp, hT, ht, hS, ha⟩ := id hc
  have q1 := hi.1.1
  have sg := st_guess L hP
  have sn := st_now L hP
  refine AM.go [some (aR 2), some (aI h), some (aI nn), none, none, none, none] rfl (Nat.le_of_ble_eq_true rfl) ?_ (by decide) rfl rfl
  refine a_iconst dX10_reachedFrom_0 ?_
  refine a_iloadn dX10_reachedFrom_1 rfl ?_
  refine a_ishl dX10_reachedFrom_2 ?_
  refine c_istoren (ls' := [_, _, _, _, _, _, _]) dX10_reachedFrom_3 (by decide) rfl rfl ?_
  refine a_iconst dX10_reachedFrom_4 ?_
  refine c_istore (ls' := [_, _, _, _, _, _, _]) dX10_reachedFrom_5 (by decide) rfl rfl ?_
  exact lpX10_reachedFrom hv hn nn.toNat 0 _ (by omega) (by omega)

set_option maxRecDepth 100000 in
set_option maxHeartbeats 4000000 in
theorem flX10_passed {G : zG} {l : Launch} {L : Nat} {P : zP} {M0 : zM} {t : Nat} {h nn : Int} {Z : zZ} (hv : CV L P M0 t) : ∀ (n : Nat) (i : Int) (M : zM) (g0 : 0 ≤ i) (g1 : i + n = M0 t 2) (hq : Cn t M0 M) (hj : ∀ j : Int, 0 ≤ j → j < i → M 208 j = hoC M0 t j) (kk : ∀ M' : zM, Cn t M0 M' → (∀ j : Int, 0 ≤ j → j < M0 t 2 → M' 208 j = hoC M0 t j) → AW G l mdX10_passed Z 57 [some (aR 2), some (aI h), some (aI nn), none] [] (LAY L) P M' 0 0), AW G l mdX10_passed Z 22 [some (aR 2), some (aI h), some (aI nn), some (aI i)] [] (LAY L) P M 0 0 := by
  intro n
  induction n with
  | zero =>
    intro i M g0 g1 hq hj kk
    obtain ⟨hc, hi, hxt, hnr, hhr⟩ := id hv
    obtain ⟨hP, hTp, hT, ht, hS, ha⟩ := id hc
    have q1 := hi.1.1
    have sg := st_guess L hP
    have sn := st_now L hP
    have hv1 := hq.cv hv
    refine a_iloadn dX10_passed_22 rfl ?_
    refine a_aloadn dX10_passed_23 rfl ?_
    refine a_getR (j' := 2) (y := t) dX10_passed_24 flX10_16 rfl rfl (L2 L) hxt ?_
    refine b_getI (j' := 2) dX10_passed_27 flX10_118 rfl rfl hT.1.2.1 (fun hr27 => ?_)
    have e27 : M t 2 = M0 t 2 := by rw [hq.1 t (by omega)]
    rw [e27] at hr27
    rw [e27]
    refine a_icmp_ge (tgt := 57) dX10_passed_30 (by decide) ⟨by omega, by omega⟩ ⟨by omega, by omega⟩ (fun hb30 => ?_) (fun hb30 => ?_)
    · refine a_forget [3] (ls' := [_, _, _, none]) rfl (kk _ hq (fun j j0 j1 => hj j j0 (by omega)))
    · exfalso; omega
  | succ n ih =>
    intro i M g0 g1 hq hj kk
    obtain ⟨hc, hi, hxt, hnr, hhr⟩ := id hv
    obtain ⟨hP, hTp, hT, ht, hS, ha⟩ := id hc
    have q1 := hi.1.1
    have sg := st_guess L hP
    have sn := st_now L hP
    have hv1 := hq.cv hv
    refine a_iloadn dX10_passed_22 rfl ?_
    refine a_aloadn dX10_passed_23 rfl ?_
    refine a_getR (j' := 2) (y := t) dX10_passed_24 flX10_16 rfl rfl (L2 L) hxt ?_
    refine b_getI (j' := 2) dX10_passed_27 flX10_118 rfl rfl hT.1.2.1 (fun hr27 => ?_)
    have e27 : M t 2 = M0 t 2 := by rw [hq.1 t (by omega)]
    rw [e27] at hr27
    rw [e27]
    refine a_icmp_ge (tgt := 57) dX10_passed_30 (by decide) ⟨by omega, by omega⟩ ⟨by omega, by omega⟩ (fun hb30 => ?_) (fun hb30 => ?_)
    · exfalso; omega
    · refine a_aloadn dX10_passed_33 rfl ?_
      refine a_getR (j' := 13) (y := 208) dX10_passed_34 flX10_75 rfl rfl (L2 L) (p2_13 hP) ?_
      refine a_iloadn dX10_passed_37 rfl ?_
      refine a_aloadn dX10_passed_38 rfl ?_
      refine a_getR (j' := 5) (y := 50) dX10_passed_39 flX10_35 rfl rfl (L2 L) (p2_5 hP) ?_
      refine a_aloadn dX10_passed_42 rfl ?_
      refine a_getR (j' := 7) (y := 61) dX10_passed_43 flX10_51 rfl rfl (L2 L) (p2_7 hP) ?_
      refine a_iloadn dX10_passed_46 rfl ?_
      refine a_anyV (as := [_, _]) (q := 50) dX10_passed_47 mvX10_142 ⟨by decide, by decide⟩ (L50 L) rfl rfl rfl (Nat.le_of_ble_eq_true rfl) ⟨rfl, rfl⟩ ⟨by decide, by decide⟩ (m_X0_hearersOf hv1.1 hv1.2.1 (by omega) (by omega)) (fun x9 M1 hM1 => ?_)
      have hf : x9 = hoC M0 t i := by rw [hM1.2]; exact hoC_cn hv hq i
      have hq2 := hq.ec hM1.1
      have h208 : M1 208 = M 208 := hM1.1.row (by decide) (by decide) (by decide)
      have qf := zbits_in (fun j => if j = i then 0 else hrM M0 t 61 j i) (M0 t 2).toNat 0 0 (by omega) (by omega) (by omega)
      have qf2 : 0 ≤ hoC M0 t i ∧ hoC M0 t i ≤ 63 := qf
      refine a_iast (N := 6) dX10_passed_50 (L208 L) (by decide) (by decide) (by omega) (by omega) ⟨by omega, by omega⟩ ?_
      refine c_iinc (ls' := [_, _, _, _]) dX10_passed_51 rfl (by decide) rfl rfl ?_
      refine a_goto (tgt := 22) dX10_passed_54 (by decide) ?_
      refine ih _ _ (by omega) (by omega) (hq2.sm (by omega) _ _) (fun j j0 j1 => ?_) kk
      rw [sm_k]
      by_cases ej : j = i
      · subst ej; rw [us_s]; exact hf
      · rw [us_n ej, h208]; exact hj j j0 (by omega)

set_option maxRecDepth 100000 in
set_option maxHeartbeats 4000000 in
theorem m_X10_passed {G : zG} {l : Launch} {L : Nat} {P : zP} {M : zM} {t : Nat} {h nn : Int} (hv : CV L P M t) (rh : inR h) (rnn : inR nn) : AM G l yX10_passed mdX10_passed [aR 2, aI h, aI nn] (LAY L) P M (zany (LAY L) P (fun r M' => Cn t M M' ∧ ((¬ (0 ≤ h ∧ h < M t 2 ∧ 0 ≤ nn ∧ nn ≤ 6)) ∧ r = -1 ∨ ¬ (¬ (0 ≤ h ∧ h < M t 2 ∧ 0 ≤ nn ∧ nn ≤ 6)) ∧ r = rfO (fun j => hoC M t j) (M t 2).toNat nn.toNat (b_ishl 1 h)))) := by
  obtain ⟨hc, hi, hxt, hnr, hhr⟩ := id hv
  obtain ⟨hP, hTp, hT, ht, hS, ha⟩ := id hc
  have q1 := hi.1.1
  have sg := st_guess L hP
  have sn := st_now L hP
  refine AM.go [some (aR 2), some (aI h), some (aI nn), none] rfl (Nat.le_of_ble_eq_true rfl) ?_ (by decide) rfl rfl
  refine a_aloadn dX10_passed_0 rfl ?_
  refine a_iloadn dX10_passed_1 rfl ?_
  refine a_oneV (as := [_]) (q := 2) dX10_passed_2 mvX10_121 ⟨by decide, by decide⟩ (L2 L) rfl rfl rfl (Nat.le_of_ble_eq_true rfl) ⟨rfl, rfl⟩ ⟨by decide, by decide⟩ (m_X10_isHouse hv (h := h) rh) (fun x2 hx2 => ?_)
  refine a_if_eq (tgt := 18) dX10_passed_5 (by decide) ⟨by omega, by omega⟩ (fun hb5 => ?_) (fun hb5 => ?_)
  · refine a_iconst dX10_passed_18 ?_
    exact a_ireturn dX10_passed_19 rfl rfl rfl (zany_i ⟨Cn.rf hv, Or.inl ⟨by omega, rfl⟩⟩)
  · refine a_iloadn dX10_passed_8 rfl ?_
    refine a_iconst dX10_passed_9 ?_
    refine a_bipush (w := 6) dX10_passed_10 (by decide) ?_
    refine a_oneS (as := [_, _, _]) dX10_passed_12 mvX10_167 ⟨by decide, by decide⟩ rfl rfl (Nat.le_of_ble_eq_true rfl) ⟨rfl, rfl⟩ ⟨by decide, by decide⟩ (m_X10_isWithin ⟨by omega, by omega⟩ ⟨by omega, by omega⟩ ⟨by omega, by omega⟩) (fun x12 hx12 => ?_)
    refine a_if_ne (tgt := 20) dX10_passed_15 (by decide) ⟨by omega, by omega⟩ (fun hb15 => ?_) (fun hb15 => ?_)
    · refine a_iconst dX10_passed_20 ?_
      refine c_istoren (ls' := [_, _, _, _]) dX10_passed_21 (by decide) rfl rfl ?_
      refine flX10_passed (h := h) (nn := nn) hv (M t 2).toNat 0 M (by omega) (by omega) (Cn.rf hv) (fun j j0 j1 => by omega) (fun M1 h1 h2 => ?_)
      have hv1 := h1.cv hv
      refine a_aloadn dX10_passed_57 rfl ?_
      refine a_iloadn dX10_passed_58 rfl ?_
      refine a_iloadn dX10_passed_59 rfl ?_
      refine a_oneV (as := [_, _]) (q := 2) dX10_passed_60 mvX10_290 ⟨by decide, by decide⟩ (L2 L) rfl rfl rfl (Nat.le_of_ble_eq_true rfl) ⟨rfl, rfl⟩ ⟨by decide, by decide⟩ (m_X10_reachedFrom hv1 (by omega)) (fun x9 hx9 => ?_)
      refine a_ireturn dX10_passed_63 rfl rfl rfl (zany_i ⟨h1, Or.inr ⟨by omega, ?_⟩⟩)
      rw [hx9, h1.1 t (by omega)]
      exact rfO_cong (fun j j0 j1 => h2 j j0 (by omega)) _ _
    · refine a_iconst dX10_passed_18 ?_
      exact a_ireturn dX10_passed_19 rfl rfl rfl (zany_i ⟨Cn.rf hv, Or.inl ⟨by omega, rfl⟩⟩)

set_option maxRecDepth 100000 in
set_option maxHeartbeats 4000000 in
theorem flX10_gossip {G : zG} {l : Launch} {L : Nat} {P : zP} {M0 : zM} {t : Nat} {h nn : Int} {Z : zZ} (hv : CV L P M0 t) : ∀ (n : Nat) (i : Int) (M : zM) (g0 : 0 ≤ i) (g1 : i + n = M0 t 2) (hq : Cn t M0 M) (hj : ∀ j : Int, 0 ≤ j → j < i → M 208 j = M0 64 j) (kk : ∀ M' : zM, Cn t M0 M' → (∀ j : Int, 0 ≤ j → j < M0 t 2 → M' 208 j = M0 64 j) → AW G l mdX10_gossip Z 54 [some (aR 2), some (aI h), some (aI nn), none] [] (LAY L) P M' 0 0), AW G l mdX10_gossip Z 22 [some (aR 2), some (aI h), some (aI nn), some (aI i)] [] (LAY L) P M 0 0 := by
  intro n
  induction n with
  | zero =>
    intro i M g0 g1 hq hj kk
    obtain ⟨hc, hi, hxt, hnr, hhr⟩ := id hv
    obtain ⟨hP, hTp, hT, ht, hS, ha⟩ := id hc
    have q1 := hi.1.1
    have sg := st_guess L hP
    have sn := st_now L hP
    have hv1 := hq.cv hv
    refine a_iloadn dX10_gossip_22 rfl ?_
    refine a_aloadn dX10_gossip_23 rfl ?_
    refine a_getR (j' := 2) (y := t) dX10_gossip_24 flX10_16 rfl rfl (L2 L) hxt ?_
    refine b_getI (j' := 2) dX10_gossip_27 flX10_118 rfl rfl hT.1.2.1 (fun hr27 => ?_)
    have e27 : M t 2 = M0 t 2 := by rw [hq.1 t (by omega)]
    rw [e27] at hr27
    rw [e27]
    refine a_icmp_ge (tgt := 54) dX10_gossip_30 (by decide) ⟨by omega, by omega⟩ ⟨by omega, by omega⟩ (fun hb30 => ?_) (fun hb30 => ?_)
    · refine a_forget [3] (ls' := [_, _, _, none]) rfl (kk _ hq (fun j j0 j1 => hj j j0 (by omega)))
    · exfalso; omega
  | succ n ih =>
    intro i M g0 g1 hq hj kk
    obtain ⟨hc, hi, hxt, hnr, hhr⟩ := id hv
    obtain ⟨hP, hTp, hT, ht, hS, ha⟩ := id hc
    have q1 := hi.1.1
    have sg := st_guess L hP
    have sn := st_now L hP
    have hv1 := hq.cv hv
    refine a_iloadn dX10_gossip_22 rfl ?_
    refine a_aloadn dX10_gossip_23 rfl ?_
    refine a_getR (j' := 2) (y := t) dX10_gossip_24 flX10_16 rfl rfl (L2 L) hxt ?_
    refine b_getI (j' := 2) dX10_gossip_27 flX10_118 rfl rfl hT.1.2.1 (fun hr27 => ?_)
    have e27 : M t 2 = M0 t 2 := by rw [hq.1 t (by omega)]
    rw [e27] at hr27
    rw [e27]
    refine a_icmp_ge (tgt := 54) dX10_gossip_30 (by decide) ⟨by omega, by omega⟩ ⟨by omega, by omega⟩ (fun hb30 => ?_) (fun hb30 => ?_)
    · exfalso; omega
    · refine a_aloadn dX10_gossip_33 rfl ?_
      refine a_getR (j' := 13) (y := 208) dX10_gossip_34 flX10_75 rfl rfl (L2 L) (p2_13 hP) ?_
      refine a_iloadn dX10_gossip_37 rfl ?_
      refine a_aloadn dX10_gossip_38 rfl ?_
      refine a_getR (j' := 7) (y := 61) dX10_gossip_39 flX10_51 rfl rfl (L2 L) (p2_7 hP) ?_
      refine a_getR (j' := 2) (y := 64) dX10_gossip_42 flX10_145 rfl rfl (L61 L) (p61_2 hP) ?_
      refine a_iloadn dX10_gossip_45 rfl ?_
      refine b_iald (N := 6) dX10_gossip_46 (L64 L) (by decide) (by omega) (by omega) (fun hr46 => ?_)
      have hf : M 64 i = M0 64 i := by rw [hq.1 64 (by omega)]
      have hq2 := hq
      have h208 : M 208 = M 208 := rfl
      refine a_iast (N := 6) dX10_gossip_47 (L208 L) (by decide) (by decide) (by omega) (by omega) hr46 ?_
      refine c_iinc (ls' := [_, _, _, _]) dX10_gossip_48 rfl (by decide) rfl rfl ?_
      refine a_goto (tgt := 22) dX10_gossip_51 (by decide) ?_
      refine ih _ _ (by omega) (by omega) (hq2.sm (by omega) _ _) (fun j j0 j1 => ?_) kk
      rw [sm_k]
      by_cases ej : j = i
      · subst ej; rw [us_s]; exact hf
      · rw [us_n ej, h208]; exact hj j j0 (by omega)

set_option maxRecDepth 100000 in
set_option maxHeartbeats 4000000 in
theorem m_X10_gossip {G : zG} {l : Launch} {L : Nat} {P : zP} {M : zM} {t : Nat} {h nn : Int} (hv : CV L P M t) (rh : inR h) (rnn : inR nn) : AM G l yX10_gossip mdX10_gossip [aR 2, aI h, aI nn] (LAY L) P M (zany (LAY L) P (fun r M' => Cn t M M' ∧ ((¬ (0 ≤ h ∧ h < M t 2 ∧ 0 ≤ nn ∧ nn ≤ 6)) ∧ r = -1 ∨ ¬ (¬ (0 ≤ h ∧ h < M t 2 ∧ 0 ≤ nn ∧ nn ≤ 6)) ∧ r = rfO (fun j => M 64 j) (M t 2).toNat nn.toNat (b_ishl 1 h)))) := by
  obtain ⟨hc, hi, hxt, hnr, hhr⟩ := id hv
  obtain ⟨hP, hTp, hT, ht, hS, ha⟩ := id hc
  have q1 := hi.1.1
  have sg := st_guess L hP
  have sn := st_now L hP
  refine AM.go [some (aR 2), some (aI h), some (aI nn), none] rfl (Nat.le_of_ble_eq_true rfl) ?_ (by decide) rfl rfl
  refine a_aloadn dX10_gossip_0 rfl ?_
  refine a_iloadn dX10_gossip_1 rfl ?_
  refine a_oneV (as := [_]) (q := 2) dX10_gossip_2 mvX10_121 ⟨by decide, by decide⟩ (L2 L) rfl rfl rfl (Nat.le_of_ble_eq_true rfl) ⟨rfl, rfl⟩ ⟨by decide, by decide⟩ (m_X10_isHouse hv (h := h) rh) (fun x2 hx2 => ?_)
  refine a_if_eq (tgt := 18) dX10_gossip_5 (by decide) ⟨by omega, by omega⟩ (fun hb5 => ?_) (fun hb5 => ?_)
  · refine a_iconst dX10_gossip_18 ?_
    exact a_ireturn dX10_gossip_19 rfl rfl rfl (zany_i ⟨Cn.rf hv, Or.inl ⟨by omega, rfl⟩⟩)
  · refine a_iloadn dX10_gossip_8 rfl ?_
    refine a_iconst dX10_gossip_9 ?_
    refine a_bipush (w := 6) dX10_gossip_10 (by decide) ?_
    refine a_oneS (as := [_, _, _]) dX10_gossip_12 mvX10_167 ⟨by decide, by decide⟩ rfl rfl (Nat.le_of_ble_eq_true rfl) ⟨rfl, rfl⟩ ⟨by decide, by decide⟩ (m_X10_isWithin ⟨by omega, by omega⟩ ⟨by omega, by omega⟩ ⟨by omega, by omega⟩) (fun x12 hx12 => ?_)
    refine a_if_ne (tgt := 20) dX10_gossip_15 (by decide) ⟨by omega, by omega⟩ (fun hb15 => ?_) (fun hb15 => ?_)
    · refine a_iconst dX10_gossip_20 ?_
      refine c_istoren (ls' := [_, _, _, _]) dX10_gossip_21 (by decide) rfl rfl ?_
      refine flX10_gossip (h := h) (nn := nn) hv (M t 2).toNat 0 M (by omega) (by omega) (Cn.rf hv) (fun j j0 j1 => by omega) (fun M1 h1 h2 => ?_)
      have hv1 := h1.cv hv
      refine a_aloadn dX10_gossip_54 rfl ?_
      refine a_iloadn dX10_gossip_55 rfl ?_
      refine a_iloadn dX10_gossip_56 rfl ?_
      refine a_oneV (as := [_, _]) (q := 2) dX10_gossip_57 mvX10_290 ⟨by decide, by decide⟩ (L2 L) rfl rfl rfl (Nat.le_of_ble_eq_true rfl) ⟨rfl, rfl⟩ ⟨by decide, by decide⟩ (m_X10_reachedFrom hv1 (by omega)) (fun x9 hx9 => ?_)
      refine a_ireturn dX10_gossip_60 rfl rfl rfl (zany_i ⟨h1, Or.inr ⟨by omega, ?_⟩⟩)
      rw [hx9, h1.1 t (by omega)]
      exact rfO_cong (fun j j0 j1 => h2 j j0 (by omega)) _ _
    · refine a_iconst dX10_gossip_18 ?_
      exact a_ireturn dX10_gossip_19 rfl rfl rfl (zany_i ⟨Cn.rf hv, Or.inl ⟨by omega, rfl⟩⟩)

set_option maxRecDepth 100000 in
set_option maxHeartbeats 4000000 in
theorem lpX10_alone {G : zG} {l : Launch} {L : Nat} {P : zP} {M0 : zM} {t : Nat} (hv : CV L P M0 t) : ∀ (n : Nat) (i acc : Int) (M : zM) (g0 : 0 ≤ i) (g1 : i + n = M0 t 2) (hq : Cn t M0 M), AW G l mdX10_alone (zany (LAY L) P (fun r M' => Cn t M0 M' ∧ r = zbits (fun j => if hbC M0 t j = 0 ∧ hoC M0 t j = 0 then 1 else 0) n i acc)) 4 [some (aR 2), some (aI acc), some (aI i)] [] (LAY L) P M 0 0 := by
  intro n
  induction n with
  | zero =>
    intro i acc M g0 g1 hq
    obtain ⟨hc, hi, hxt, hnr, hhr⟩ := id hv
    obtain ⟨hP, hTp, hT, ht, hS, ha⟩ := id hc
    have q1 := hi.1.1
    have sg := st_guess L hP
    have sn := st_now L hP
    have hv1 := hq.cv hv
    refine a_iloadn dX10_alone_4 rfl ?_
    refine a_aloadn dX10_alone_5 rfl ?_
    refine a_getR (j' := 2) (y := t) dX10_alone_6 flX10_16 rfl rfl (L2 L) hxt ?_
    refine b_getI (j' := 2) dX10_alone_9 flX10_118 rfl rfl hT.1.2.1 (fun hr9 => ?_)
    have e9 : M t 2 = M0 t 2 := by rw [hq.1 t (by omega)]
    rw [e9] at hr9
    rw [e9]
    refine a_icmp_ge (tgt := 57) dX10_alone_12 (by decide) ⟨by omega, by omega⟩ ⟨by omega, by omega⟩ (fun hb12 => ?_) (fun hb12 => ?_)
    · refine a_iloadn dX10_alone_57 rfl ?_
      exact a_ireturn dX10_alone_58 rfl rfl rfl (zany_i ⟨hq, rfl⟩)
    · exfalso; omega
  | succ n ih =>
    intro i acc M g0 g1 hq
    obtain ⟨hc, hi, hxt, hnr, hhr⟩ := id hv
    obtain ⟨hP, hTp, hT, ht, hS, ha⟩ := id hc
    have q1 := hi.1.1
    have sg := st_guess L hP
    have sn := st_now L hP
    have hv1 := hq.cv hv
    refine a_iloadn dX10_alone_4 rfl ?_
    refine a_aloadn dX10_alone_5 rfl ?_
    refine a_getR (j' := 2) (y := t) dX10_alone_6 flX10_16 rfl rfl (L2 L) hxt ?_
    refine b_getI (j' := 2) dX10_alone_9 flX10_118 rfl rfl hT.1.2.1 (fun hr9 => ?_)
    have e9 : M t 2 = M0 t 2 := by rw [hq.1 t (by omega)]
    rw [e9] at hr9
    rw [e9]
    refine a_icmp_ge (tgt := 57) dX10_alone_12 (by decide) ⟨by omega, by omega⟩ ⟨by omega, by omega⟩ (fun hb12 => ?_) (fun hb12 => ?_)
    · exfalso; omega
    · refine a_aloadn dX10_alone_15 rfl ?_
      refine a_getR (j' := 5) (y := 50) dX10_alone_16 flX10_35 rfl rfl (L2 L) (p2_5 hP) ?_
      refine a_aloadn dX10_alone_19 rfl ?_
      refine a_getR (j' := 7) (y := 61) dX10_alone_20 flX10_51 rfl rfl (L2 L) (p2_7 hP) ?_
      refine a_iloadn dX10_alone_23 rfl ?_
      refine a_anyV (as := [_, _]) (q := 50) dX10_alone_24 mvX10_138 ⟨by decide, by decide⟩ (L50 L) rfl rfl rfl (Nat.le_of_ble_eq_true rfl) ⟨rfl, rfl⟩ ⟨by decide, by decide⟩ (m_X0_heardBy hv1.1 hv1.2.1 (by omega) (by omega)) (fun x24 M24 hM24 => ?_)
      have hx24 : x24 = hbC M0 t i := by rw [hM24.2]; exact hbC_cn hv hq i
      have hqa := hq.ec hM24.1
      have hva := hqa.cv hv
      have qf := zbits_in (fun j => if j = i then 0 else hrM M0 t 61 i j) (M0 t 2).toNat 0 0 (by omega) (by omega) (by omega)
      have qf2 : 0 ≤ hbC M0 t i ∧ hbC M0 t i ≤ 63 := qf
      refine a_if_ne (tgt := 51) dX10_alone_27 (by decide) ⟨by omega, by omega⟩ (fun hb27 => ?_) (fun hb27 => ?_)
      · refine c_iinc (ls' := [_, _, _]) dX10_alone_51 rfl (by decide) rfl rfl ?_
        refine a_goto (tgt := 4) dX10_alone_54 (by decide) ?_
        simp only [zbits]
        first
        | (rw [if_pos (if_neg (by omega))]; exact ih _ _ _ (by omega) (by omega) hqa)
        | (rw [if_pos (if_neg (by omega))]; exact ih _ _ _ (by omega) (by omega) hqb)
        | (rw [if_neg (by rw [if_pos (by omega)]; decide)]; exact ih _ _ _ (by omega) (by omega) hqb)
      · refine a_aloadn dX10_alone_30 rfl ?_
        refine a_getR (j' := 5) (y := 50) dX10_alone_31 flX10_35 rfl rfl (L2 L) (p2_5 hP) ?_
        refine a_aloadn dX10_alone_34 rfl ?_
        refine a_getR (j' := 7) (y := 61) dX10_alone_35 flX10_51 rfl rfl (L2 L) (p2_7 hP) ?_
        refine a_iloadn dX10_alone_38 rfl ?_
        refine a_anyV (as := [_, _]) (q := 50) dX10_alone_39 mvX10_142 ⟨by decide, by decide⟩ (L50 L) rfl rfl rfl (Nat.le_of_ble_eq_true rfl) ⟨rfl, rfl⟩ ⟨by decide, by decide⟩ (m_X0_hearersOf hva.1 hva.2.1 (by omega) (by omega)) (fun x39 M39 hM39 => ?_)
        have hx39 : x39 = hoC M0 t i := by rw [hM39.2]; exact hoC_cn hv hqa i
        have hqb := hqa.ec hM39.1
        have qg := zbits_in (fun j => if j = i then 0 else hrM M0 t 61 j i) (M0 t 2).toNat 0 0 (by omega) (by omega) (by omega)
        have qg2 : 0 ≤ hoC M0 t i ∧ hoC M0 t i ≤ 63 := qg
        refine a_if_ne (tgt := 51) dX10_alone_42 (by decide) ⟨by omega, by omega⟩ (fun hb42 => ?_) (fun hb42 => ?_)
        · refine c_iinc (ls' := [_, _, _]) dX10_alone_51 rfl (by decide) rfl rfl ?_
          refine a_goto (tgt := 4) dX10_alone_54 (by decide) ?_
          simp only [zbits]
          first
          | (rw [if_pos (if_neg (by omega))]; exact ih _ _ _ (by omega) (by omega) hqa)
          | (rw [if_pos (if_neg (by omega))]; exact ih _ _ _ (by omega) (by omega) hqb)
          | (rw [if_neg (by rw [if_pos (by omega)]; decide)]; exact ih _ _ _ (by omega) (by omega) hqb)
        · refine a_iloadn dX10_alone_45 rfl ?_
          refine a_iconst dX10_alone_46 ?_
          refine a_iloadn dX10_alone_47 rfl ?_
          refine a_ishl dX10_alone_48 ?_
          refine a_ior dX10_alone_49 ?_
          refine c_istoren (ls' := [_, _, _]) dX10_alone_50 (by decide) rfl rfl ?_
          refine c_iinc (ls' := [_, _, _]) dX10_alone_51 rfl (by decide) rfl rfl ?_
          refine a_goto (tgt := 4) dX10_alone_54 (by decide) ?_
          simp only [zbits]
          first
          | (rw [if_pos (if_neg (by omega))]; exact ih _ _ _ (by omega) (by omega) hqa)
          | (rw [if_pos (if_neg (by omega))]; exact ih _ _ _ (by omega) (by omega) hqb)
          | (rw [if_neg (by rw [if_pos (by omega)]; decide)]; exact ih _ _ _ (by omega) (by omega) hqb)

set_option maxRecDepth 100000 in
set_option maxHeartbeats 4000000 in
theorem m_X10_alone {G : zG} {l : Launch} {L : Nat} {P : zP} {M : zM} {t : Nat} (hv : CV L P M t) : AM G l yX10_alone mdX10_alone [aR 2] (LAY L) P M (zany (LAY L) P (fun r M' => Cn t M M' ∧ r = zbits (fun j => if hbC M t j = 0 ∧ hoC M t j = 0 then 1 else 0) (M t 2).toNat 0 0)) := by
  obtain ⟨hc, hi, hxt, hnr, hhr⟩ := id hv
  obtain ⟨hP, hTp, hT, ht, hS, ha⟩ := id hc
  have q1 := hi.1.1
  have sg := st_guess L hP
  have sn := st_now L hP
  refine AM.go [some (aR 2), none, none] rfl (Nat.le_of_ble_eq_true rfl) ?_ (by decide) rfl rfl
  refine a_iconst dX10_alone_0 ?_
  refine c_istoren (ls' := [_, _, _]) dX10_alone_1 (by decide) rfl rfl ?_
  refine a_iconst dX10_alone_2 ?_
  refine c_istoren (ls' := [_, _, _]) dX10_alone_3 (by decide) rfl rfl ?_
  exact lpX10_alone hv (M t 2).toNat 0 0 M (by omega) (by omega) (Cn.rf hv)

set_option maxRecDepth 100000 in
set_option maxHeartbeats 4000000 in
theorem lpX10_warnsAll {G : zG} {l : Launch} {L : Nat} {P : zP} {M : zM} {t : Nat} {s : Int} (hv : CV L P M t) : ∀ (n : Nat) (i : Int) (g0 : 0 ≤ i) (g1 : i + n = M t 2), AW G l mdX10_warnsAll (zone (LAY L) P M (fun r => r = zall (fun i => b_iand (M 208 i) s) n i)) 2 [some (aR 2), some (aI s), some (aI i)] [] (LAY L) P M 0 0 := by
  intro n
  induction n with
  | zero =>
    intro i g0 g1
    obtain ⟨hc, hi, hxt, hnr, hhr⟩ := id hv
    obtain ⟨hP, hTp, hT, ht, hS, ha⟩ := id hc
    have q1 := hi.1.1
    have sg := st_guess L hP
    have sn := st_now L hP
    refine a_iloadn dX10_warnsAll_2 rfl ?_
    refine a_aloadn dX10_warnsAll_3 rfl ?_
    refine a_getR (j' := 2) (y := t) dX10_warnsAll_4 flX10_16 rfl rfl (L2 L) hxt ?_
    refine b_getI (j' := 2) dX10_warnsAll_7 flX10_118 rfl rfl hT.1.2.1 (fun hr7 => ?_)
    refine a_icmp_ge (tgt := 32) dX10_warnsAll_10 (by decide) ⟨by omega, by omega⟩ ⟨by omega, by omega⟩ (fun hb10 => ?_) (fun hb10 => ?_)
    · refine a_iconst dX10_warnsAll_32 ?_
      exact a_zreturn dX10_warnsAll_33 rfl rfl rfl (by omega) (zone_i rfl)
    · exfalso; omega
  | succ n ih =>
    intro i g0 g1
    obtain ⟨hc, hi, hxt, hnr, hhr⟩ := id hv
    obtain ⟨hP, hTp, hT, ht, hS, ha⟩ := id hc
    have q1 := hi.1.1
    have sg := st_guess L hP
    have sn := st_now L hP
    refine a_iloadn dX10_warnsAll_2 rfl ?_
    refine a_aloadn dX10_warnsAll_3 rfl ?_
    refine a_getR (j' := 2) (y := t) dX10_warnsAll_4 flX10_16 rfl rfl (L2 L) hxt ?_
    refine b_getI (j' := 2) dX10_warnsAll_7 flX10_118 rfl rfl hT.1.2.1 (fun hr7 => ?_)
    refine a_icmp_ge (tgt := 32) dX10_warnsAll_10 (by decide) ⟨by omega, by omega⟩ ⟨by omega, by omega⟩ (fun hb10 => ?_) (fun hb10 => ?_)
    · exfalso; omega
    · refine a_aloadn dX10_warnsAll_13 rfl ?_
      refine a_getR (j' := 13) (y := 208) dX10_warnsAll_14 flX10_75 rfl rfl (L2 L) (p2_13 hP) ?_
      refine a_iloadn dX10_warnsAll_17 rfl ?_
      refine b_iald (N := 6) dX10_warnsAll_18 (L208 L) (by decide) (by omega) (by omega) (fun hr18 => ?_)
      refine a_iloadn dX10_warnsAll_19 rfl ?_
      refine a_iand dX10_warnsAll_20 ?_
      refine a_if_ne (tgt := 26) dX10_warnsAll_21 (by decide) (ir _) (fun hb21 => ?_) (fun hb21 => ?_)
      · refine c_iinc (ls' := [_, _, _]) dX10_warnsAll_26 rfl (by decide) rfl rfl ?_
        refine a_goto (tgt := 2) dX10_warnsAll_29 (by decide) ?_
        simp only [zall]
        rw [if_neg hb21]
        exact ih _ (by omega) (by omega)
      · refine a_iconst dX10_warnsAll_24 ?_
        exact a_zreturn dX10_warnsAll_25 rfl rfl rfl (by omega) (zone_i (by simp only [zall]; rw [if_pos (by omega)]))

set_option maxRecDepth 100000 in
set_option maxHeartbeats 4000000 in
theorem m_X10_warnsAll {G : zG} {l : Launch} {L : Nat} {P : zP} {M : zM} {t : Nat} {s : Int} (hv : CV L P M t) : AM G l yX10_warnsAll mdX10_warnsAll [aR 2, aI s] (LAY L) P M (zone (LAY L) P M (fun r => r = zall (fun i => b_iand (M 208 i) s) (M t 2).toNat 0)) := by
  obtain ⟨hc, hi, hxt, hnr, hhr⟩ := id hv
  obtain ⟨hP, hTp, hT, ht, hS, ha⟩ := id hc
  have q1 := hi.1.1
  have sg := st_guess L hP
  have sn := st_now L hP
  refine AM.go [some (aR 2), some (aI s), none] rfl (Nat.le_of_ble_eq_true rfl) ?_ (by decide) rfl rfl
  refine a_iconst dX10_warnsAll_0 ?_
  refine c_istoren (ls' := [_, _, _]) dX10_warnsAll_1 (by decide) rfl rfl ?_
  exact lpX10_warnsAll hv (M t 2).toNat 0 (by omega) (by omega)

set_option maxRecDepth 100000 in
set_option maxHeartbeats 4000000 in
theorem flX10_warn {G : zG} {l : Launch} {L : Nat} {P : zP} {M0 : zM} {t : Nat} {h nn : Int} {Z : zZ} (hv : CV L P M0 t) : ∀ (n : Nat) (i : Int) (M : zM) (g0 : 0 ≤ i) (g1 : i + n = M0 t 2) (hq : Cn t M0 M) (hj : ∀ j : Int, 0 ≤ j → j < i → M 208 j = kset (hbC M0 t j) j) (kk : ∀ M' : zM, Cn t M0 M' → (∀ j : Int, 0 ≤ j → j < M0 t 2 → M' 208 j = kset (hbC M0 t j) j) → AW G l mdX10_warn Z 41 [some (aR 2), none, none, none] [] (LAY L) P M' 0 0), AW G l mdX10_warn Z 2 [some (aR 2), some (aI i), none, none] [] (LAY L) P M 0 0 := by
  intro n
  induction n with
  | zero =>
    intro i M g0 g1 hq hj kk
    obtain ⟨hc, hi, hxt, hnr, hhr⟩ := id hv
    obtain ⟨hP, hTp, hT, ht, hS, ha⟩ := id hc
    have q1 := hi.1.1
    have sg := st_guess L hP
    have sn := st_now L hP
    have hv1 := hq.cv hv
    refine a_iloadn dX10_warn_2 rfl ?_
    refine a_aloadn dX10_warn_3 rfl ?_
    refine a_getR (j' := 2) (y := t) dX10_warn_4 flX10_16 rfl rfl (L2 L) hxt ?_
    refine b_getI (j' := 2) dX10_warn_7 flX10_118 rfl rfl hT.1.2.1 (fun hr7 => ?_)
    have e7 : M t 2 = M0 t 2 := by rw [hq.1 t (by omega)]
    rw [e7] at hr7
    rw [e7]
    refine a_icmp_ge (tgt := 41) dX10_warn_10 (by decide) ⟨by omega, by omega⟩ ⟨by omega, by omega⟩ (fun hb10 => ?_) (fun hb10 => ?_)
    · refine a_forget [1] (ls' := [_, none, _, _]) rfl (kk _ hq (fun j j0 j1 => hj j j0 (by omega)))
    · exfalso; omega
  | succ n ih =>
    intro i M g0 g1 hq hj kk
    obtain ⟨hc, hi, hxt, hnr, hhr⟩ := id hv
    obtain ⟨hP, hTp, hT, ht, hS, ha⟩ := id hc
    have q1 := hi.1.1
    have sg := st_guess L hP
    have sn := st_now L hP
    have hv1 := hq.cv hv
    refine a_iloadn dX10_warn_2 rfl ?_
    refine a_aloadn dX10_warn_3 rfl ?_
    refine a_getR (j' := 2) (y := t) dX10_warn_4 flX10_16 rfl rfl (L2 L) hxt ?_
    refine b_getI (j' := 2) dX10_warn_7 flX10_118 rfl rfl hT.1.2.1 (fun hr7 => ?_)
    have e7 : M t 2 = M0 t 2 := by rw [hq.1 t (by omega)]
    rw [e7] at hr7
    rw [e7]
    refine a_icmp_ge (tgt := 41) dX10_warn_10 (by decide) ⟨by omega, by omega⟩ ⟨by omega, by omega⟩ (fun hb10 => ?_) (fun hb10 => ?_)
    · exfalso; omega
    · refine a_aloadn dX10_warn_13 rfl ?_
      refine a_getR (j' := 13) (y := 208) dX10_warn_14 flX10_75 rfl rfl (L2 L) (p2_13 hP) ?_
      refine a_iloadn dX10_warn_17 rfl ?_
      refine a_aloadn dX10_warn_18 rfl ?_
      refine a_getR (j' := 5) (y := 50) dX10_warn_19 flX10_35 rfl rfl (L2 L) (p2_5 hP) ?_
      refine a_aloadn dX10_warn_22 rfl ?_
      refine a_getR (j' := 7) (y := 61) dX10_warn_23 flX10_51 rfl rfl (L2 L) (p2_7 hP) ?_
      refine a_iloadn dX10_warn_26 rfl ?_
      refine a_anyV (as := [_, _]) (q := 50) dX10_warn_27 mvX10_138 ⟨by decide, by decide⟩ (L50 L) rfl rfl rfl (Nat.le_of_ble_eq_true rfl) ⟨rfl, rfl⟩ ⟨by decide, by decide⟩ (m_X0_heardBy hv1.1 hv1.2.1 (by omega) (by omega)) (fun x9 M1 hM1 => ?_)
      have hx : x9 = hbC M0 t i := by rw [hM1.2]; exact hbC_cn hv hq i
      have hf : b_ior x9 (b_ishl 1 i) = kset (hbC M0 t i) i := by rw [hx]; rfl
      have hq2 := hq.ec hM1.1
      have h208 : M1 208 = M 208 := hM1.1.row (by decide) (by decide) (by decide)
      refine a_iconst dX10_warn_30 ?_
      refine a_iloadn dX10_warn_31 rfl ?_
      refine a_ishl dX10_warn_32 ?_
      refine a_ior dX10_warn_33 ?_
      refine a_iast (N := 6) dX10_warn_34 (L208 L) (by decide) (by decide) (by omega) (by omega) (ir _) ?_
      refine c_iinc (ls' := [_, _, _, _]) dX10_warn_35 rfl (by decide) rfl rfl ?_
      refine a_goto (tgt := 2) dX10_warn_38 (by decide) ?_
      refine ih _ _ (by omega) (by omega) (hq2.sm (by omega) _ _) (fun j j0 j1 => ?_) kk
      rw [sm_k]
      by_cases ej : j = i
      · subst ej; rw [us_s]; exact hf
      · rw [us_n ej, h208]; exact hj j j0 (by omega)

set_option maxRecDepth 100000 in
set_option maxHeartbeats 4000000 in
theorem lpX10_warn {G : zG} {l : Launch} {L : Nat} {P : zP} {M : zM} {t : Nat} {al : Int} (hv : CV L P M t) (hal : 0 ≤ al ∧ al ≤ 63) : ∀ (n : Nat) (s best : Int) (g0 : 0 ≤ s) (g1 : s + n = al) (gb : 0 ≤ best ∧ best ≤ 63), AW G l mdX10_warn (zone (LAY L) P M (fun r => r = wnF (M 208) (M t 2).toNat n s best)) 57 [some (aR 2), some (aI al), some (aI best), some (aI s)] [] (LAY L) P M 0 0 := by
  intro n
  induction n with
  | zero =>
    intro s best g0 g1 gb
    obtain ⟨hc, hi, hxt, hnr, hhr⟩ := id hv
    obtain ⟨hP, hTp, hT, ht, hS, ha⟩ := id hc
    have q1 := hi.1.1
    have sg := st_guess L hP
    have sn := st_now L hP
    refine a_iloadn dX10_warn_57 rfl ?_
    refine a_iloadn dX10_warn_58 rfl ?_
    refine a_icmp_ge (tgt := 89) dX10_warn_59 (by decide) ⟨by omega, by omega⟩ ⟨by omega, by omega⟩ (fun hb59 => ?_) (fun hb59 => ?_)
    · refine a_iloadn dX10_warn_89 rfl ?_
      exact a_ireturn dX10_warn_90 rfl rfl rfl (zone_i rfl)
    · exfalso; omega
  | succ n ih =>
    intro s best g0 g1 gb
    obtain ⟨hc, hi, hxt, hnr, hhr⟩ := id hv
    obtain ⟨hP, hTp, hT, ht, hS, ha⟩ := id hc
    have q1 := hi.1.1
    have sg := st_guess L hP
    have sn := st_now L hP
    refine a_iloadn dX10_warn_57 rfl ?_
    refine a_iloadn dX10_warn_58 rfl ?_
    refine a_icmp_ge (tgt := 89) dX10_warn_59 (by decide) ⟨by omega, by omega⟩ ⟨by omega, by omega⟩ (fun hb59 => ?_) (fun hb59 => ?_)
    · exfalso; omega
    · have b1 := bcnt_in (x := s) (by omega)
      have b2 := bcnt_in gb
      refine a_iloadn dX10_warn_62 rfl ?_
      refine a_callSA (as := [_]) dX10_warn_63 mvX10_293 ⟨by decide, by decide⟩ rfl rfl (Nat.le_of_ble_eq_true rfl) ⟨rfl, rfl⟩ ⟨by decide, by decide⟩ m_J6_bitCount_0f7a4 ?_
      refine a_iloadn dX10_warn_66 rfl ?_
      refine a_callSA (as := [_]) dX10_warn_67 mvX10_293 ⟨by decide, by decide⟩ rfl rfl (Nat.le_of_ble_eq_true rfl) ⟨rfl, rfl⟩ ⟨by decide, by decide⟩ m_J6_bitCount_0f7a4 ?_
      refine a_icmp_ge (tgt := 83) dX10_warn_70 (by decide) ⟨by omega, by omega⟩ ⟨by omega, by omega⟩ (fun hb70 => ?_) (fun hb70 => ?_)
      · refine c_iinc (ls' := [_, _, _, _]) dX10_warn_83 rfl (by decide) rfl rfl ?_
        refine a_goto (tgt := 57) dX10_warn_86 (by decide) ?_
        simp only [wnF]
        first
        | (rw [if_neg (by omega)]; exact ih _ _ (by omega) (by omega) gb)
        | (rw [if_pos (by omega)]; exact ih _ _ (by omega) (by omega) (by omega))
      · refine a_aloadn dX10_warn_73 rfl ?_
        refine a_iloadn dX10_warn_74 rfl ?_
        refine a_oneV (as := [_]) (q := 2) dX10_warn_75 mvX10_298 ⟨by decide, by decide⟩ (L2 L) rfl rfl rfl (Nat.le_of_ble_eq_true rfl) ⟨rfl, rfl⟩ ⟨by decide, by decide⟩ (m_X10_warnsAll hv) (fun x75 hx75 => ?_)
        refine a_if_eq (tgt := 83) dX10_warn_78 (by decide) (by have q9 := zall01 (fun i => b_iand (M 208 i) s) (M t 2).toNat 0; exact ⟨by omega, by omega⟩) (fun hb78 => ?_) (fun hb78 => ?_)
        · refine c_iinc (ls' := [_, _, _, _]) dX10_warn_83 rfl (by decide) rfl rfl ?_
          refine a_goto (tgt := 57) dX10_warn_86 (by decide) ?_
          simp only [wnF]
          first
          | (rw [if_neg (by omega)]; exact ih _ _ (by omega) (by omega) gb)
          | (rw [if_pos (by omega)]; exact ih _ _ (by omega) (by omega) (by omega))
        · refine a_iloadn dX10_warn_81 rfl ?_
          refine c_istoren (ls' := [_, _, _, _]) dX10_warn_82 (by decide) rfl rfl ?_
          refine c_iinc (ls' := [_, _, _, _]) dX10_warn_83 rfl (by decide) rfl rfl ?_
          refine a_goto (tgt := 57) dX10_warn_86 (by decide) ?_
          simp only [wnF]
          first
          | (rw [if_neg (by omega)]; exact ih _ _ (by omega) (by omega) gb)
          | (rw [if_pos (by omega)]; exact ih _ _ (by omega) (by omega) (by omega))

set_option maxRecDepth 100000 in
set_option maxHeartbeats 4000000 in
theorem m_X10_warn {G : zG} {l : Launch} {L : Nat} {P : zP} {M : zM} {t : Nat} (hv : CV L P M t) : AM G l yX10_warn mdX10_warn [aR 2] (LAY L) P M (zany (LAY L) P (fun r M' => Cn t M M' ∧ r = wnF (fun j => kset (hbC M t j) j) (M t 2).toNat (b_ishl 1 (M t 2) - 1).toNat 0 (b_ishl 1 (M t 2) - 1))) := by
  obtain ⟨hc, hi, hxt, hnr, hhr⟩ := id hv
  obtain ⟨hP, hTp, hT, ht, hS, ha⟩ := id hc
  have q1 := hi.1.1
  have sg := st_guess L hP
  have sn := st_now L hP
  refine AM.go [some (aR 2), none, none, none] rfl (Nat.le_of_ble_eq_true rfl) ?_ (by decide) rfl rfl
  refine a_iconst dX10_warn_0 ?_
  refine c_istoren (ls' := [_, _, _, _]) dX10_warn_1 (by decide) rfl rfl ?_
  refine flX10_warn (h := 0) (nn := 0) hv (M t 2).toNat 0 M (by omega) (by omega) (Cn.rf hv) (fun j j0 j1 => by omega) (fun M1 h1 h2 => ?_)
  have hv1 := h1.cv hv
  have q9 := shl1 (h := M t 2) (by omega) (by omega)
  refine a_iconst dX10_warn_41 ?_
  refine a_aloadn dX10_warn_42 rfl ?_
  refine a_getR (j' := 2) (y := t) dX10_warn_43 flX10_16 rfl rfl (L2 L) hxt ?_
  refine b_getI (j' := 2) dX10_warn_46 flX10_118 rfl rfl hT.1.2.1 (fun hr46 => ?_)
  have e46 : M1 t 2 = M t 2 := by rw [h1.1 t (by omega)]
  rw [e46]
  refine a_ishl dX10_warn_49 ?_
  refine a_iconst dX10_warn_50 ?_
  refine a_isub dX10_warn_51 ?_
  refine c_istoren (ls' := [_, _, _, _]) dX10_warn_52 (by decide) rfl rfl ?_
  refine a_iloadn dX10_warn_53 rfl ?_
  refine c_istoren (ls' := [_, _, _, _]) dX10_warn_54 (by decide) rfl rfl ?_
  refine a_iconst dX10_warn_55 ?_
  refine c_istoren (ls' := [_, _, _, _]) dX10_warn_56 (by decide) rfl rfl ?_
  refine AW.mono2 (lpX10_warn hv1 (al := b_ishl 1 (M t 2) - 1) (by omega) (b_ishl 1 (M t 2) - 1).toNat 0 _ (by omega) (by omega) (by omega)) ?_
  rintro r lay P' M' ⟨z1, z2, rfl, x, z3, z4⟩
  refine ⟨z1, z2, x, z3, h1, ?_⟩
  rw [z4, e46]
  exact wnF_cong (fun j j0 j1 => h2 j j0 (by omega)) _ _ _
