set_option maxRecDepth 100000 in
set_option maxHeartbeats 4000000 in
theorem m_X4_readTurn {G : zG} {l : Launch} {L : Nat} {P : zP} {M : zM} {t : Nat} (hP : PFok P) (h42 : P 42 1 = some t) (hT : ToA L P t) (ht : t = 4 ∨ t = 23) (hI : ToI M t) (hv : TV M) (hs : M 43 9 ≠ 0) (h0 : M 42 6 = 0) (rV : inR (lwM (M t 6) 10 M 43 11)) : AM G l yX4_readTurn mdX4_readTurn [aR 42] (LAY L) P M (zdet none (LAY L) P (rtM t M)) := by
  have q1 := hI.1
  have q6 := hI.2.1
  have q10 := hI.2.2.1
  refine AM.go [some (aR 42), none, none, none] rfl (Nat.le_of_ble_eq_true rfl) ?_ (by decide) rfl rfl
  refine a_aloadn dX4_readTurn_0 rfl ?_
  refine a_aloadn dX4_readTurn_1 rfl ?_
  refine a_getR (j' := 1) (y := t) dX4_readTurn_2 flX4_26 rfl rfl (L42 L) h42 ?_
  refine b_getI (j' := 6) dX4_readTurn_5 flX4_123 rfl rfl hT.1.2.1 (fun hr5 => ?_)
  refine a_bipush (w := 10) dX4_readTurn_8 (by decide) ?_
  refine a_callVv (as := [_, _]) (q := 42) dX4_readTurn_10 mvX4_109 ⟨by decide, by decide⟩ (L42 L) rfl rfl rfl (Nat.le_of_ble_eq_true rfl) ⟨rfl, rfl⟩ ⟨by decide, by decide⟩ (m_X4_takeLineWord hP ⟨by omega, by omega⟩ ⟨by omega, by omega⟩ hv hs) ?_
  obtain ⟨M1, e1⟩ : ∃ M1, M1 = lwM (M t 6) 10 M := ⟨_, rfl⟩
  rw [← e1]
  have v1 : TV M1 := by rw [e1]; exact hv.lw hs _ _
  have r1 : ∀ k : Nat, t ≤ k → k ≤ t + 18 → M1 k = M k := fun k h1 h2 => by rw [e1]; exact lwM_n _ _ _ (by omega) (by omega)
  have i1 : ToI M1 t := hI.eq r1
  refine a_aloadn dX4_readTurn_13 rfl ?_
  refine a_getR (j' := 1) (y := t) dX4_readTurn_14 flX4_26 rfl rfl (L42 L) h42 ?_
  refine a_aloadn dX4_readTurn_17 rfl ?_
  refine a_iconst dX4_readTurn_18 ?_
  refine a_callV (as := [_]) (q := 42) dX4_readTurn_19 mvX4_113 ⟨by decide, by decide⟩ (L42 L) rfl rfl rfl (Nat.le_of_ble_eq_true rfl) ⟨rfl, rfl⟩ ⟨by decide, by decide⟩ (m_X4_takeName hP h42 hT ht i1 v1 (Or.inl rfl)) ?_
  obtain ⟨M2, e2⟩ : ∃ M2, M2 = nmM9 t 0 M1 := ⟨_, rfl⟩
  rw [← e2]
  have v2 : TV M2 := by rw [e2]; exact v1.tn _ _
  have r2 : ∀ k : Nat, t ≤ k → k ≤ t + 18 → M2 k = M k := fun k h1 h2 => by rw [e2, nmM9_n _ _ _ (by omega) (by omega)]; exact r1 k h1 h2
  have i2 : ToI M2 t := hI.eq r2
  refine a_callV (as := [_]) (q := t) dX4_readTurn_22 mvX4_102 ⟨by decide, by decide⟩ hT.1.2.1 rfl rfl rfl (Nat.le_of_ble_eq_true rfl) ⟨rfl, rfl⟩ ⟨by decide, by decide⟩ (m_X8_houseOf hT i2 (tnV_in (by rw [e1]; exact rV))) ?_
  have hh := hoT_in i2 (tnV M1)
  refine a_stk (st' := [aI (hoT t M2 (tnV M1))]) rfl ?_
  refine c_istoren (ls' := [_, _, _, _]) dX4_readTurn_25 (by decide) rfl rfl ?_
  refine a_aloadn dX4_readTurn_26 rfl ?_
  refine a_iconst dX4_readTurn_27 ?_
  refine a_bipush (w := 99) dX4_readTurn_28 (by decide) ?_
  refine a_callV (as := [_, _]) (q := 42) dX4_readTurn_30 mvX4_117 ⟨by decide, by decide⟩ (L42 L) rfl rfl rfl (Nat.le_of_ble_eq_true rfl) ⟨rfl, rfl⟩ ⟨by decide, by decide⟩ (m_X4_takeNumber hP ⟨by omega, by omega⟩ ⟨by omega, by omega⟩ v2) ?_
  obtain ⟨M3, e3⟩ : ∃ M3, M3 = tkM 0 99 M2 := ⟨_, rfl⟩
  rw [← e3]
  have v3 : TV M3 := by rw [e3]; exact v2.tk _ _
  have r3 : ∀ k : Nat, t ≤ k → k ≤ t + 18 → M3 k = M k := fun k h1 h2 => by rw [e3, tkM_n _ _ _ (by omega) (by omega)]; exact r2 k h1 h2
  refine c_istoren (ls' := [_, _, _, _]) dX4_readTurn_33 (by decide) rfl rfl ?_
  refine a_aloadn dX4_readTurn_34 rfl ?_
  refine a_iconst dX4_readTurn_35 ?_
  refine a_bipush (w := 99) dX4_readTurn_36 (by decide) ?_
  refine a_callV (as := [_, _]) (q := 42) dX4_readTurn_38 mvX4_117 ⟨by decide, by decide⟩ (L42 L) rfl rfl rfl (Nat.le_of_ble_eq_true rfl) ⟨rfl, rfl⟩ ⟨by decide, by decide⟩ (m_X4_takeNumber hP ⟨by omega, by omega⟩ ⟨by omega, by omega⟩ v3) ?_
  obtain ⟨M4, e4⟩ : ∃ M4, M4 = tkM 0 99 M3 := ⟨_, rfl⟩
  rw [← e4]
  have v4 : TV M4 := by rw [e4]; exact v3.tk _ _
  have r4 : ∀ k : Nat, t ≤ k → k ≤ t + 18 → M4 k = M k := fun k h1 h2 => by rw [e4, tkM_n _ _ _ (by omega) (by omega)]; exact r3 k h1 h2
  refine c_istoren (ls' := [_, _, _, _]) dX4_readTurn_41 (by decide) rfl rfl ?_
  refine a_aloadn dX4_readTurn_42 rfl ?_
  refine b_getI (j' := 6) dX4_readTurn_43 flX4_43 rfl rfl (L42 L) (fun hr43 => ?_)
  refine a_if_ne (tgt := 59) dX4_readTurn_46 (by decide) ⟨by omega, by omega⟩ (fun hb46 => ?_) (fun hb46 => ?_)
  · exact a_return dX4_readTurn_59 rfl rfl rfl (zdet_V (by unfold rtM; simp only []; rw [← e1, ← e2, ← e3, ← e4]; first | (rw [if_pos (by omega)]; done) | (rw [if_neg (by omega)]; done)))
  · refine a_aloadn dX4_readTurn_49 rfl ?_
    refine a_getR (j' := 1) (y := t) dX4_readTurn_50 flX4_26 rfl rfl (L42 L) h42 ?_
    refine a_iloadn dX4_readTurn_53 rfl ?_
    refine a_iloadn dX4_readTurn_54 rfl ?_
    refine a_iloadn dX4_readTurn_55 rfl ?_
    have g1 := lnV_in 0 99 (M := M2) (by omega)
    have g2 := lnV_in 0 99 (M := M3) (by omega)
    have k4 : M4 42 6 = 0 := by omega
    have k3 : M3 42 6 = 0 := tk_f (by rw [← e4]; exact k4)
    have k2 : M2 42 6 = 0 := tk_f (by rw [← e3]; exact k3)
    have k1 := tn_ok (t := t) (b := 0) (M := M1) (by rw [← e2]; exact k2)
    have hlt := (lwM_ok h0 (by rw [← e1]; exact k1.1)).1
    refine a_callVv (as := [_, _, _]) (q := t) dX4_readTurn_56 mvX4_126 ⟨by decide, by decide⟩ hT.1.2.1 rfl rfl rfl (Nat.le_of_ble_eq_true rfl) ⟨rfl, rfl⟩ ⟨by decide, by decide⟩ (m_X8_addTurn hT (by rw [r4 t (by omega) (by omega)]; omega) ⟨by omega, by omega⟩ ⟨by omega, by omega⟩ ⟨by omega, by omega⟩) ?_
    exact a_return dX4_readTurn_59 rfl rfl rfl (zdet_V (by unfold rtM; simp only []; rw [← e1, ← e2, ← e3, ← e4]; first | (rw [if_pos (by omega)]; done) | (rw [if_neg (by omega)]; done)))

set_option maxRecDepth 100000 in
set_option maxHeartbeats 4000000 in
theorem tlX4_readSound {G : zG} {l : Launch} {L : Nat} {P : zP} {t : Nat} {M M1 M2 M3 M4 : zM} (hP : PFok P) (h42 : P 42 1 = some t) (hT : ToA L P t) (ht : t = 4 ∨ t = 23) (hI : ToI M t) (hv : TV M) (hs : M 43 9 ≠ 0) (h0 : M 42 6 = 0) (e1 : M1 = lwM (M t 10) 12 M) (e2 : M2 = nmM9 t 0 M1) (e3 : M3 = lnM 0 99 M2) (e4 : M4 = if M3 42 6 = 0 ∧ sdT t M3 (hoT t M2 (tnV M1)) (lnV 0 99 M2) ≠ 0 then flM M3 3 else M3) (v4 : TV M4) (r4 : ∀ k : Nat, t ≤ k → k ≤ t + 18 → M4 k = M k) (m4 : M4 42 6 = 0 → M3 42 6 = 0 ∧ M4 = M3 ∧ sdT t M3 (hoT t M2 (tnV M1)) (lnV 0 99 M2) = 0) (hh : -1 ≤ hoT t M2 (tnV M1) ∧ hoT t M2 (tnV M1) ≤ 5) (g1 : 0 ≤ lnV 0 99 M2 ∧ lnV 0 99 M2 ≤ 99) : AW G l mdX4_readSound (zdet none (LAY L) P (rdM t M)) 58 [some (aR 42), some (aI (hoT t M2 (tnV M1))), some (aI (lnV 0 99 M2)), none] [] (LAY L) P M4 0 0 := by
  have q1 := hI.1
  have q6 := hI.2.1
  have q10 := hI.2.2.1
  refine a_aloadn dX4_readSound_58 rfl ?_
  refine b_getI (j' := 6) dX4_readSound_59 flX4_43 rfl rfl (L42 L) (fun hr59 => ?_)
  refine a_if_ne (tgt := 72) dX4_readSound_62 (by decide) ⟨by omega, by omega⟩ (fun hb62 => ?_) (fun hb62 => ?_)
  · obtain ⟨M5, e5⟩ : ∃ M5, M5 = if M4 42 6 = 0 then stT M4 else M4 := ⟨_, rfl⟩
    refine a_mem (M' := M5) (by rw [e5]; first | (rw [if_pos (by omega)]; done) | (rw [if_neg (by omega)]; done)) ?_
    have v5 : TV M5 := by
      rw [e5]
      by_cases k4 : M4 42 6 = 0
      · rw [if_pos k4]
        have k3 := m4 k4
        have k2 := lnM_ok (lo := 0) (hi := 99) (M := M2) (by rw [← e3]; exact k3.1)
        exact v4.st (by rw [k3.2.1, e3, lnM_n _ _ _ (by decide)]; omega)
      · rw [if_neg k4]; exact v4
    have r5 : ∀ k : Nat, t ≤ k → k ≤ t + 18 → M5 k = M k := fun k h1 h2 => by
      rw [e5]
      by_cases k4 : M4 42 6 = 0
      · rw [if_pos k4, stT_n _ (by omega)]; exact r4 k h1 h2
      · rw [if_neg k4]; exact r4 k h1 h2
    refine a_aloadn dX4_readSound_72 rfl ?_
    refine a_iconst dX4_readSound_73 ?_
    refine a_bipush (w := 9) dX4_readSound_74 (by decide) ?_
    refine a_callV (as := [_, _]) (q := 42) dX4_readSound_76 mvX4_117 ⟨by decide, by decide⟩ (L42 L) rfl rfl rfl (Nat.le_of_ble_eq_true rfl) ⟨rfl, rfl⟩ ⟨by decide, by decide⟩ (m_X4_takeNumber hP ⟨by omega, by omega⟩ ⟨by omega, by omega⟩ v5) ?_
    obtain ⟨M6, e6⟩ : ∃ M6, M6 = tkM 1 9 M5 := ⟨_, rfl⟩
    rw [← e6]
    have v6 : TV M6 := by rw [e6]; exact v5.tk _ _
    have r6 : ∀ k : Nat, t ≤ k → k ≤ t + 18 → M6 k = M k := fun k h1 h2 => by rw [e6, tkM_n _ _ _ (by omega) (by omega)]; exact r5 k h1 h2
    refine c_istoren (ls' := [_, _, _, _]) dX4_readSound_79 (by decide) rfl rfl ?_
    refine a_aloadn dX4_readSound_80 rfl ?_
    refine b_getI (j' := 6) dX4_readSound_81 flX4_43 rfl rfl (L42 L) (fun hr81 => ?_)
    refine a_if_ne (tgt := 97) dX4_readSound_84 (by decide) ⟨by omega, by omega⟩ (fun hb84 => ?_) (fun hb84 => ?_)
    · exact a_return dX4_readSound_97 rfl rfl rfl (zdet_V (by unfold rdM; simp only []; rw [← e1, ← e2, ← e3, ← e4, ← e5, ← e6]; first | (rw [if_pos (by omega)]; done) | (rw [if_neg (by omega)]; done)))
    · refine a_aloadn dX4_readSound_87 rfl ?_
      refine a_getR (j' := 1) (y := t) dX4_readSound_88 flX4_26 rfl rfl (L42 L) h42 ?_
      refine a_iloadn dX4_readSound_91 rfl ?_
      refine a_iloadn dX4_readSound_92 rfl ?_
      refine a_iloadn dX4_readSound_93 rfl ?_
      have k6 : M6 42 6 = 0 := by omega
      have k5 : M5 42 6 = 0 := tk_f (by rw [← e6]; exact k6)
      have k4 : M4 42 6 = 0 := by
        by_cases c : M4 42 6 = 0
        · exact c
        · rw [e5, if_neg c] at k5; exact k5
      have k3 := m4 k4
      have k2 := lnM_ok (lo := 0) (hi := 99) (M := M2) (by rw [← e3]; exact k3.1)
      have k1 := tn_ok (t := t) (b := 0) (M := M1) (by rw [← e2]; exact k2.2.1)
      have hlt := (lwM_ok h0 (by rw [← e1]; exact k1.1)).1
      have g2 := lnV_in 1 9 (M := M5) (by omega)
      refine a_callVv (as := [_, _, _]) (q := t) dX4_readSound_94 mvX4_135 ⟨by decide, by decide⟩ hT.1.2.1 rfl rfl rfl (Nat.le_of_ble_eq_true rfl) ⟨rfl, rfl⟩ ⟨by decide, by decide⟩ (m_X8_addSound hT (by rw [r6 t (by omega) (by omega)]; omega) ⟨by omega, by omega⟩ ⟨by omega, by omega⟩ ⟨by omega, by omega⟩) ?_
      exact a_return dX4_readSound_97 rfl rfl rfl (zdet_V (by unfold rdM; simp only []; rw [← e1, ← e2, ← e3, ← e4, ← e5, ← e6]; first | (rw [if_pos (by omega)]; done) | (rw [if_neg (by omega)]; done)))
  · refine a_aloadn dX4_readSound_65 rfl ?_
    refine a_getR (j' := 0) (y := 43) dX4_readSound_66 flX4_12 rfl rfl (L42 L) (p42_0 hP) ?_
    have k4 : M4 42 6 = 0 := by omega
    have k3 := m4 k4
    have k2 := lnM_ok (lo := 0) (hi := 99) (M := M2) (by rw [← e3]; exact k3.1)
    have s4 : M4 43 9 ≠ 0 := by rw [k3.2.1, e3, lnM_n _ _ _ (by decide)]; omega
    refine a_callVv (as := []) (q := 43) dX4_readSound_69 mvX4_88 ⟨by decide, by decide⟩ (L43 L) rfl rfl rfl (Nat.le_of_ble_eq_true rfl) ⟨rfl, rfl⟩ ⟨by decide, by decide⟩ (m_X7_step hP (v4.lt s4)) ?_
    obtain ⟨M5, e5⟩ : ∃ M5, M5 = if M4 42 6 = 0 then stT M4 else M4 := ⟨_, rfl⟩
    refine a_mem (M' := M5) (by rw [e5]; first | (rw [if_pos (by omega)]; done) | (rw [if_neg (by omega)]; done)) ?_
    have v5 : TV M5 := by
      rw [e5]
      by_cases k4 : M4 42 6 = 0
      · rw [if_pos k4]
        have k3 := m4 k4
        have k2 := lnM_ok (lo := 0) (hi := 99) (M := M2) (by rw [← e3]; exact k3.1)
        exact v4.st (by rw [k3.2.1, e3, lnM_n _ _ _ (by decide)]; omega)
      · rw [if_neg k4]; exact v4
    have r5 : ∀ k : Nat, t ≤ k → k ≤ t + 18 → M5 k = M k := fun k h1 h2 => by
      rw [e5]
      by_cases k4 : M4 42 6 = 0
      · rw [if_pos k4, stT_n _ (by omega)]; exact r4 k h1 h2
      · rw [if_neg k4]; exact r4 k h1 h2
    refine a_aloadn dX4_readSound_72 rfl ?_
    refine a_iconst dX4_readSound_73 ?_
    refine a_bipush (w := 9) dX4_readSound_74 (by decide) ?_
    refine a_callV (as := [_, _]) (q := 42) dX4_readSound_76 mvX4_117 ⟨by decide, by decide⟩ (L42 L) rfl rfl rfl (Nat.le_of_ble_eq_true rfl) ⟨rfl, rfl⟩ ⟨by decide, by decide⟩ (m_X4_takeNumber hP ⟨by omega, by omega⟩ ⟨by omega, by omega⟩ v5) ?_
    obtain ⟨M6, e6⟩ : ∃ M6, M6 = tkM 1 9 M5 := ⟨_, rfl⟩
    rw [← e6]
    have v6 : TV M6 := by rw [e6]; exact v5.tk _ _
    have r6 : ∀ k : Nat, t ≤ k → k ≤ t + 18 → M6 k = M k := fun k h1 h2 => by rw [e6, tkM_n _ _ _ (by omega) (by omega)]; exact r5 k h1 h2
    refine c_istoren (ls' := [_, _, _, _]) dX4_readSound_79 (by decide) rfl rfl ?_
    refine a_aloadn dX4_readSound_80 rfl ?_
    refine b_getI (j' := 6) dX4_readSound_81 flX4_43 rfl rfl (L42 L) (fun hr81 => ?_)
    refine a_if_ne (tgt := 97) dX4_readSound_84 (by decide) ⟨by omega, by omega⟩ (fun hb84 => ?_) (fun hb84 => ?_)
    · exact a_return dX4_readSound_97 rfl rfl rfl (zdet_V (by unfold rdM; simp only []; rw [← e1, ← e2, ← e3, ← e4, ← e5, ← e6]; first | (rw [if_pos (by omega)]; done) | (rw [if_neg (by omega)]; done)))
    · refine a_aloadn dX4_readSound_87 rfl ?_
      refine a_getR (j' := 1) (y := t) dX4_readSound_88 flX4_26 rfl rfl (L42 L) h42 ?_
      refine a_iloadn dX4_readSound_91 rfl ?_
      refine a_iloadn dX4_readSound_92 rfl ?_
      refine a_iloadn dX4_readSound_93 rfl ?_
      have k6 : M6 42 6 = 0 := by omega
      have k5 : M5 42 6 = 0 := tk_f (by rw [← e6]; exact k6)
      have k4 : M4 42 6 = 0 := by
        by_cases c : M4 42 6 = 0
        · exact c
        · rw [e5, if_neg c] at k5; exact k5
      have k3 := m4 k4
      have k2 := lnM_ok (lo := 0) (hi := 99) (M := M2) (by rw [← e3]; exact k3.1)
      have k1 := tn_ok (t := t) (b := 0) (M := M1) (by rw [← e2]; exact k2.2.1)
      have hlt := (lwM_ok h0 (by rw [← e1]; exact k1.1)).1
      have g2 := lnV_in 1 9 (M := M5) (by omega)
      refine a_callVv (as := [_, _, _]) (q := t) dX4_readSound_94 mvX4_135 ⟨by decide, by decide⟩ hT.1.2.1 rfl rfl rfl (Nat.le_of_ble_eq_true rfl) ⟨rfl, rfl⟩ ⟨by decide, by decide⟩ (m_X8_addSound hT (by rw [r6 t (by omega) (by omega)]; omega) ⟨by omega, by omega⟩ ⟨by omega, by omega⟩ ⟨by omega, by omega⟩) ?_
      exact a_return dX4_readSound_97 rfl rfl rfl (zdet_V (by unfold rdM; simp only []; rw [← e1, ← e2, ← e3, ← e4, ← e5, ← e6]; first | (rw [if_pos (by omega)]; done) | (rw [if_neg (by omega)]; done)))

set_option maxRecDepth 100000 in
set_option maxHeartbeats 4000000 in
theorem m_X4_readSound {G : zG} {l : Launch} {L : Nat} {P : zP} {M : zM} {t : Nat} (hP : PFok P) (h42 : P 42 1 = some t) (hT : ToA L P t) (ht : t = 4 ∨ t = 23) (hI : ToI M t) (hv : TV M) (hs : M 43 9 ≠ 0) (h0 : M 42 6 = 0) (rV : inR (lwM (M t 10) 12 M 43 11)) : AM G l yX4_readSound mdX4_readSound [aR 42] (LAY L) P M (zdet none (LAY L) P (rdM t M)) := by
  have q1 := hI.1
  have q6 := hI.2.1
  have q10 := hI.2.2.1
  refine AM.go [some (aR 42), none, none, none] rfl (Nat.le_of_ble_eq_true rfl) ?_ (by decide) rfl rfl
  refine a_aloadn dX4_readSound_0 rfl ?_
  refine a_aloadn dX4_readSound_1 rfl ?_
  refine a_getR (j' := 1) (y := t) dX4_readSound_2 flX4_26 rfl rfl (L42 L) h42 ?_
  refine b_getI (j' := 10) dX4_readSound_5 flX4_129 rfl rfl hT.1.2.1 (fun hr5 => ?_)
  refine a_bipush (w := 12) dX4_readSound_8 (by decide) ?_
  refine a_callVv (as := [_, _]) (q := 42) dX4_readSound_10 mvX4_109 ⟨by decide, by decide⟩ (L42 L) rfl rfl rfl (Nat.le_of_ble_eq_true rfl) ⟨rfl, rfl⟩ ⟨by decide, by decide⟩ (m_X4_takeLineWord hP ⟨by omega, by omega⟩ ⟨by omega, by omega⟩ hv hs) ?_
  obtain ⟨M1, e1⟩ : ∃ M1, M1 = lwM (M t 10) 12 M := ⟨_, rfl⟩
  rw [← e1]
  have v1 : TV M1 := by rw [e1]; exact hv.lw hs _ _
  have r1 : ∀ k : Nat, t ≤ k → k ≤ t + 18 → M1 k = M k := fun k h1 h2 => by rw [e1]; exact lwM_n _ _ _ (by omega) (by omega)
  have i1 : ToI M1 t := hI.eq r1
  refine a_aloadn dX4_readSound_13 rfl ?_
  refine a_getR (j' := 1) (y := t) dX4_readSound_14 flX4_26 rfl rfl (L42 L) h42 ?_
  refine a_aloadn dX4_readSound_17 rfl ?_
  refine a_iconst dX4_readSound_18 ?_
  refine a_callV (as := [_]) (q := 42) dX4_readSound_19 mvX4_113 ⟨by decide, by decide⟩ (L42 L) rfl rfl rfl (Nat.le_of_ble_eq_true rfl) ⟨rfl, rfl⟩ ⟨by decide, by decide⟩ (m_X4_takeName hP h42 hT ht i1 v1 (Or.inl rfl)) ?_
  obtain ⟨M2, e2⟩ : ∃ M2, M2 = nmM9 t 0 M1 := ⟨_, rfl⟩
  rw [← e2]
  have v2 : TV M2 := by rw [e2]; exact v1.tn _ _
  have r2 : ∀ k : Nat, t ≤ k → k ≤ t + 18 → M2 k = M k := fun k h1 h2 => by rw [e2, nmM9_n _ _ _ (by omega) (by omega)]; exact r1 k h1 h2
  have i2 : ToI M2 t := hI.eq r2
  refine a_callV (as := [_]) (q := t) dX4_readSound_22 mvX4_102 ⟨by decide, by decide⟩ hT.1.2.1 rfl rfl rfl (Nat.le_of_ble_eq_true rfl) ⟨rfl, rfl⟩ ⟨by decide, by decide⟩ (m_X8_houseOf hT i2 (tnV_in (by rw [e1]; exact rV))) ?_
  have hh := hoT_in i2 (tnV M1)
  refine a_stk (st' := [aI (hoT t M2 (tnV M1))]) rfl ?_
  refine c_istoren (ls' := [_, _, _, _]) dX4_readSound_25 (by decide) rfl rfl ?_
  refine a_aloadn dX4_readSound_26 rfl ?_
  refine a_iconst dX4_readSound_27 ?_
  refine a_bipush (w := 99) dX4_readSound_28 (by decide) ?_
  refine a_callV (as := [_, _]) (q := 42) dX4_readSound_30 mvX4_98 ⟨by decide, by decide⟩ (L42 L) rfl rfl rfl (Nat.le_of_ble_eq_true rfl) ⟨rfl, rfl⟩ ⟨by decide, by decide⟩ (m_X4_lookNumber hP ⟨by omega, by omega⟩ ⟨by omega, by omega⟩) ?_
  obtain ⟨M3, e3⟩ : ∃ M3, M3 = lnM 0 99 M2 := ⟨_, rfl⟩
  rw [← e3]
  have v3 : TV M3 := by rw [e3]; exact v2.ln _ _
  have r3 : ∀ k : Nat, t ≤ k → k ≤ t + 18 → M3 k = M k := fun k h1 h2 => by rw [e3, lnM_n _ _ _ (by omega)]; exact r2 k h1 h2
  have i3 : ToI M3 t := hI.eq r3
  have g1 := lnV_in 0 99 (M := M2) (by omega)
  refine c_istoren (ls' := [_, _, _, _]) dX4_readSound_33 (by decide) rfl rfl ?_
  refine a_aloadn dX4_readSound_34 rfl ?_
  refine b_getI (j' := 6) dX4_readSound_35 flX4_43 rfl rfl (L42 L) (fun hr35 => ?_)
  refine a_if_ne (tgt := 58) dX4_readSound_38 (by decide) ⟨by omega, by omega⟩ (fun hb38 => ?_) (fun hb38 => ?_)
  · obtain ⟨M4, e4⟩ : ∃ M4, M4 = if M3 42 6 = 0 ∧ sdT t M3 (hoT t M2 (tnV M1)) (lnV 0 99 M2) ≠ 0 then flM M3 3 else M3 := ⟨_, rfl⟩
    refine a_mem (M' := M4) (by rw [e4]; first | (rw [if_pos (by omega)]; done) | (rw [if_neg (by omega)]; done)) ?_
    have v4 : TV M4 := by rw [e4]; split; exact v3.fl 3; exact v3
    have r4 : ∀ k : Nat, t ≤ k → k ≤ t + 18 → M4 k = M k := fun k h1 h2 => by rw [e4]; split; (rw [flM_n _ _ (by omega)]; exact r3 k h1 h2); exact r3 k h1 h2
    have m4 : M4 42 6 = 0 → M3 42 6 = 0 ∧ M4 = M3 ∧ sdT t M3 (hoT t M2 (tnV M1)) (lnV 0 99 M2) = 0 := fun z => by
      rw [e4] at z ⊢
      by_cases c : M3 42 6 = 0 ∧ sdT t M3 (hoT t M2 (tnV M1)) (lnV 0 99 M2) ≠ 0
      · rw [if_pos c, (flM_6 3 c.1).1] at z; omega
      · rw [if_neg c] at z ⊢; exact ⟨z, rfl, by omega⟩
    exact tlX4_readSound hP h42 hT ht hI hv hs h0 e1 e2 e3 e4 v4 r4 m4 (by omega) g1
  · refine a_aloadn dX4_readSound_41 rfl ?_
    refine a_getR (j' := 1) (y := t) dX4_readSound_42 flX4_26 rfl rfl (L42 L) h42 ?_
    refine a_iloadn dX4_readSound_45 rfl ?_
    refine a_iloadn dX4_readSound_46 rfl ?_
    refine a_callV (as := [_, _]) (q := t) dX4_readSound_47 mvX4_132 ⟨by decide, by decide⟩ hT.1.2.1 rfl rfl rfl (Nat.le_of_ble_eq_true rfl) ⟨rfl, rfl⟩ ⟨by decide, by decide⟩ (m_X8_kindAt hT i3 ⟨by omega, by omega⟩ ⟨by omega, by omega⟩) ?_
    have hz := zsnd_in () () () (hoT t M2 (tnV M1)) (lnV 0 99 M2) i3 (M3 t 10).toNat 0 (by omega) (by have := i3.2.2.1; omega)
    refine a_stk (st' := [aI (sdT t M3 (hoT t M2 (tnV M1)) (lnV 0 99 M2))]) rfl ?_
    refine a_if_eq (tgt := 58) dX4_readSound_50 (by decide) hz (fun hb50 => ?_) (fun hb50 => ?_)
    · obtain ⟨M4, e4⟩ : ∃ M4, M4 = if M3 42 6 = 0 ∧ sdT t M3 (hoT t M2 (tnV M1)) (lnV 0 99 M2) ≠ 0 then flM M3 3 else M3 := ⟨_, rfl⟩
      refine a_mem (M' := M4) (by rw [e4]; first | (rw [if_pos (by omega)]; done) | (rw [if_neg (by omega)]; done)) ?_
      have v4 : TV M4 := by rw [e4]; split; exact v3.fl 3; exact v3
      have r4 : ∀ k : Nat, t ≤ k → k ≤ t + 18 → M4 k = M k := fun k h1 h2 => by rw [e4]; split; (rw [flM_n _ _ (by omega)]; exact r3 k h1 h2); exact r3 k h1 h2
      have m4 : M4 42 6 = 0 → M3 42 6 = 0 ∧ M4 = M3 ∧ sdT t M3 (hoT t M2 (tnV M1)) (lnV 0 99 M2) = 0 := fun z => by
        rw [e4] at z ⊢
        by_cases c : M3 42 6 = 0 ∧ sdT t M3 (hoT t M2 (tnV M1)) (lnV 0 99 M2) ≠ 0
        · rw [if_pos c, (flM_6 3 c.1).1] at z; omega
        · rw [if_neg c] at z ⊢; exact ⟨z, rfl, by omega⟩
      exact tlX4_readSound hP h42 hT ht hI hv hs h0 e1 e2 e3 e4 v4 r4 m4 (by omega) g1
    · refine a_aloadn dX4_readSound_53 rfl ?_
      refine a_iconst dX4_readSound_54 ?_
      refine a_callVv (as := [_]) (q := 42) dX4_readSound_55 mvX4_80 ⟨by decide, by decide⟩ (L42 L) rfl rfl rfl (Nat.le_of_ble_eq_true rfl) ⟨rfl, rfl⟩ ⟨by decide, by decide⟩ (m_X4_fail hP ⟨by omega, by omega⟩) ?_
      obtain ⟨M4, e4⟩ : ∃ M4, M4 = if M3 42 6 = 0 ∧ sdT t M3 (hoT t M2 (tnV M1)) (lnV 0 99 M2) ≠ 0 then flM M3 3 else M3 := ⟨_, rfl⟩
      refine a_mem (M' := M4) (by rw [e4]; first | (rw [if_pos (by omega)]; done) | (rw [if_neg (by omega)]; done)) ?_
      have v4 : TV M4 := by rw [e4]; split; exact v3.fl 3; exact v3
      have r4 : ∀ k : Nat, t ≤ k → k ≤ t + 18 → M4 k = M k := fun k h1 h2 => by rw [e4]; split; (rw [flM_n _ _ (by omega)]; exact r3 k h1 h2); exact r3 k h1 h2
      have m4 : M4 42 6 = 0 → M3 42 6 = 0 ∧ M4 = M3 ∧ sdT t M3 (hoT t M2 (tnV M1)) (lnV 0 99 M2) = 0 := fun z => by
        rw [e4] at z ⊢
        by_cases c : M3 42 6 = 0 ∧ sdT t M3 (hoT t M2 (tnV M1)) (lnV 0 99 M2) ≠ 0
        · rw [if_pos c, (flM_6 3 c.1).1] at z; omega
        · rw [if_neg c] at z ⊢; exact ⟨z, rfl, by omega⟩
      exact tlX4_readSound hP h42 hT ht hI hv hs h0 e1 e2 e3 e4 v4 r4 m4 (by omega) g1

set_option maxRecDepth 100000 in
set_option maxHeartbeats 4000000 in
theorem m_X4_readSetting {G : zG} {l : Launch} {L : Nat} {P : zP} {M : zM} {t : Nat} {k lo hi : Int} (hP : PFok P) (h42 : P 42 1 = some t) (hT : ToA L P t) (ht : t = 4 ∨ t = 23) (hI : ToI M t) (hv : TV M) (hs : M 43 9 ≠ 0) (h0 : M 42 6 = 0) (rk : 0 ≤ k ∧ k ≤ 3) (rl : inR lo) (rh : inR hi) (hlh : lo ≤ hi) : AM G l yX4_readSetting mdX4_readSetting [aR 42, aI k, aI lo, aI hi] (LAY L) P M (zdet none (LAY L) P (reM t k lo hi M)) := by
  refine AM.go [some (aR 42), some (aI k), some (aI lo), some (aI hi), none] rfl (Nat.le_of_ble_eq_true rfl) ?_ (by decide) rfl rfl
  refine a_aloadn dX4_readSetting_0 rfl ?_
  refine a_getR (j' := 1) (y := t) dX4_readSetting_1 flX4_26 rfl rfl (L42 L) h42 ?_
  refine a_getR (j' := 15) (y := (t + 11)) dX4_readSetting_4 flX4_138 rfl rfl hT.1.2.1 hT.1.2.2.2.2.2.2.2.2.2.2.2.2.1.2 ?_
  refine a_iloadn dX4_readSetting_7 rfl ?_
  refine b_zald (N := 4) dX4_readSetting_8 hT.1.2.2.2.2.2.2.2.2.2.2.2.2.1.1 (by decide) (by omega) (by omega) (fun hr8 => ?_)
  refine a_if_eq (tgt := 18) dX4_readSetting_9 (by decide) (by rcases hr8 with z | z <;> exact ⟨by omega, by omega⟩) (fun hb9 => ?_) (fun hb9 => ?_)
  · refine a_aloadn dX4_readSetting_18 rfl ?_
    refine a_getR (j' := 0) (y := 43) dX4_readSetting_19 flX4_12 rfl rfl (L42 L) (p42_0 hP) ?_
    refine a_callVv (as := []) (q := 43) dX4_readSetting_22 mvX4_88 ⟨by decide, by decide⟩ (L43 L) rfl rfl rfl (Nat.le_of_ble_eq_true rfl) ⟨rfl, rfl⟩ ⟨by decide, by decide⟩ (m_X7_step hP (hv.lt hs)) ?_
    obtain ⟨M1, e1⟩ : ∃ M1, M1 = stT M := ⟨_, rfl⟩
    rw [← e1]
    have v1 : TV M1 := by rw [e1]; exact hv.st hs
    refine a_aloadn dX4_readSetting_25 rfl ?_
    refine a_iloadn dX4_readSetting_26 rfl ?_
    refine a_iloadn dX4_readSetting_27 rfl ?_
    refine a_callV (as := [_, _]) (q := 42) dX4_readSetting_28 mvX4_117 ⟨by decide, by decide⟩ (L42 L) rfl rfl rfl (Nat.le_of_ble_eq_true rfl) ⟨rfl, rfl⟩ ⟨by decide, by decide⟩ (m_X4_takeNumber hP rl rh v1) ?_
    obtain ⟨M2, e2⟩ : ∃ M2, M2 = tkM lo hi M1 := ⟨_, rfl⟩
    rw [← e2]
    have g1 := lnV_in lo hi (M := M1) hlh
    refine c_istore (ls' := [_, _, _, _, _]) dX4_readSetting_31 (by decide) rfl rfl ?_
    refine a_aloadn dX4_readSetting_33 rfl ?_
    refine b_getI (j' := 6) dX4_readSetting_34 flX4_43 rfl rfl (L42 L) (fun hr34 => ?_)
    refine a_if_ne (tgt := 61) dX4_readSetting_37 (by decide) ⟨by omega, by omega⟩ (fun hb37 => ?_) (fun hb37 => ?_)
    · exact a_return dX4_readSetting_61 rfl rfl rfl (zdet_V (by unfold reM; simp only []; rw [if_neg (by omega), ← e1, ← e2]; first | (rw [if_pos (by omega)]; done) | (rw [if_neg (by omega)]; done)))
    · refine a_aloadn dX4_readSetting_40 rfl ?_
      refine a_getR (j' := 1) (y := t) dX4_readSetting_41 flX4_26 rfl rfl (L42 L) h42 ?_
      refine a_getR (j' := 15) (y := (t + 11)) dX4_readSetting_44 flX4_138 rfl rfl hT.1.2.1 hT.1.2.2.2.2.2.2.2.2.2.2.2.2.1.2 ?_
      refine a_iloadn dX4_readSetting_47 rfl ?_
      refine a_iconst dX4_readSetting_48 ?_
      refine a_zast (N := 4) dX4_readSetting_49 hT.1.2.2.2.2.2.2.2.2.2.2.2.2.1.1 (by have h9 := hT.1.1; omega) (by decide) (by omega) (by omega) (by omega) ?_
      refine a_aloadn dX4_readSetting_50 rfl ?_
      refine a_getR (j' := 1) (y := t) dX4_readSetting_51 flX4_26 rfl rfl (L42 L) h42 ?_
      refine a_getR (j' := 14) (y := (t + 10)) dX4_readSetting_54 flX4_142 rfl rfl hT.1.2.1 hT.1.2.2.2.2.2.2.2.2.2.2.2.1.2 ?_
      refine a_iloadn dX4_readSetting_57 rfl ?_
      refine a_iload dX4_readSetting_58 rfl ?_
      refine a_iast (N := 4) dX4_readSetting_60 hT.1.2.2.2.2.2.2.2.2.2.2.2.1.1 (by have h9 := hT.1.1; omega) (by decide) (by omega) (by omega) ⟨by omega, by omega⟩ ?_
      exact a_return dX4_readSetting_61 rfl rfl rfl (zdet_V (by unfold reM; simp only []; rw [if_neg (by omega), ← e1, ← e2]; first | (rw [if_pos (by omega)]; done) | (rw [if_neg (by omega)]; done)))
  · refine a_aloadn dX4_readSetting_12 rfl ?_
    refine a_iconst dX4_readSetting_13 ?_
    refine a_callVv (as := [_]) (q := 42) dX4_readSetting_14 mvX4_80 ⟨by decide, by decide⟩ (L42 L) rfl rfl rfl (Nat.le_of_ble_eq_true rfl) ⟨rfl, rfl⟩ ⟨by decide, by decide⟩ (m_X4_fail hP ⟨by omega, by omega⟩) ?_
    exact a_return dX4_readSetting_17 rfl rfl rfl (zdet_V (by unfold reM; rw [if_pos (by omega)]))

/-- a text's numbers at its beginning -/
def clT (t : Nat) (M M' : zM) : Prop := (∀ i : Int, ¬ (i = 0 ∨ i = 1 ∨ i = 2 ∨ i = 6 ∨ i = 10) → M' t i = M t i) ∧ (M' t 0 = 0 ∧ M' t 1 = 0 ∧ M' t 2 = 0 ∧ M' t 6 = 0 ∧ M' t 10 = 0) ∧ (∀ i : Int, 0 ≤ i → i < 4 → M' (t + 11) i = 0) ∧ (M' (t + 10) 0 = 3 ∧ M' (t + 10) 1 = 2 ∧ M' (t + 10) 2 = 0 ∧ M' (t + 10) 3 = 0) ∧ (M' (t + 13) 1 = 0 ∧ M' (t + 15) 1 = 0 ∧ M' (t + 17) 1 = 0) ∧ ∀ k : Nat, k ≠ t → k ≠ t + 10 → k ≠ t + 11 → k ≠ t + 13 → k ≠ t + 15 → k ≠ t + 17 → M' k = M k

set_option maxRecDepth 100000 in
set_option maxHeartbeats 4000000 in
theorem lpX8_clear1 {G : zG} {l : Launch} {L : Nat} {P : zP} {M0 : zM} {t : Nat} {Z : zZ} (hT : ToA L P t) : ∀ (n : Nat) (i : Int) (M : zM) (g0 : 0 ≤ i) (g1 : i + n = 4) (hf : ∀ k : Nat, k ≠ t + 11 → M k = M0 k) (hj : ∀ j : Int, 0 ≤ j → j < i → M (t + 11) j = 0) (kk : ∀ M' : zM, (∀ k : Nat, k ≠ t + 11 → M' k = M0 k) → (∀ j : Int, 0 ≤ j → j < 4 → M' (t + 11) j = 0) → AW G l mdX8_clear Z 45 [some (aR t), none] [] (LAY L) P M' 0 0), AW G l mdX8_clear Z 27 [some (aR t), some (aI i)] [] (LAY L) P M 0 0 := by
  intro n
  induction n with
  | zero =>
    intro i M g0 g1 hf hj kk
    refine a_iloadn dX8_clear_27 rfl ?_
    refine a_iconst dX8_clear_28 ?_
    refine a_icmp_ge (tgt := 45) dX8_clear_29 (by decide) ⟨by omega, by omega⟩ ⟨by omega, by omega⟩ (fun hb29 => ?_) (fun hb29 => ?_)
    · refine a_forget [1] (ls' := [_, none]) rfl (kk M hf (fun j j0 j1 => hj j j0 (by omega)))
    · exfalso; omega
  | succ n ih =>
    intro i M g0 g1 hf hj kk
    refine a_iloadn dX8_clear_27 rfl ?_
    refine a_iconst dX8_clear_28 ?_
    refine a_icmp_ge (tgt := 45) dX8_clear_29 (by decide) ⟨by omega, by omega⟩ ⟨by omega, by omega⟩ (fun hb29 => ?_) (fun hb29 => ?_)
    · exfalso; omega
    · refine a_aloadn dX8_clear_32 rfl ?_
      refine a_getR (j' := 15) (y := (t + 11)) dX8_clear_33 flX8_42 rfl rfl hT.1.2.1 hT.1.2.2.2.2.2.2.2.2.2.2.2.2.1.2 ?_
      refine a_iloadn dX8_clear_36 rfl ?_
      refine a_iconst dX8_clear_37 ?_
      refine a_zast (N := 4) dX8_clear_38 hT.1.2.2.2.2.2.2.2.2.2.2.2.2.1.1 (by have h9 := hT.1.1; omega) (by decide) (by omega) (by omega) (by omega) ?_
      refine c_iinc (ls' := [_, _]) dX8_clear_39 rfl (by decide) rfl rfl ?_
      refine a_goto (tgt := 27) dX8_clear_42 (by decide) ?_
      refine ih _ _ (by omega) (by omega) (fun k hk => by rw [sm_n hk]; exact hf k hk) (fun j j0 j1 => ?_) kk
      rw [sm_k]
      by_cases ej : j = i
      · subst ej; rw [us_s]
      · rw [us_n ej]; exact hj j j0 (by omega)

set_option maxRecDepth 100000 in
set_option maxHeartbeats 4000000 in
theorem tlX8_clear {G : zG} {l : Launch} {L : Nat} {P : zP} {t : Nat} {M : zM} (hT : ToA L P t) : AW G l mdX8_clear (zdet none (LAY L) P (sm (sm (sm (sm (sm (sm (sm M (t + 10) 0 3) (t + 10) 1 2) (t + 10) 2 0) (t + 10) 3 0) (t + 13) 1 0) (t + 15) 1 0) (t + 17) 1 0)) 45 [some (aR t), none] [] (LAY L) P M 0 0 := by
  refine a_aloadn dX8_clear_45 rfl ?_
  refine a_getR (j' := 14) (y := (t + 10)) dX8_clear_46 flX8_39 rfl rfl hT.1.2.1 hT.1.2.2.2.2.2.2.2.2.2.2.2.1.2 ?_
  refine a_iconst dX8_clear_49 ?_
  refine a_iconst dX8_clear_50 ?_
  refine a_iast (N := 4) dX8_clear_51 hT.1.2.2.2.2.2.2.2.2.2.2.2.1.1 (by have h9 := hT.1.1; omega) (by decide) (by decide) (by decide) ⟨by decide, by decide⟩ ?_
  refine a_aloadn dX8_clear_52 rfl ?_
  refine a_getR (j' := 14) (y := (t + 10)) dX8_clear_53 flX8_39 rfl rfl hT.1.2.1 hT.1.2.2.2.2.2.2.2.2.2.2.2.1.2 ?_
  refine a_iconst dX8_clear_56 ?_
  refine a_iconst dX8_clear_57 ?_
  refine a_iast (N := 4) dX8_clear_58 hT.1.2.2.2.2.2.2.2.2.2.2.2.1.1 (by have h9 := hT.1.1; omega) (by decide) (by decide) (by decide) ⟨by decide, by decide⟩ ?_
  refine a_aloadn dX8_clear_59 rfl ?_
  refine a_getR (j' := 14) (y := (t + 10)) dX8_clear_60 flX8_39 rfl rfl hT.1.2.1 hT.1.2.2.2.2.2.2.2.2.2.2.2.1.2 ?_
  refine a_iconst dX8_clear_63 ?_
  refine a_iconst dX8_clear_64 ?_
  refine a_iast (N := 4) dX8_clear_65 hT.1.2.2.2.2.2.2.2.2.2.2.2.1.1 (by have h9 := hT.1.1; omega) (by decide) (by decide) (by decide) ⟨by decide, by decide⟩ ?_
  refine a_aloadn dX8_clear_66 rfl ?_
  refine a_getR (j' := 14) (y := (t + 10)) dX8_clear_67 flX8_39 rfl rfl hT.1.2.1 hT.1.2.2.2.2.2.2.2.2.2.2.2.1.2 ?_
  refine a_iconst dX8_clear_70 ?_
  refine a_iconst dX8_clear_71 ?_
  refine a_iast (N := 4) dX8_clear_72 hT.1.2.2.2.2.2.2.2.2.2.2.2.1.1 (by have h9 := hT.1.1; omega) (by decide) (by decide) (by decide) ⟨by decide, by decide⟩ ?_
  refine a_iconst dX8_clear_73 ?_
  refine c_istoren (ls' := [_, _]) dX8_clear_74 (by decide) rfl rfl ?_
  refine a_iloadn dX8_clear_75 rfl ?_
  refine a_iconst dX8_clear_76 ?_
  refine a_icmp_ge (tgt := 96) dX8_clear_77 (by decide) ⟨by decide, by decide⟩ ⟨by decide, by decide⟩ (fun hb => absurd hb (by decide)) (fun _ => ?_)
  refine a_aloadn dX8_clear_80 rfl ?_
  refine a_getR (j' := 16) (y := (t + 12)) dX8_clear_81 flX8_48 rfl rfl hT.1.2.1 hT.1.2.2.2.2.2.2.2.2.2.2.2.2.2.2 ?_
  refine a_iloadn dX8_clear_84 rfl ?_
  refine a_aald3 (N := 3) (y := (t + 13)) dX8_clear_85 hT.1.2.2.2.2.2.2.2.2.2.2.2.2.2.1 (by decide) (by decide) (by decide) hT.2.1.1 ?_
  refine a_iconst dX8_clear_86 ?_
  refine a_putI (j' := 1) dX8_clear_87 flX8_72 rfl rfl hT.2.1.2.2.1 hT.2.1.2.1 rfl ⟨by decide, by decide⟩ ?_
  refine c_iinc (ls' := [_, some (aI 1)]) dX8_clear_90 rfl (by decide) rfl rfl ?_
  refine a_goto (tgt := 75) dX8_clear_93 (by decide) ?_
  refine a_iloadn dX8_clear_75 rfl ?_
  refine a_iconst dX8_clear_76 ?_
  refine a_icmp_ge (tgt := 96) dX8_clear_77 (by decide) ⟨by decide, by decide⟩ ⟨by decide, by decide⟩ (fun hb => absurd hb (by decide)) (fun _ => ?_)
  refine a_aloadn dX8_clear_80 rfl ?_
  refine a_getR (j' := 16) (y := (t + 12)) dX8_clear_81 flX8_48 rfl rfl hT.1.2.1 hT.1.2.2.2.2.2.2.2.2.2.2.2.2.2.2 ?_
  refine a_iloadn dX8_clear_84 rfl ?_
  refine a_aald3 (N := 3) (y := (t + 15)) dX8_clear_85 hT.1.2.2.2.2.2.2.2.2.2.2.2.2.2.1 (by decide) (by decide) (by decide) hT.2.2.1.1 ?_
  refine a_iconst dX8_clear_86 ?_
  refine a_putI (j' := 1) dX8_clear_87 flX8_72 rfl rfl hT.2.2.1.2.2.1 hT.2.2.1.2.1 rfl ⟨by decide, by decide⟩ ?_
  refine c_iinc (ls' := [_, some (aI 2)]) dX8_clear_90 rfl (by decide) rfl rfl ?_
  refine a_goto (tgt := 75) dX8_clear_93 (by decide) ?_
  refine a_iloadn dX8_clear_75 rfl ?_
  refine a_iconst dX8_clear_76 ?_
  refine a_icmp_ge (tgt := 96) dX8_clear_77 (by decide) ⟨by decide, by decide⟩ ⟨by decide, by decide⟩ (fun hb => absurd hb (by decide)) (fun _ => ?_)
  refine a_aloadn dX8_clear_80 rfl ?_
  refine a_getR (j' := 16) (y := (t + 12)) dX8_clear_81 flX8_48 rfl rfl hT.1.2.1 hT.1.2.2.2.2.2.2.2.2.2.2.2.2.2.2 ?_
  refine a_iloadn dX8_clear_84 rfl ?_
  refine a_aald3 (N := 3) (y := (t + 17)) dX8_clear_85 hT.1.2.2.2.2.2.2.2.2.2.2.2.2.2.1 (by decide) (by decide) (by decide) hT.2.2.2.1 ?_
  refine a_iconst dX8_clear_86 ?_
  refine a_putI (j' := 1) dX8_clear_87 flX8_72 rfl rfl hT.2.2.2.2.2.1 hT.2.2.2.2.1 rfl ⟨by decide, by decide⟩ ?_
  refine c_iinc (ls' := [_, some (aI 3)]) dX8_clear_90 rfl (by decide) rfl rfl ?_
  refine a_goto (tgt := 75) dX8_clear_93 (by decide) ?_
  refine a_iloadn dX8_clear_75 rfl ?_
  refine a_iconst dX8_clear_76 ?_
  refine a_icmp_ge (tgt := 96) dX8_clear_77 (by decide) ⟨by decide, by decide⟩ ⟨by decide, by decide⟩ (fun _ => ?_) (fun hb => absurd (show (3 : Int) ≤ 3 by decide) hb)
  exact a_return dX8_clear_96 rfl rfl rfl (zdet_V rfl)

set_option maxRecDepth 100000 in
set_option maxHeartbeats 4000000 in
theorem m_X8_clear {G : zG} {l : Launch} {L : Nat} {P : zP} {M : zM} {t : Nat} (hT : ToA L P t) (ht : t = 4 ∨ t = 23) : AM G l yX8_clear mdX8_clear [aR t] (LAY L) P M (zrel none (LAY L) P (fun M' => clT t M M')) := by
  refine AM.go [some (aR t), none] rfl (Nat.le_of_ble_eq_true rfl) ?_ (by decide) rfl rfl
  refine a_aloadn dX8_clear_0 rfl ?_
  refine a_iconst dX8_clear_1 ?_
  refine a_putI (j' := 0) dX8_clear_2 flX8_56 rfl rfl hT.1.2.1 hT.1.1 rfl ⟨by omega, by omega⟩ ?_
  refine a_aloadn dX8_clear_5 rfl ?_
  refine a_iconst dX8_clear_6 ?_
  refine a_putI (j' := 1) dX8_clear_7 flX8_60 rfl rfl hT.1.2.1 hT.1.1 rfl ⟨by omega, by omega⟩ ?_
  refine a_aloadn dX8_clear_10 rfl ?_
  refine a_iconst dX8_clear_11 ?_
  refine a_putI (j' := 2) dX8_clear_12 flX8_63 rfl rfl hT.1.2.1 hT.1.1 rfl ⟨by omega, by omega⟩ ?_
  refine a_aloadn dX8_clear_15 rfl ?_
  refine a_iconst dX8_clear_16 ?_
  refine a_putI (j' := 6) dX8_clear_17 flX8_66 rfl rfl hT.1.2.1 hT.1.1 rfl ⟨by omega, by omega⟩ ?_
  refine a_aloadn dX8_clear_20 rfl ?_
  refine a_iconst dX8_clear_21 ?_
  refine a_putI (j' := 10) dX8_clear_22 flX8_69 rfl rfl hT.1.2.1 hT.1.1 rfl ⟨by omega, by omega⟩ ?_
  refine a_iconst dX8_clear_25 ?_
  refine c_istoren (ls' := [_, _]) dX8_clear_26 (by decide) rfl rfl ?_
  refine lpX8_clear1 hT 4 0 _ (by omega) (by omega) (fun _ _ => rfl) (fun j j0 j1 => by omega) (fun M1 h1 h2 => ?_)
  refine AW.mono2 (tlX8_clear hT) ?_
  rintro r lay P' M' ⟨rfl, rfl, rfl, rfl⟩
  refine zrel_V ?_
  have et : M1 t = sm (sm (sm (sm (sm M t 0 0) t 1 0) t 2 0) t 6 0) t 10 0 t := h1 t (by omega)
  refine ⟨fun i hi => ?_, ?_, fun i i0 i1 => ?_, ?_, ?_, fun k k1 k2 k3 k4 k5 k6 => ?_⟩
  · rw [sm_n (by omega), sm_n (by omega), sm_n (by omega), sm_n (by omega), sm_n (by omega), sm_n (by omega), sm_n (by omega), et, sm_k, us_n (by omega), sm_k, us_n (by omega), sm_k, us_n (by omega), sm_k, us_n (by omega), sm_k, us_n (by omega)]
  · rw [sm_n (by omega), sm_n (by omega), sm_n (by omega), sm_n (by omega), sm_n (by omega), sm_n (by omega), sm_n (by omega), et]
    refine ⟨?_, ?_, ?_, ?_, ?_⟩ <;> simp [sm, ur, us]
  · rw [sm_n (by omega), sm_n (by omega), sm_n (by omega), sm_n (by omega), sm_n (by omega), sm_n (by omega), sm_n (by omega)]; exact h2 i i0 i1
  · rw [sm_n (by omega), sm_n (by omega), sm_n (by omega)]
    refine ⟨?_, ?_, ?_, ?_⟩ <;> simp [sm, ur, us]
  · refine ⟨?_, ?_, ?_⟩
    · rw [sm_n (by omega), sm_n (by omega), sm_s]
    · rw [sm_n (by omega), sm_s]
    · rw [sm_s]
  · rw [sm_n k6, sm_n k5, sm_n k4, sm_n k2, sm_n k2, sm_n k2, sm_n k2, h1 k k3, sm_n k1, sm_n k1, sm_n k1, sm_n k1, sm_n k1]
