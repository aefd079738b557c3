set_option maxRecDepth 100000 in
set_option maxHeartbeats 4000000 in
theorem lpX3_markOwn55 {G : zG} {l : Launch} {L : Nat} {P : zP} {M0 Mi : zM} {t : Nat} {h b d : Int} (hc : CS L P t 67) (hI : CI M0 t 67) (h0 : 0 ≤ h) (h1 : h < 6) (rb : inR b) (hdd : d = M0 68 h) : ∀ (n : Nat) (x : Int) (M : zM) (g0 : 0 ≤ x) (g1 : x + n = 100) (hp : Pq M0 M) (hdk : Dk M) (ho : ∀ j : Int, 0 ≤ j → j < 6 → j ≠ h → M 68 j = M0 68 j) (hj : ∀ y : Int, 0 ≤ y → y < x → M 55 y = (if mtV M0 t h b y = 0 then 1 else 0)) (hf : ∀ k : Nat, k ≠ 55 → ¬ (51 ≤ k ∧ k ≤ 53) → k ≠ 68 → M k = Mi k), AW G l mdX3_markOwn (zrel none (LAY L) P (fun M' => Pq M0 M' ∧ Dk M' ∧ (∀ j : Int, 0 ≤ j → j < 6 → M' 68 j = M0 68 j) ∧ (∀ y : Int, 0 ≤ y → y ≤ 99 → M' 55 y = (if mtV M0 t h b y = 0 then 1 else 0)) ∧ ∀ k : Nat, k ≠ 55 → ¬ (51 ≤ k ∧ k ≤ 53) → k ≠ 68 → M' k = Mi k)) 11 [some (aR 54), some (aR 67), some (aI h), some (aI b), some (aR 55), some (aI d), some (aI x)] [] (LAY L) P M 0 0 := by
  intro n
  induction n with
  | zero =>
    intro x M g0 g1 hp hdk ho hj hf
    obtain ⟨hP, hTp, hT, ht, hS, ha⟩ := id hc
    have q1 := hI.1.1
    refine a_iload dX3_markOwn_11 rfl ?_
    refine a_bipush (w := 99) dX3_markOwn_13 (by decide) ?_
    refine a_icmp_gt (tgt := 52) dX3_markOwn_15 (by decide) ⟨by omega, by omega⟩ ⟨by omega, by omega⟩ (fun hb15 => ?_) (fun hb15 => ?_)
    · refine a_aloadn dX3_markOwn_52 rfl ?_
      refine a_getR (j' := 0) (y := 68) dX3_markOwn_53 flX3_35 rfl rfl (L67 L) (p67_0 hP) ?_
      refine a_iloadn dX3_markOwn_56 rfl ?_
      refine a_iload dX3_markOwn_57 rfl ?_
      refine a_iast (N := 6) dX3_markOwn_59 (L68 L) (by decide) (by decide) (by omega) (by omega) (by have z := hI.2.2.1.1 h h0 h1; have z2 : 0 ≤ M0 68 h ∧ M0 68 h ≤ 99 := z; exact ⟨by omega, by omega⟩) ?_
      exact a_return dX3_markOwn_60 rfl rfl rfl (zrel_V ⟨hp.sm (by omega) _ _, hdk.d (by have z := hI.2.2.1.1 h h0 h1; rw [hdd]; exact z), fun j j0 j1 => by
        rw [sm_k]
        by_cases ej : j = h
        · subst ej; rw [us_s]; exact hdd
        · rw [us_n ej]; exact ho j j0 j1 ej, fun y y0 y1 => by rw [sm_n (by decide)]; exact hj y y0 (by omega), fun k k0 k1 k2 => by rw [sm_n k2]; exact hf k k0 k1 k2⟩)
    · exfalso; omega
  | succ n ih =>
    intro x M g0 g1 hp hdk ho hj hf
    obtain ⟨hP, hTp, hT, ht, hS, ha⟩ := id hc
    have q1 := hI.1.1
    refine a_iload dX3_markOwn_11 rfl ?_
    refine a_bipush (w := 99) dX3_markOwn_13 (by decide) ?_
    refine a_icmp_gt (tgt := 52) dX3_markOwn_15 (by decide) ⟨by omega, by omega⟩ ⟨by omega, by omega⟩ (fun hb15 => ?_) (fun hb15 => ?_)
    · exfalso; omega
    · refine a_aloadn dX3_markOwn_18 rfl ?_
      refine a_getR (j' := 0) (y := 68) dX3_markOwn_19 flX3_35 rfl rfl (L67 L) (p67_0 hP) ?_
      refine a_iloadn dX3_markOwn_22 rfl ?_
      refine a_iload dX3_markOwn_23 rfl ?_
      refine a_iast (N := 6) dX3_markOwn_25 (L68 L) (by decide) (by decide) (by omega) (by omega) ⟨by omega, by omega⟩ ?_
      refine a_aload dX3_markOwn_26 rfl ?_
      refine a_iload dX3_markOwn_28 rfl ?_
      refine a_aloadn dX3_markOwn_30 rfl ?_
      refine a_aloadn dX3_markOwn_31 rfl ?_
      refine a_iloadn dX3_markOwn_32 rfl ?_
      refine a_iloadn dX3_markOwn_33 rfl ?_
      have hp2 : Pq M0 (sm M 68 h x) := hp.sm (by omega) _ _
      have hdk2 : Dk (sm M 68 h x) := hdk.d (by omega)
      refine a_anyV (as := [_, _, _]) (q := 54) dX3_markOwn_34 mvX3_65 ⟨by decide, by decide⟩ (L54 L) rfl rfl rfl (Nat.le_of_ble_eq_true rfl) ⟨rfl, rfl⟩ ⟨by decide, by decide⟩ (m_X3_isMet hc hI hp2 hdk2 h0 h1 rb (fun j j0 j1 j2 _ => by rw [sm_k, us_n j2]; exact ho j j0 j1 j2)) (fun x9 M1 hM1 => ?_)
      have hx9 := hM1.2
      rw [sm_s] at hx9
      have z01 := zex01 (mtf M0 t h b x) (M0 t 2).toNat 0
      have z02 : mtV M0 t h b x = 0 ∨ mtV M0 t h b x = 1 := z01
      refine a_if_ne (tgt := 44) dX3_markOwn_37 (by decide) ⟨by omega, by omega⟩ (fun hb37 => ?_) (fun hb37 => ?_)
      · refine a_iconst dX3_markOwn_44 ?_
        refine a_zast (N := 100) dX3_markOwn_45 (L55 L) (by decide) (by decide) (by omega) (by omega) (by omega) ?_
        refine c_iinc (ls' := [_, _, _, _, _, _, _]) dX3_markOwn_46 rfl (by decide) rfl rfl ?_
        refine a_goto (tgt := 11) dX3_markOwn_49 (by decide) ?_
        have z9 := zex01 (mtf M0 t h b x) (M0 t 2).toNat 0
        have z10 : mtV M0 t h b x = 0 ∨ mtV M0 t h b x = 1 := z9
        refine ih _ _ (by omega) (by omega) ((hp2.ec hM1.1).sm (by omega) _ _) ((hdk2.ec hM1.1).o (by decide) _ _) (fun j j0 j1 j2 => ?_) (fun y y0 y1 => ?_) (fun k k0 k1 k2 => ?_)
        · rw [sm_n (by decide), hM1.1 68 j (by decide) (by decide) (by omega), sm_k, us_n j2]; exact ho j j0 j1 j2
        · rw [sm_k]
          by_cases ey : y = x
          · subst ey
            rw [us_s]
            first
            | (rw [if_pos (by omega)]; done)
            | (rw [if_neg (by omega)]; done)
          · rw [us_n ey, hM1.1 55 y (by decide) (by decide) (by omega), sm_n (by decide)]; exact hj y y0 (by omega)
        · rw [sm_n k0, hM1.1.row (by omega) (by omega) (by omega), sm_n k2]; exact hf k k0 k1 k2
      · refine a_iconst dX3_markOwn_40 ?_
        refine a_goto (tgt := 45) dX3_markOwn_41 (by decide) ?_
        refine a_zast (N := 100) dX3_markOwn_45 (L55 L) (by decide) (by decide) (by omega) (by omega) (by omega) ?_
        refine c_iinc (ls' := [_, _, _, _, _, _, _]) dX3_markOwn_46 rfl (by decide) rfl rfl ?_
        refine a_goto (tgt := 11) dX3_markOwn_49 (by decide) ?_
        have z9 := zex01 (mtf M0 t h b x) (M0 t 2).toNat 0
        have z10 : mtV M0 t h b x = 0 ∨ mtV M0 t h b x = 1 := z9
        refine ih _ _ (by omega) (by omega) ((hp2.ec hM1.1).sm (by omega) _ _) ((hdk2.ec hM1.1).o (by decide) _ _) (fun j j0 j1 j2 => ?_) (fun y y0 y1 => ?_) (fun k k0 k1 k2 => ?_)
        · rw [sm_n (by decide), hM1.1 68 j (by decide) (by decide) (by omega), sm_k, us_n j2]; exact ho j j0 j1 j2
        · rw [sm_k]
          by_cases ey : y = x
          · subst ey
            rw [us_s]
            first
            | (rw [if_pos (by omega)]; done)
            | (rw [if_neg (by omega)]; done)
          · rw [us_n ey, hM1.1 55 y (by decide) (by decide) (by omega), sm_n (by decide)]; exact hj y y0 (by omega)
        · rw [sm_n k0, hM1.1.row (by omega) (by omega) (by omega), sm_n k2]; exact hf k k0 k1 k2

set_option maxRecDepth 100000 in
set_option maxHeartbeats 4000000 in
theorem m_markOwn55 {G : zG} {l : Launch} {L : Nat} {P : zP} {M : zM} {M0 : zM} {t : Nat} {h b : Int} (hc : CS L P t 67) (hI : CI M0 t 67) (hp : Pq M0 M) (hdk : Dk M) (h0 : 0 ≤ h) (h1 : h < 6) (rb : inR b) (ho : ∀ j : Int, 0 ≤ j → j < 6 → M 68 j = M0 68 j) : AM G l yX3_markOwn mdX3_markOwn [aR 54, aR 67, aI h, aI b, aR 55] (LAY L) P M (zrel none (LAY L) P (fun M' => Pq M0 M' ∧ Dk M' ∧ (∀ j : Int, 0 ≤ j → j < 6 → M' 68 j = M0 68 j) ∧ (∀ y : Int, 0 ≤ y → y ≤ 99 → M' 55 y = (if mtV M0 t h b y = 0 then 1 else 0)) ∧ ∀ k : Nat, k ≠ 55 → ¬ (51 ≤ k ∧ k ≤ 53) → k ≠ 68 → M' k = M k)) := by
  obtain ⟨hP, hTp, hT, ht, hS, ha⟩ := id hc
  have q1 := hI.1.1
  refine AM.go [some (aR 54), some (aR 67), some (aI h), some (aI b), some (aR 55), none, none] rfl (Nat.le_of_ble_eq_true rfl) ?_ (by decide) rfl rfl
  refine a_aloadn dX3_markOwn_0 rfl ?_
  refine a_getR (j' := 0) (y := 68) dX3_markOwn_1 flX3_35 rfl rfl (L67 L) (p67_0 hP) ?_
  refine a_iloadn dX3_markOwn_4 rfl ?_
  refine b_iald (N := 6) dX3_markOwn_5 (L68 L) (by decide) (by omega) (by omega) (fun hr5 => ?_)
  rw [ho h h0 h1] at hr5
  rw [ho h h0 h1]
  refine c_istore (ls' := [_, _, _, _, _, _, _]) dX3_markOwn_6 (by decide) rfl rfl ?_
  refine a_iconst dX3_markOwn_8 ?_
  refine c_istore (ls' := [_, _, _, _, _, _, _]) dX3_markOwn_9 (by decide) rfl rfl ?_
  exact lpX3_markOwn55 hc hI h0 h1 rb rfl 100 0 M (by omega) (by omega) hp hdk (fun j j0 j1 _ => ho j j0 j1) (fun y y0 y1 => by omega) (fun _ _ _ _ => rfl)

set_option maxRecDepth 100000 in
set_option maxHeartbeats 4000000 in
theorem lpX3_markOwn56 {G : zG} {l : Launch} {L : Nat} {P : zP} {M0 Mi : zM} {t : Nat} {h b d : Int} (hc : CS L P t 67) (hI : CI M0 t 67) (h0 : 0 ≤ h) (h1 : h < 6) (rb : inR b) (hdd : d = M0 68 h) : ∀ (n : Nat) (x : Int) (M : zM) (g0 : 0 ≤ x) (g1 : x + n = 100) (hp : Pq M0 M) (hdk : Dk M) (ho : ∀ j : Int, 0 ≤ j → j < 6 → j ≠ h → M 68 j = M0 68 j) (hj : ∀ y : Int, 0 ≤ y → y < x → M 56 y = (if mtV M0 t h b y = 0 then 1 else 0)) (hf : ∀ k : Nat, k ≠ 56 → ¬ (51 ≤ k ∧ k ≤ 53) → k ≠ 68 → M k = Mi k), AW G l mdX3_markOwn (zrel none (LAY L) P (fun M' => Pq M0 M' ∧ Dk M' ∧ (∀ j : Int, 0 ≤ j → j < 6 → M' 68 j = M0 68 j) ∧ (∀ y : Int, 0 ≤ y → y ≤ 99 → M' 56 y = (if mtV M0 t h b y = 0 then 1 else 0)) ∧ ∀ k : Nat, k ≠ 56 → ¬ (51 ≤ k ∧ k ≤ 53) → k ≠ 68 → M' k = Mi k)) 11 [some (aR 54), some (aR 67), some (aI h), some (aI b), some (aR 56), some (aI d), some (aI x)] [] (LAY L) P M 0 0 := by
  intro n
  induction n with
  | zero =>
    intro x M g0 g1 hp hdk ho hj hf
    obtain ⟨hP, hTp, hT, ht, hS, ha⟩ := id hc
    have q1 := hI.1.1
    refine a_iload dX3_markOwn_11 rfl ?_
    refine a_bipush (w := 99) dX3_markOwn_13 (by decide) ?_
    refine a_icmp_gt (tgt := 52) dX3_markOwn_15 (by decide) ⟨by omega, by omega⟩ ⟨by omega, by omega⟩ (fun hb15 => ?_) (fun hb15 => ?_)
    · refine a_aloadn dX3_markOwn_52 rfl ?_
      refine a_getR (j' := 0) (y := 68) dX3_markOwn_53 flX3_35 rfl rfl (L67 L) (p67_0 hP) ?_
      refine a_iloadn dX3_markOwn_56 rfl ?_
      refine a_iload dX3_markOwn_57 rfl ?_
      refine a_iast (N := 6) dX3_markOwn_59 (L68 L) (by decide) (by decide) (by omega) (by omega) (by have z := hI.2.2.1.1 h h0 h1; have z2 : 0 ≤ M0 68 h ∧ M0 68 h ≤ 99 := z; exact ⟨by omega, by omega⟩) ?_
      exact a_return dX3_markOwn_60 rfl rfl rfl (zrel_V ⟨hp.sm (by omega) _ _, hdk.d (by have z := hI.2.2.1.1 h h0 h1; rw [hdd]; exact z), fun j j0 j1 => by
        rw [sm_k]
        by_cases ej : j = h
        · subst ej; rw [us_s]; exact hdd
        · rw [us_n ej]; exact ho j j0 j1 ej, fun y y0 y1 => by rw [sm_n (by decide)]; exact hj y y0 (by omega), fun k k0 k1 k2 => by rw [sm_n k2]; exact hf k k0 k1 k2⟩)
    · exfalso; omega
  | succ n ih =>
    intro x M g0 g1 hp hdk ho hj hf
    obtain ⟨hP, hTp, hT, ht, hS, ha⟩ := id hc
    have q1 := hI.1.1
    refine a_iload dX3_markOwn_11 rfl ?_
    refine a_bipush (w := 99) dX3_markOwn_13 (by decide) ?_
    refine a_icmp_gt (tgt := 52) dX3_markOwn_15 (by decide) ⟨by omega, by omega⟩ ⟨by omega, by omega⟩ (fun hb15 => ?_) (fun hb15 => ?_)
    · exfalso; omega
    · refine a_aloadn dX3_markOwn_18 rfl ?_
      refine a_getR (j' := 0) (y := 68) dX3_markOwn_19 flX3_35 rfl rfl (L67 L) (p67_0 hP) ?_
      refine a_iloadn dX3_markOwn_22 rfl ?_
      refine a_iload dX3_markOwn_23 rfl ?_
      refine a_iast (N := 6) dX3_markOwn_25 (L68 L) (by decide) (by decide) (by omega) (by omega) ⟨by omega, by omega⟩ ?_
      refine a_aload dX3_markOwn_26 rfl ?_
      refine a_iload dX3_markOwn_28 rfl ?_
      refine a_aloadn dX3_markOwn_30 rfl ?_
      refine a_aloadn dX3_markOwn_31 rfl ?_
      refine a_iloadn dX3_markOwn_32 rfl ?_
      refine a_iloadn dX3_markOwn_33 rfl ?_
      have hp2 : Pq M0 (sm M 68 h x) := hp.sm (by omega) _ _
      have hdk2 : Dk (sm M 68 h x) := hdk.d (by omega)
      refine a_anyV (as := [_, _, _]) (q := 54) dX3_markOwn_34 mvX3_65 ⟨by decide, by decide⟩ (L54 L) rfl rfl rfl (Nat.le_of_ble_eq_true rfl) ⟨rfl, rfl⟩ ⟨by decide, by decide⟩ (m_X3_isMet hc hI hp2 hdk2 h0 h1 rb (fun j j0 j1 j2 _ => by rw [sm_k, us_n j2]; exact ho j j0 j1 j2)) (fun x9 M1 hM1 => ?_)
      have hx9 := hM1.2
      rw [sm_s] at hx9
      have z01 := zex01 (mtf M0 t h b x) (M0 t 2).toNat 0
      have z02 : mtV M0 t h b x = 0 ∨ mtV M0 t h b x = 1 := z01
      refine a_if_ne (tgt := 44) dX3_markOwn_37 (by decide) ⟨by omega, by omega⟩ (fun hb37 => ?_) (fun hb37 => ?_)
      · refine a_iconst dX3_markOwn_44 ?_
        refine a_zast (N := 100) dX3_markOwn_45 (L56 L) (by decide) (by decide) (by omega) (by omega) (by omega) ?_
        refine c_iinc (ls' := [_, _, _, _, _, _, _]) dX3_markOwn_46 rfl (by decide) rfl rfl ?_
        refine a_goto (tgt := 11) dX3_markOwn_49 (by decide) ?_
        have z9 := zex01 (mtf M0 t h b x) (M0 t 2).toNat 0
        have z10 : mtV M0 t h b x = 0 ∨ mtV M0 t h b x = 1 := z9
        refine ih _ _ (by omega) (by omega) ((hp2.ec hM1.1).sm (by omega) _ _) ((hdk2.ec hM1.1).o (by decide) _ _) (fun j j0 j1 j2 => ?_) (fun y y0 y1 => ?_) (fun k k0 k1 k2 => ?_)
        · rw [sm_n (by decide), hM1.1 68 j (by decide) (by decide) (by omega), sm_k, us_n j2]; exact ho j j0 j1 j2
        · rw [sm_k]
          by_cases ey : y = x
          · subst ey
            rw [us_s]
            first
            | (rw [if_pos (by omega)]; done)
            | (rw [if_neg (by omega)]; done)
          · rw [us_n ey, hM1.1 56 y (by decide) (by decide) (by omega), sm_n (by decide)]; exact hj y y0 (by omega)
        · rw [sm_n k0, hM1.1.row (by omega) (by omega) (by omega), sm_n k2]; exact hf k k0 k1 k2
      · refine a_iconst dX3_markOwn_40 ?_
        refine a_goto (tgt := 45) dX3_markOwn_41 (by decide) ?_
        refine a_zast (N := 100) dX3_markOwn_45 (L56 L) (by decide) (by decide) (by omega) (by omega) (by omega) ?_
        refine c_iinc (ls' := [_, _, _, _, _, _, _]) dX3_markOwn_46 rfl (by decide) rfl rfl ?_
        refine a_goto (tgt := 11) dX3_markOwn_49 (by decide) ?_
        have z9 := zex01 (mtf M0 t h b x) (M0 t 2).toNat 0
        have z10 : mtV M0 t h b x = 0 ∨ mtV M0 t h b x = 1 := z9
        refine ih _ _ (by omega) (by omega) ((hp2.ec hM1.1).sm (by omega) _ _) ((hdk2.ec hM1.1).o (by decide) _ _) (fun j j0 j1 j2 => ?_) (fun y y0 y1 => ?_) (fun k k0 k1 k2 => ?_)
        · rw [sm_n (by decide), hM1.1 68 j (by decide) (by decide) (by omega), sm_k, us_n j2]; exact ho j j0 j1 j2
        · rw [sm_k]
          by_cases ey : y = x
          · subst ey
            rw [us_s]
            first
            | (rw [if_pos (by omega)]; done)
            | (rw [if_neg (by omega)]; done)
          · rw [us_n ey, hM1.1 56 y (by decide) (by decide) (by omega), sm_n (by decide)]; exact hj y y0 (by omega)
        · rw [sm_n k0, hM1.1.row (by omega) (by omega) (by omega), sm_n k2]; exact hf k k0 k1 k2

set_option maxRecDepth 100000 in
set_option maxHeartbeats 4000000 in
theorem m_markOwn56 {G : zG} {l : Launch} {L : Nat} {P : zP} {M : zM} {M0 : zM} {t : Nat} {h b : Int} (hc : CS L P t 67) (hI : CI M0 t 67) (hp : Pq M0 M) (hdk : Dk M) (h0 : 0 ≤ h) (h1 : h < 6) (rb : inR b) (ho : ∀ j : Int, 0 ≤ j → j < 6 → M 68 j = M0 68 j) : AM G l yX3_markOwn mdX3_markOwn [aR 54, aR 67, aI h, aI b, aR 56] (LAY L) P M (zrel none (LAY L) P (fun M' => Pq M0 M' ∧ Dk M' ∧ (∀ j : Int, 0 ≤ j → j < 6 → M' 68 j = M0 68 j) ∧ (∀ y : Int, 0 ≤ y → y ≤ 99 → M' 56 y = (if mtV M0 t h b y = 0 then 1 else 0)) ∧ ∀ k : Nat, k ≠ 56 → ¬ (51 ≤ k ∧ k ≤ 53) → k ≠ 68 → M' k = M k)) := by
  obtain ⟨hP, hTp, hT, ht, hS, ha⟩ := id hc
  have q1 := hI.1.1
  refine AM.go [some (aR 54), some (aR 67), some (aI h), some (aI b), some (aR 56), none, none] rfl (Nat.le_of_ble_eq_true rfl) ?_ (by decide) rfl rfl
  refine a_aloadn dX3_markOwn_0 rfl ?_
  refine a_getR (j' := 0) (y := 68) dX3_markOwn_1 flX3_35 rfl rfl (L67 L) (p67_0 hP) ?_
  refine a_iloadn dX3_markOwn_4 rfl ?_
  refine b_iald (N := 6) dX3_markOwn_5 (L68 L) (by decide) (by omega) (by omega) (fun hr5 => ?_)
  rw [ho h h0 h1] at hr5
  rw [ho h h0 h1]
  refine c_istore (ls' := [_, _, _, _, _, _, _]) dX3_markOwn_6 (by decide) rfl rfl ?_
  refine a_iconst dX3_markOwn_8 ?_
  refine c_istore (ls' := [_, _, _, _, _, _, _]) dX3_markOwn_9 (by decide) rfl rfl ?_
  exact lpX3_markOwn56 hc hI h0 h1 rb rfl 100 0 M (by omega) (by omega) hp hdk (fun j j0 j1 _ => ho j j0 j1) (fun y y0 y1 => by omega) (fun _ _ _ _ => rfl)

set_option maxRecDepth 100000 in
set_option maxHeartbeats 4000000 in
theorem m_X3_isPrivate {G : zG} {l : Launch} {L : Nat} {P : zP} {M : zM} {M0 : zM} {t : Nat} {h o y : Int} (hc : CS L P t 67) (hI : CI M0 t 67) (hp : Pq M0 M) (hdk : Dk M) (h0 : 0 ≤ h) (h1 : h < 6) (o0 : 0 ≤ o) (o1 : o < 6) (hne : h ≠ o) (hw2 : ∀ y : Int, 0 ≤ y → y ≤ 99 → M 56 y = if mtV M0 t o h y = 0 then 1 else 0) (ry : inR y) : AM G l yX3_isPrivate mdX3_isPrivate [aR 54, aR 67, aI h, aI o, aI y] (LAY L) P M (zany (LAY L) P (fun r M' => (Pq M0 M' ∧ Dk M' ∧ (∀ k : Nat, ¬ (51 ≤ k ∧ k ≤ 53) → k ≠ 68 → M' k = M k) ∧ (∀ j : Int, j ≠ o → M' 68 j = M 68 j)) ∧ r = prV M0 t h o (M 68 h) y ∧ (r ≠ 0 → M' 68 o = y))) := by
  obtain ⟨hP, hTp, hT, ht, hS, ha⟩ := id hc
  have q1 := hI.1.1
  refine AM.go [some (aR 54), some (aR 67), some (aI h), some (aI o), some (aI y)] rfl (Nat.le_of_ble_eq_true rfl) ?_ (by decide) rfl rfl
  refine a_iload dX3_isPrivate_0 rfl ?_
  refine a_iconst dX3_isPrivate_2 ?_
  refine a_bipush (w := 99) dX3_isPrivate_3 (by decide) ?_
  refine a_oneSN (as := [_, _, _]) dX3_isPrivate_5 mvX3_83 ⟨by decide, by decide⟩ rfl rfl (Nat.le_of_ble_eq_true rfl) ⟨rfl, rfl⟩ ⟨by decide, by decide⟩ (m_X10_isWithin ⟨by omega, by omega⟩ ⟨by omega, by omega⟩ ⟨by omega, by omega⟩) (fun x5 hx5 => ?_)
  refine a_if_eq (tgt := 21) dX3_isPrivate_8 (by decide) ⟨by omega, by omega⟩ (fun hb8 => ?_) (fun hb8 => ?_)
  · refine a_iconst dX3_isPrivate_21 ?_
    exact a_zreturn dX3_isPrivate_22 rfl rfl rfl (by omega) (zany_i ⟨⟨hp, hdk, fun _ _ _ => rfl, fun _ _ => rfl⟩, by unfold prV; rw [if_neg (by omega)], fun z => absurd rfl z⟩)
  · refine a_aloadn dX3_isPrivate_11 rfl ?_
    refine a_getR (j' := 2) (y := 56) dX3_isPrivate_12 flX3_15 rfl rfl (L54 L) (p54_2 hP) ?_
    refine a_iload dX3_isPrivate_15 rfl ?_
    refine b_zald (N := 100) dX3_isPrivate_17 (L56 L) (by decide) (by omega) (by omega) (fun hr17 => ?_)
    have e17 := hw2 y (by omega) (by omega)
    have z01 := zex01 (mtf M0 t o h y) (M0 t 2).toNat 0
    have z02 : mtV M0 t o h y = 0 ∨ mtV M0 t o h y = 1 := z01
    have e18 : (M 56 y = 1 ∧ mtV M0 t o h y = 0) ∨ (M 56 y = 0 ∧ mtV M0 t o h y = 1) := by
      rcases z02 with z | z
      · left; exact ⟨by rw [e17, if_pos z], z⟩
      · right; exact ⟨by rw [e17, if_neg (by omega)], z⟩
    refine a_if_ne (tgt := 23) dX3_isPrivate_18 (by decide) (by rcases hr17 with z | z <;> exact ⟨by omega, by omega⟩) (fun hb18 => ?_) (fun hb18 => ?_)
    · refine a_aloadn dX3_isPrivate_23 rfl ?_
      refine a_getR (j' := 0) (y := 68) dX3_isPrivate_24 flX3_35 rfl rfl (L67 L) (p67_0 hP) ?_
      refine a_iloadn dX3_isPrivate_27 rfl ?_
      refine a_iload dX3_isPrivate_28 rfl ?_
      refine a_iast (N := 6) dX3_isPrivate_30 (L68 L) (by decide) (by decide) (by omega) (by omega) ⟨by omega, by omega⟩ ?_
      refine a_aloadn dX3_isPrivate_31 rfl ?_
      refine a_getR (j' := 0) (y := 50) dX3_isPrivate_32 flX3_31 rfl rfl (L54 L) (p54_0 hP) ?_
      refine a_aloadn dX3_isPrivate_35 rfl ?_
      refine a_iloadn dX3_isPrivate_36 rfl ?_
      refine a_iloadn dX3_isPrivate_37 rfl ?_
      have hp2 : Pq M0 (sm M 68 o y) := hp.sm (by omega) _ _
      have hdk2 : Dk (sm M 68 o y) := hdk.d (by omega)
      have hci38 := hp2.ci hI (by omega) hdk2
      refine a_anyV (as := [_, _, _]) (q := 50) dX3_isPrivate_38 mvX3_80 ⟨by decide, by decide⟩ (L50 L) rfl rfl rfl (Nat.le_of_ble_eq_true rfl) ⟨rfl, rfl⟩ ⟨by decide, by decide⟩ (m_doesHear hc hci38 h0 h1 o0 o1) (fun x38 M38 hM38 => ?_)
      have hx38 := hM38.2
      rw [hp2.hr (by omega), sm_s, sm_k, us_n hne] at hx38
      have z38 := hd01 M0 t h o (M 68 h) y
      have hci51 := (hp2.ec hM38.1).ci hI (by omega) (hdk2.ec hM38.1)
      have fr38 : (Pq M0 M38 ∧ Dk M38 ∧ (∀ k : Nat, ¬ (51 ≤ k ∧ k ≤ 53) → k ≠ 68 → M38 k = M k) ∧ (∀ j : Int, j ≠ o → M38 68 j = M 68 j)) := ⟨hp2.ec hM38.1, hdk2.ec hM38.1, fun k k0 k1 => by rw [hM38.1.row (by omega) (by omega) (by omega), sm_n k1], fun j hj => by rw [hM38.1 68 j (by decide) (by decide) (by omega), sm_k, us_n hj]⟩
      refine a_if_eq (tgt := 61) dX3_isPrivate_41 (by decide) ⟨by omega, by omega⟩ (fun hb41 => ?_) (fun hb41 => ?_)
      · refine a_iconst dX3_isPrivate_61 ?_
        exact a_zreturn dX3_isPrivate_62 rfl rfl rfl (by omega) (by first | exact zany_i ⟨fr51, by unfold prV; rw [if_pos (by omega)], fun _ => ey51⟩ | exact zany_i ⟨fr51, by unfold prV; rw [if_neg (by omega)], fun z => absurd rfl z⟩ | exact zany_i ⟨fr38, by unfold prV; rw [if_neg (by omega)], fun z => absurd rfl z⟩)
      · refine a_aloadn dX3_isPrivate_44 rfl ?_
        refine a_getR (j' := 0) (y := 50) dX3_isPrivate_45 flX3_31 rfl rfl (L54 L) (p54_0 hP) ?_
        refine a_aloadn dX3_isPrivate_48 rfl ?_
        refine a_iloadn dX3_isPrivate_49 rfl ?_
        refine a_iloadn dX3_isPrivate_50 rfl ?_
        refine a_anyV (as := [_, _, _]) (q := 50) dX3_isPrivate_51 mvX3_80 ⟨by decide, by decide⟩ (L50 L) rfl rfl rfl (Nat.le_of_ble_eq_true rfl) ⟨rfl, rfl⟩ ⟨by decide, by decide⟩ (m_doesHear hc hci51 o0 o1 h0 h1) (fun x51 M51 hM51 => ?_)
        have hE51 := hM38.1.tr hM51.1
        have hx51 := hM51.2
        rw [hM38.1.hr (by omega) (by omega), hp2.hr (by omega), sm_s, sm_k, us_n hne] at hx51
        have z51 := hd01 M0 t o h y (M 68 h)
        have fr51 : (Pq M0 M51 ∧ Dk M51 ∧ (∀ k : Nat, ¬ (51 ≤ k ∧ k ≤ 53) → k ≠ 68 → M51 k = M k) ∧ (∀ j : Int, j ≠ o → M51 68 j = M 68 j)) := ⟨hp2.ec hE51, hdk2.ec hE51, fun k k0 k1 => by rw [hE51.row (by omega) (by omega) (by omega), sm_n k1], fun j hj => by rw [hE51 68 j (by decide) (by decide) (by omega), sm_k, us_n hj]⟩
        have ey51 : M51 68 o = y := by rw [hE51 68 o (by decide) (by decide) (by omega), sm_s]
        refine a_if_eq (tgt := 61) dX3_isPrivate_54 (by decide) ⟨by omega, by omega⟩ (fun hb54 => ?_) (fun hb54 => ?_)
        · refine a_iconst dX3_isPrivate_61 ?_
          exact a_zreturn dX3_isPrivate_62 rfl rfl rfl (by omega) (by first | exact zany_i ⟨fr51, by unfold prV; rw [if_pos (by omega)], fun _ => ey51⟩ | exact zany_i ⟨fr51, by unfold prV; rw [if_neg (by omega)], fun z => absurd rfl z⟩ | exact zany_i ⟨fr38, by unfold prV; rw [if_neg (by omega)], fun z => absurd rfl z⟩)
        · refine a_iconst dX3_isPrivate_57 ?_
          refine a_goto (tgt := 62) dX3_isPrivate_58 (by decide) ?_
          exact a_zreturn dX3_isPrivate_62 rfl rfl rfl (by omega) (by first | exact zany_i ⟨fr51, by unfold prV; rw [if_pos (by omega)], fun _ => ey51⟩ | exact zany_i ⟨fr51, by unfold prV; rw [if_neg (by omega)], fun z => absurd rfl z⟩ | exact zany_i ⟨fr38, by unfold prV; rw [if_neg (by omega)], fun z => absurd rfl z⟩)
    · refine a_iconst dX3_isPrivate_21 ?_
      exact a_zreturn dX3_isPrivate_22 rfl rfl rfl (by omega) (zany_i ⟨⟨hp, hdk, fun _ _ _ => rfl, fun _ _ => rfl⟩, by unfold prV; rw [if_neg (by omega)], fun z => absurd rfl z⟩)

set_option maxRecDepth 100000 in
set_option maxHeartbeats 4000000 in
theorem lpX3_findPrivate_in {G : zG} {l : Launch} {L : Nat} {P : zP} {M0 : zM} {t : Nat} {h o d e s last : Int} {res : Option (Int × Int × Int)} (hc : CS L P t 67) (hI : CI M0 t 67) (h0 : 0 ≤ h) (h1 : h < 6) (o0 : 0 ≤ o) (o1 : o < 6) (hne : h ≠ o) (rd : 0 ≤ d ∧ d ≤ 99) (re : 0 ≤ e ∧ e ≤ 99) (hs : 0 ≤ s ∧ s ≤ 198) (hl : last ≤ 99) : ∀ (n : Nat) (x : Int) (M : zM) (g0 : 0 ≤ x) (g1 : x + n = last + 1) (hp : Pq M0 M) (hdk : Dk M) (hw1 : ∀ y : Int, 0 ≤ y → y ≤ 99 → M 55 y = if mtV M0 t h o y = 0 then 1 else 0) (hw2 : ∀ y : Int, 0 ≤ y → y ≤ 99 → M 56 y = if mtV M0 t o h y = 0 then 1 else 0) (hres : ∀ p, fpI M0 t h o d e s n x = some p → res = some (p.1, p.2, s)) (kk : ∀ M' : zM, Pq M0 M' → Dk M' → (∀ y : Int, 0 ≤ y → y ≤ 99 → M' 55 y = if mtV M0 t h o y = 0 then 1 else 0) → (∀ y : Int, 0 ≤ y → y ≤ 99 → M' 56 y = if mtV M0 t o h y = 0 then 1 else 0) → fpI M0 t h o d e s n x = none → AW G l mdX3_findPrivate (zany (LAY L) P (fun r M' => Pq M0 M' ∧ ((r = 0 ∧ res = none) ∨ (r = 1 ∧ ∃ x y s, res = some (x, y, s) ∧ M' 60 0 = x ∧ M' 60 1 = y ∧ M' 54 8 = s)))) 174 [some (aR 54), some (aR 67), some (aI h), some (aI o), some (aI d), some (aI e), some (aI s), none, none, none] [] (LAY L) P M' 0 0), AW G l mdX3_findPrivate (zany (LAY L) P (fun r M' => Pq M0 M' ∧ ((r = 0 ∧ res = none) ∨ (r = 1 ∧ ∃ x y s, res = some (x, y, s) ∧ M' 60 0 = x ∧ M' 60 1 = y ∧ M' 54 8 = s)))) 72 [some (aR 54), some (aR 67), some (aI h), some (aI o), some (aI d), some (aI e), some (aI s), some (aI last), some (aI x), none] [] (LAY L) P M 0 0 := by
  intro n
  induction n with
  | zero =>
    intro x M g0 g1 hp hdk hw1 hw2 hres kk
    obtain ⟨hP, hTp, hT, ht, hS, ha⟩ := id hc
    have q1 := hI.1.1
    refine a_iload dX3_findPrivate_72 rfl ?_
    refine a_iload dX3_findPrivate_74 rfl ?_
    refine a_icmp_gt (tgt := 174) dX3_findPrivate_76 (by decide) ⟨by omega, by omega⟩ ⟨by omega, by omega⟩ (fun hb76 => ?_) (fun hb76 => ?_)
    · refine a_forget [7, 8] (ls' := [_, _, _, _, _, _, _, none, none, none]) rfl (kk M hp hdk hw1 hw2 rfl)
    · exfalso; omega
  | succ n ih =>
    intro x M g0 g1 hp hdk hw1 hw2 hres kk
    obtain ⟨hP, hTp, hT, ht, hS, ha⟩ := id hc
    have q1 := hI.1.1
    refine a_iload dX3_findPrivate_72 rfl ?_
    refine a_iload dX3_findPrivate_74 rfl ?_
    refine a_icmp_gt (tgt := 174) dX3_findPrivate_76 (by decide) ⟨by omega, by omega⟩ ⟨by omega, by omega⟩ (fun hb76 => ?_) (fun hb76 => ?_)
    · exfalso; omega
    · refine a_iload dX3_findPrivate_79 rfl ?_
      refine a_iload dX3_findPrivate_81 rfl ?_
      refine a_iload dX3_findPrivate_83 rfl ?_
      refine a_isub dX3_findPrivate_85 ?_
      refine c_abs dX3_findPrivate_86 mmX3_53 (Nat.le_of_ble_eq_true rfl) ⟨by decide, by decide⟩ ⟨by decide, by decide⟩ ⟨by omega, by omega⟩ ?_
      have qa := iabs_99 (x := x) (y := d) (by omega) rd
      refine a_isub dX3_findPrivate_89 ?_
      refine c_istore (ls' := [_, _, _, _, _, _, _, _, _, _]) dX3_findPrivate_90 (by decide) rfl rfl ?_
      refine a_aloadn dX3_findPrivate_92 rfl ?_
      refine a_getR (j' := 0) (y := 68) dX3_findPrivate_93 flX3_35 rfl rfl (L67 L) (p67_0 hP) ?_
      refine a_iloadn dX3_findPrivate_96 rfl ?_
      refine a_iload dX3_findPrivate_97 rfl ?_
      refine a_iast (N := 6) dX3_findPrivate_99 (L68 L) (by decide) (by decide) (by omega) (by omega) ⟨by omega, by omega⟩ ?_
      refine a_aloadn dX3_findPrivate_100 rfl ?_
      refine a_getR (j' := 1) (y := 55) dX3_findPrivate_101 flX3_11 rfl rfl (L54 L) (p54_1 hP) ?_
      refine a_iload dX3_findPrivate_104 rfl ?_
      refine b_zald (N := 100) dX3_findPrivate_106 (L55 L) (by decide) (by omega) (by omega) (fun hr106 => ?_)
      try simp (disch := omega) only [sm_n, sm_k, us_s, us_n] at hr106 ⊢
      have e106 := hw1 x (by omega) (by omega)
      have z01 := zex01 (mtf M0 t h o x) (M0 t 2).toNat 0
      have z02 : mtV M0 t h o x = 0 ∨ mtV M0 t h o x = 1 := z01
      have e107 : (M 55 x = 1 ∧ mtV M0 t h o x = 0) ∨ (M 55 x = 0 ∧ mtV M0 t h o x = 1) := by
        rcases z02 with z | z
        · left; exact ⟨by rw [e106, if_pos z], z⟩
        · right; exact ⟨by rw [e106, if_neg (by omega)], z⟩
      refine a_if_eq (tgt := 168) dX3_findPrivate_107 (by decide) (by rcases hr106 with z | z <;> exact ⟨by omega, by omega⟩) (fun hb107 => ?_) (fun hb107 => ?_)
      · refine c_iinc (ls' := [_, _, _, _, _, _, _, _, _, _]) dX3_findPrivate_168 rfl (by decide) rfl rfl ?_
        refine a_goto (tgt := 72) dX3_findPrivate_171 (by decide) ?_
        refine a_forget [9] (ls' := [_, _, _, _, _, _, _, _, _, none]) rfl ?_
        simp only [fpI] at hres kk
        rw [if_neg (by omega), if_neg (by omega)] at hres kk
        first
        | exact ih _ _ (by omega) (by omega) b1 b2 hw14 hw24 hres kk
        | exact ih _ _ (by omega) (by omega) (hp.sm (by omega) _ _) (hdk.d (by omega)) (fun y y0 y1 => by rw [sm_n (by decide)]; exact hw1 y y0 y1) (fun y y0 y1 => by rw [sm_n (by decide)]; exact hw2 y y0 y1) hres kk
      · refine a_aloadn dX3_findPrivate_110 rfl ?_
        refine a_aloadn dX3_findPrivate_111 rfl ?_
        refine a_iloadn dX3_findPrivate_112 rfl ?_
        refine a_iloadn dX3_findPrivate_113 rfl ?_
        refine a_iload dX3_findPrivate_114 rfl ?_
        refine a_iload dX3_findPrivate_116 rfl ?_
        refine a_isub dX3_findPrivate_118 ?_
        have hp2 : Pq M0 (sm M 68 h x) := hp.sm (by omega) _ _
        have hdk2 : Dk (sm M 68 h x) := hdk.d (by omega)
        have hw12 : ∀ y : Int, 0 ≤ y → y ≤ 99 → sm M 68 h x 55 y = if mtV M0 t h o y = 0 then 1 else 0 := fun y y0 y1 => by rw [sm_n (by decide)]; exact hw1 y y0 y1
        have hw22 : ∀ y : Int, 0 ≤ y → y ≤ 99 → sm M 68 h x 56 y = if mtV M0 t o h y = 0 then 1 else 0 := fun y y0 y1 => by rw [sm_n (by decide)]; exact hw2 y y0 y1
        refine a_anyV (as := [_, _, _, _]) (q := 54) dX3_findPrivate_119 mvX3_57 ⟨by decide, by decide⟩ (L54 L) rfl rfl rfl (Nat.le_of_ble_eq_true rfl) ⟨rfl, rfl⟩ ⟨by decide, by decide⟩ (m_X3_isPrivate hc hI hp2 hdk2 h0 h1 o0 o1 hne hw22 ⟨by omega, by omega⟩) (fun x119 M119 hM119 => ?_)
        obtain ⟨⟨a1, a2, a3, a4⟩, a5, a6⟩ := hM119
        rw [sm_s] at a5
        have hw13 : ∀ y : Int, 0 ≤ y → y ≤ 99 → M119 55 y = if mtV M0 t h o y = 0 then 1 else 0 := fun y y0 y1 => by rw [a3 55 (by decide) (by decide)]; exact hw12 y y0 y1
        have hw23 : ∀ y : Int, 0 ≤ y → y ≤ 99 → M119 56 y = if mtV M0 t o h y = 0 then 1 else 0 := fun y y0 y1 => by rw [a3 56 (by decide) (by decide)]; exact hw22 y y0 y1
        have z119 : prV M0 t h o x (e - (s - iabs (x - d))) = 0 ∨ prV M0 t h o x (e - (s - iabs (x - d))) = 1 := by unfold prV; split <;> simp
        refine a_if_ne (tgt := 140) dX3_findPrivate_122 (by decide) ⟨by omega, by omega⟩ (fun hb122 => ?_) (fun hb122 => ?_)
        · refine a_aloadn dX3_findPrivate_140 rfl ?_
          refine a_getR (j' := 7) (y := 60) dX3_findPrivate_141 flX3_28 rfl rfl (L54 L) (p54_7 hP) ?_
          refine a_iconst dX3_findPrivate_144 ?_
          refine a_iload dX3_findPrivate_145 rfl ?_
          refine a_iast (N := 4) dX3_findPrivate_147 (L60 L) (by decide) (by decide) (by omega) (by omega) ⟨by omega, by omega⟩ ?_
          refine a_aloadn dX3_findPrivate_148 rfl ?_
          refine a_getR (j' := 7) (y := 60) dX3_findPrivate_149 flX3_28 rfl rfl (L54 L) (p54_7 hP) ?_
          refine a_iconst dX3_findPrivate_152 ?_
          refine a_aloadn dX3_findPrivate_153 rfl ?_
          refine a_getR (j' := 0) (y := 68) dX3_findPrivate_154 flX3_35 rfl rfl (L67 L) (p67_0 hP) ?_
          refine a_iloadn dX3_findPrivate_157 rfl ?_
          refine b_iald (N := 6) dX3_findPrivate_158 (L68 L) (by decide) (by omega) (by omega) (fun hr158 => ?_)
          try simp (disch := omega) only [sm_n, sm_k, us_s, us_n] at hr158 ⊢
          first
          | (have ey := b6 (by omega)
             rw [ey] at hr158
             rw [ey]
             have hrs := hres (x, e + (s - iabs (x - d))) (by simp only [fpI]; rw [if_neg (by omega), if_pos (by omega)])
             have hpp := b1)
          | (have ey := a6 (by omega)
             rw [ey] at hr158
             rw [ey]
             have hrs := hres (x, e - (s - iabs (x - d))) (by simp only [fpI]; rw [if_pos (by omega)])
             have hpp := a1)
          refine a_iast (N := 4) dX3_findPrivate_159 (L60 L) (by decide) (by decide) (by decide) (by decide) ⟨by omega, by omega⟩ ?_
          refine a_aloadn dX3_findPrivate_160 rfl ?_
          refine a_iload dX3_findPrivate_161 rfl ?_
          refine a_putI (j' := 8) dX3_findPrivate_163 flX3_61 rfl rfl (L54 L) (by decide) rfl ⟨by omega, by omega⟩ ?_
          refine a_iconst dX3_findPrivate_166 ?_
          exact a_zreturn dX3_findPrivate_167 rfl rfl rfl (by omega) (zany_i ⟨((hpp.sm (by omega) _ _).sm (by omega) _ _).sm (by omega) _ _, Or.inr ⟨rfl, _, _, _, hrs, by rw [sm_n (by decide), sm_k, us_n (by decide), sm_s], by rw [sm_n (by decide), sm_s], by rw [sm_s]⟩⟩)
        · refine a_aloadn dX3_findPrivate_125 rfl ?_
          refine a_aloadn dX3_findPrivate_126 rfl ?_
          refine a_iloadn dX3_findPrivate_127 rfl ?_
          refine a_iloadn dX3_findPrivate_128 rfl ?_
          refine a_iload dX3_findPrivate_129 rfl ?_
          refine a_iload dX3_findPrivate_131 rfl ?_
          refine a_iadd dX3_findPrivate_133 ?_
          refine a_anyV (as := [_, _, _, _]) (q := 54) dX3_findPrivate_134 mvX3_57 ⟨by decide, by decide⟩ (L54 L) rfl rfl rfl (Nat.le_of_ble_eq_true rfl) ⟨rfl, rfl⟩ ⟨by decide, by decide⟩ (m_X3_isPrivate hc hI a1 a2 h0 h1 o0 o1 hne hw23 ⟨by omega, by omega⟩) (fun x134 M134 hM134 => ?_)
          obtain ⟨⟨b1, b2, b3, b4⟩, b5, b6⟩ := hM134
          rw [a4 h hne, sm_s] at b5
          have hw14 : ∀ y : Int, 0 ≤ y → y ≤ 99 → M134 55 y = if mtV M0 t h o y = 0 then 1 else 0 := fun y y0 y1 => by rw [b3 55 (by decide) (by decide)]; exact hw13 y y0 y1
          have hw24 : ∀ y : Int, 0 ≤ y → y ≤ 99 → M134 56 y = if mtV M0 t o h y = 0 then 1 else 0 := fun y y0 y1 => by rw [b3 56 (by decide) (by decide)]; exact hw23 y y0 y1
          have z134 : prV M0 t h o x (e + (s - iabs (x - d))) = 0 ∨ prV M0 t h o x (e + (s - iabs (x - d))) = 1 := by unfold prV; split <;> simp
          refine a_if_eq (tgt := 168) dX3_findPrivate_137 (by decide) ⟨by omega, by omega⟩ (fun hb137 => ?_) (fun hb137 => ?_)
          · refine c_iinc (ls' := [_, _, _, _, _, _, _, _, _, _]) dX3_findPrivate_168 rfl (by decide) rfl rfl ?_
            refine a_goto (tgt := 72) dX3_findPrivate_171 (by decide) ?_
            refine a_forget [9] (ls' := [_, _, _, _, _, _, _, _, _, none]) rfl ?_
            simp only [fpI] at hres kk
            rw [if_neg (by omega), if_neg (by omega)] at hres kk
            first
            | exact ih _ _ (by omega) (by omega) b1 b2 hw14 hw24 hres kk
            | exact ih _ _ (by omega) (by omega) (hp.sm (by omega) _ _) (hdk.d (by omega)) (fun y y0 y1 => by rw [sm_n (by decide)]; exact hw1 y y0 y1) (fun y y0 y1 => by rw [sm_n (by decide)]; exact hw2 y y0 y1) hres kk
          · refine a_aloadn dX3_findPrivate_140 rfl ?_
            refine a_getR (j' := 7) (y := 60) dX3_findPrivate_141 flX3_28 rfl rfl (L54 L) (p54_7 hP) ?_
            refine a_iconst dX3_findPrivate_144 ?_
            refine a_iload dX3_findPrivate_145 rfl ?_
            refine a_iast (N := 4) dX3_findPrivate_147 (L60 L) (by decide) (by decide) (by omega) (by omega) ⟨by omega, by omega⟩ ?_
            refine a_aloadn dX3_findPrivate_148 rfl ?_
            refine a_getR (j' := 7) (y := 60) dX3_findPrivate_149 flX3_28 rfl rfl (L54 L) (p54_7 hP) ?_
            refine a_iconst dX3_findPrivate_152 ?_
            refine a_aloadn dX3_findPrivate_153 rfl ?_
            refine a_getR (j' := 0) (y := 68) dX3_findPrivate_154 flX3_35 rfl rfl (L67 L) (p67_0 hP) ?_
            refine a_iloadn dX3_findPrivate_157 rfl ?_
            refine b_iald (N := 6) dX3_findPrivate_158 (L68 L) (by decide) (by omega) (by omega) (fun hr158 => ?_)
            try simp (disch := omega) only [sm_n, sm_k, us_s, us_n] at hr158 ⊢
            first
            | (have ey := b6 (by omega)
               rw [ey] at hr158
               rw [ey]
               have hrs := hres (x, e + (s - iabs (x - d))) (by simp only [fpI]; rw [if_neg (by omega), if_pos (by omega)])
               have hpp := b1)
            | (have ey := a6 (by omega)
               rw [ey] at hr158
               rw [ey]
               have hrs := hres (x, e - (s - iabs (x - d))) (by simp only [fpI]; rw [if_pos (by omega)])
               have hpp := a1)
            refine a_iast (N := 4) dX3_findPrivate_159 (L60 L) (by decide) (by decide) (by decide) (by decide) ⟨by omega, by omega⟩ ?_
            refine a_aloadn dX3_findPrivate_160 rfl ?_
            refine a_iload dX3_findPrivate_161 rfl ?_
            refine a_putI (j' := 8) dX3_findPrivate_163 flX3_61 rfl rfl (L54 L) (by decide) rfl ⟨by omega, by omega⟩ ?_
            refine a_iconst dX3_findPrivate_166 ?_
            exact a_zreturn dX3_findPrivate_167 rfl rfl rfl (by omega) (zany_i ⟨((hpp.sm (by omega) _ _).sm (by omega) _ _).sm (by omega) _ _, Or.inr ⟨rfl, _, _, _, hrs, by rw [sm_n (by decide), sm_k, us_n (by decide), sm_s], by rw [sm_n (by decide), sm_s], by rw [sm_s]⟩⟩)

set_option maxRecDepth 100000 in
set_option maxHeartbeats 4000000 in
theorem lpX3_findPrivate {G : zG} {l : Launch} {L : Nat} {P : zP} {M0 : zM} {t : Nat} {h o d e : Int} {res : Option (Int × Int × Int)} (hc : CS L P t 67) (hI : CI M0 t 67) (h0 : 0 ≤ h) (h1 : h < 6) (o0 : 0 ≤ o) (o1 : o < 6) (hne : h ≠ o) (rd : 0 ≤ d ∧ d ≤ 99) (re : 0 ≤ e ∧ e ≤ 99) : ∀ (n : Nat) (s : Int) (M : zM) (g0 : 0 ≤ s) (g1 : s + n = 199) (hp : Pq M0 M) (hdk : Dk M) (hw1 : ∀ y : Int, 0 ≤ y → y ≤ 99 → M 55 y = if mtV M0 t h o y = 0 then 1 else 0) (hw2 : ∀ y : Int, 0 ≤ y → y ≤ 99 → M 56 y = if mtV M0 t o h y = 0 then 1 else 0) (hres : fpO M0 t h o d e n s = res), AW G l mdX3_findPrivate (zany (LAY L) P (fun r M' => Pq M0 M' ∧ ((r = 0 ∧ res = none) ∨ (r = 1 ∧ ∃ x y s, res = some (x, y, s) ∧ M' 60 0 = x ∧ M' 60 1 = y ∧ M' 54 8 = s)))) 41 [some (aR 54), some (aR 67), some (aI h), some (aI o), some (aI d), some (aI e), some (aI s), none, none, none] [] (LAY L) P M 0 0 := by
  intro n
  induction n with
  | zero =>
    intro s M g0 g1 hp hdk hw1 hw2 hres
    obtain ⟨hP, hTp, hT, ht, hS, ha⟩ := id hc
    have q1 := hI.1.1
    refine a_iload dX3_findPrivate_41 rfl ?_
    refine a_sipush (w := 198) dX3_findPrivate_43 (by decide) ?_
    refine a_icmp_gt (tgt := 180) dX3_findPrivate_46 (by decide) ⟨by omega, by omega⟩ ⟨by omega, by omega⟩ (fun hb46 => ?_) (fun hb46 => ?_)
    · refine a_iconst dX3_findPrivate_180 ?_
      exact a_zreturn dX3_findPrivate_181 rfl rfl rfl (by omega) (zany_i ⟨hp, Or.inl ⟨rfl, hres.symm⟩⟩)
    · exfalso; omega
  | succ n ih =>
    intro s M g0 g1 hp hdk hw1 hw2 hres
    obtain ⟨hP, hTp, hT, ht, hS, ha⟩ := id hc
    have q1 := hI.1.1
    refine a_iload dX3_findPrivate_41 rfl ?_
    refine a_sipush (w := 198) dX3_findPrivate_43 (by decide) ?_
    refine a_icmp_gt (tgt := 180) dX3_findPrivate_46 (by decide) ⟨by omega, by omega⟩ ⟨by omega, by omega⟩ (fun hb46 => ?_) (fun hb46 => ?_)
    · exfalso; omega
    · refine a_bipush (w := 99) dX3_findPrivate_49 (by decide) ?_
      refine a_iload dX3_findPrivate_51 rfl ?_
      refine a_iload dX3_findPrivate_53 rfl ?_
      refine a_iadd dX3_findPrivate_55 ?_
      refine a_min dX3_findPrivate_56 mmX3_44 (Nat.le_of_ble_eq_true rfl) ⟨by decide, by decide⟩ ⟨by decide, by decide⟩ ⟨by omega, by omega⟩ ⟨by omega, by omega⟩ ?_
      refine c_istore (ls' := [_, _, _, _, _, _, _, _, _, _]) dX3_findPrivate_59 (by decide) rfl rfl ?_
      refine a_iconst dX3_findPrivate_61 ?_
      refine a_iload dX3_findPrivate_62 rfl ?_
      refine a_iload dX3_findPrivate_64 rfl ?_
      refine a_isub dX3_findPrivate_66 ?_
      refine a_max dX3_findPrivate_67 mmX3_50 (Nat.le_of_ble_eq_true rfl) ⟨by decide, by decide⟩ ⟨by decide, by decide⟩ ⟨by omega, by omega⟩ ⟨by omega, by omega⟩ ?_
      refine c_istore (ls' := [_, _, _, _, _, _, _, _, _, _]) dX3_findPrivate_70 (by decide) rfl rfl ?_
      simp only [fpO] at hres
      refine lpX3_findPrivate_in hc hI h0 h1 o0 o1 hne rd re ⟨g0, by omega⟩ (by split <;> omega) ((if d + s < 99 then d + s else 99) - (if 0 < d - s then d - s else 0) + 1).toNat _ M (by split <;> omega) (by split <;> split <;> omega) hp hdk hw1 hw2 (fun p hp9 => by rw [hp9] at hres; exact hres.symm) (fun M' c1 c2 c3 c4 c5 => ?_)
      rw [c5] at hres
      refine c_iinc (ls' := [_, _, _, _, _, _, _, _, _, _]) dX3_findPrivate_174 rfl (by decide) rfl rfl ?_
      refine a_goto (tgt := 41) dX3_findPrivate_177 (by decide) ?_
      exact ih _ _ (by omega) (by omega) c1 c2 c3 c4 hres

set_option maxRecDepth 100000 in
set_option maxHeartbeats 4000000 in
theorem m_X3_findPrivate {G : zG} {l : Launch} {L : Nat} {P : zP} {M : zM} {t : Nat} {h o : Int} (hc : CS L P t 67) (hI : CI M t 67) (h0 : 0 ≤ h) (h1 : h < 6) (o0 : 0 ≤ o) (o1 : o < 6) (hne : h ≠ o) : AM G l yX3_findPrivate mdX3_findPrivate [aR 54, aR 67, aI h, aI o] (LAY L) P M (zany (LAY L) P (fun r M' => Pq M M' ∧ ((r = 0 ∧ fpO M t h o (M 68 h) (M 68 o) 199 0 = none) ∨ (r = 1 ∧ ∃ x y s, fpO M t h o (M 68 h) (M 68 o) 199 0 = some (x, y, s) ∧ M' 60 0 = x ∧ M' 60 1 = y ∧ M' 54 8 = s)))) := by
  obtain ⟨hP, hTp, hT, ht, hS, ha⟩ := id hc
  have q1 := hI.1.1
  refine AM.go [some (aR 54), some (aR 67), some (aI h), some (aI o), none, none, none, none, none, none] rfl (Nat.le_of_ble_eq_true rfl) ?_ (by decide) rfl rfl
  refine a_aloadn dX3_findPrivate_0 rfl ?_
  refine a_getR (j' := 0) (y := 68) dX3_findPrivate_1 flX3_35 rfl rfl (L67 L) (p67_0 hP) ?_
  refine a_iloadn dX3_findPrivate_4 rfl ?_
  refine b_iald (N := 6) dX3_findPrivate_5 (L68 L) (by decide) (by omega) (by omega) (fun hr5 => ?_)
  have q5 := hI.2.2.1.1 h h0 h1
  have q6 : 0 ≤ M 68 h ∧ M 68 h ≤ 99 := q5
  refine c_istore (ls' := [_, _, _, _, _, _, _, _, _, _]) dX3_findPrivate_6 (by decide) rfl rfl ?_
  refine a_aloadn dX3_findPrivate_8 rfl ?_
  refine a_getR (j' := 0) (y := 68) dX3_findPrivate_9 flX3_35 rfl rfl (L67 L) (p67_0 hP) ?_
  refine a_iloadn dX3_findPrivate_12 rfl ?_
  refine b_iald (N := 6) dX3_findPrivate_13 (L68 L) (by decide) (by omega) (by omega) (fun hr13 => ?_)
  have q7 := hI.2.2.1.1 o o0 o1
  have q8 : 0 ≤ M 68 o ∧ M 68 o ≤ 99 := q7
  refine c_istore (ls' := [_, _, _, _, _, _, _, _, _, _]) dX3_findPrivate_14 (by decide) rfl rfl ?_
  refine a_aloadn dX3_findPrivate_16 rfl ?_
  refine a_aloadn dX3_findPrivate_17 rfl ?_
  refine a_iloadn dX3_findPrivate_18 rfl ?_
  refine a_iloadn dX3_findPrivate_19 rfl ?_
  refine a_aloadn dX3_findPrivate_20 rfl ?_
  refine a_getR (j' := 1) (y := 55) dX3_findPrivate_21 flX3_11 rfl rfl (L54 L) (p54_1 hP) ?_
  refine a_relVv (as := [_, _, _, _]) (q := 54) dX3_findPrivate_24 mvX3_40 ⟨by decide, by decide⟩ (L54 L) rfl rfl rfl (Nat.le_of_ble_eq_true rfl) ⟨rfl, rfl⟩ ⟨by decide, by decide⟩ (m_markOwn55 hc hI (Pq.rf M) (fun j j0 j1 => hI.2.2.1.1 j j0 j1) h0 h1 ⟨by omega, by omega⟩ (fun _ _ _ => rfl)) (fun M1 hM1 => ?_)
  obtain ⟨a1, a2, a3, a4, a5⟩ := hM1
  refine a_aloadn dX3_findPrivate_27 rfl ?_
  refine a_aloadn dX3_findPrivate_28 rfl ?_
  refine a_iloadn dX3_findPrivate_29 rfl ?_
  refine a_iloadn dX3_findPrivate_30 rfl ?_
  refine a_aloadn dX3_findPrivate_31 rfl ?_
  refine a_getR (j' := 2) (y := 56) dX3_findPrivate_32 flX3_15 rfl rfl (L54 L) (p54_2 hP) ?_
  refine a_relVv (as := [_, _, _, _]) (q := 54) dX3_findPrivate_35 mvX3_40 ⟨by decide, by decide⟩ (L54 L) rfl rfl rfl (Nat.le_of_ble_eq_true rfl) ⟨rfl, rfl⟩ ⟨by decide, by decide⟩ (m_markOwn56 hc hI a1 a2 o0 o1 ⟨by omega, by omega⟩ a3) (fun M2 hM2 => ?_)
  obtain ⟨b1, b2, b3, b4, b5⟩ := hM2
  refine a_iconst dX3_findPrivate_38 ?_
  refine c_istore (ls' := [_, _, _, _, _, _, _, _, _, _]) dX3_findPrivate_39 (by decide) rfl rfl ?_
  exact lpX3_findPrivate hc hI h0 h1 o0 o1 hne q6 q8 199 0 M2 (by omega) (by omega) b1 b2 (fun y y0 y1 => by rw [b5 55 (by decide) (by decide) (by decide)]; exact a4 y y0 y1) b4 rfl
