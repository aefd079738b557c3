set_option maxRecDepth 100000 in
set_option maxHeartbeats 4000000 in
theorem lpX3_isMet {G : zG} {l : Launch} {L : Nat} {P : zP} {M0 Mi : zM} {t : Nat} {h b : Int} (hc : CS L P t 67) (hI : CI M0 t 67) (hp : Pq M0 Mi) (hdk : Dk Mi) (h0 : 0 ≤ h) (h1 : h < 6) (rb : inR b) (ho : ∀ j : Int, 0 ≤ j → j < 6 → j ≠ h → j ≠ b → Mi 68 j = M0 68 j) : ∀ (n : Nat) (i : Int) (M : zM) (g0 : 0 ≤ i) (g1 : i + n = M0 t 2) (hE : Ec Mi M), AW G l mdX3_isMet (zany (LAY L) P (fun r M' => Ec Mi M' ∧ r = zex (mtf M0 t h b (Mi 68 h)) n i)) 3 [some (aR 54), some (aR 67), some (aI h), some (aI b), some (aI i)] [] (LAY L) P M 0 0 := by
  intro n
  induction n with
  | zero =>
    intro i M g0 g1 hE
    obtain ⟨hP, hTp, hT, ht, hS, ha⟩ := id hc
    have q1 := hI.1.1
    refine a_iload dX3_isMet_3 rfl ?_
    refine a_aloadn dX3_isMet_5 rfl ?_
    refine a_getR (j' := 0) (y := 50) dX3_isMet_6 flX3_31 rfl rfl (L54 L) (p54_0 hP) ?_
    refine a_getR (j' := 0) (y := t) dX3_isMet_9 flX3_69 rfl rfl (L50 L) hTp ?_
    refine b_getI (j' := 2) dX3_isMet_12 flX3_75 rfl rfl hT.1.2.1 (fun hr12 => ?_)
    have e12 : M t 2 = M0 t 2 := by rw [(hp.ec hE) t (by omega)]
    rw [e12] at hr12
    rw [e12]
    refine a_icmp_ge (tgt := 66) dX3_isMet_15 (by decide) ⟨by omega, by omega⟩ ⟨by omega, by omega⟩ (fun hb15 => ?_) (fun hb15 => ?_)
    · refine a_iconst dX3_isMet_66 ?_
      exact a_zreturn dX3_isMet_67 rfl rfl rfl (by omega) (zany_i ⟨hE, rfl⟩)
    · exfalso; omega
  | succ n ih =>
    intro i M g0 g1 hE
    obtain ⟨hP, hTp, hT, ht, hS, ha⟩ := id hc
    have q1 := hI.1.1
    refine a_iload dX3_isMet_3 rfl ?_
    refine a_aloadn dX3_isMet_5 rfl ?_
    refine a_getR (j' := 0) (y := 50) dX3_isMet_6 flX3_31 rfl rfl (L54 L) (p54_0 hP) ?_
    refine a_getR (j' := 0) (y := t) dX3_isMet_9 flX3_69 rfl rfl (L50 L) hTp ?_
    refine b_getI (j' := 2) dX3_isMet_12 flX3_75 rfl rfl hT.1.2.1 (fun hr12 => ?_)
    have e12 : M t 2 = M0 t 2 := by rw [(hp.ec hE) t (by omega)]
    rw [e12] at hr12
    rw [e12]
    refine a_icmp_ge (tgt := 66) dX3_isMet_15 (by decide) ⟨by omega, by omega⟩ ⟨by omega, by omega⟩ (fun hb15 => ?_) (fun hb15 => ?_)
    · exfalso; omega
    · refine a_iload dX3_isMet_18 rfl ?_
      refine a_iloadn dX3_isMet_20 rfl ?_
      refine a_icmp_eq (tgt := 60) dX3_isMet_21 (by decide) ⟨by omega, by omega⟩ ⟨by omega, by omega⟩ (fun hb21 => ?_) (fun hb21 => ?_)
      · refine c_iinc (ls' := [_, _, _, _, _]) dX3_isMet_60 rfl (by decide) rfl rfl ?_
        refine a_goto (tgt := 3) dX3_isMet_63 (by decide) ?_
        simp only [zex]
        first
        | (rw [if_pos (by unfold mtf; rw [if_pos (by omega)])]; exact ih _ _ (by omega) (by omega) hE)
        | (rw [if_pos (by unfold mtf; rw [if_neg (by omega), if_neg (by omega)])]; exact ih _ _ (by omega) (by omega) hE52)
      · refine a_iload dX3_isMet_24 rfl ?_
        refine a_iloadn dX3_isMet_26 rfl ?_
        refine a_icmp_eq (tgt := 60) dX3_isMet_27 (by decide) ⟨by omega, by omega⟩ rb (fun hb27 => ?_) (fun hb27 => ?_)
        · refine c_iinc (ls' := [_, _, _, _, _]) dX3_isMet_60 rfl (by decide) rfl rfl ?_
          refine a_goto (tgt := 3) dX3_isMet_63 (by decide) ?_
          simp only [zex]
          first
          | (rw [if_pos (by unfold mtf; rw [if_pos (by omega)])]; exact ih _ _ (by omega) (by omega) hE)
          | (rw [if_pos (by unfold mtf; rw [if_neg (by omega), if_neg (by omega)])]; exact ih _ _ (by omega) (by omega) hE52)
        · have hci38 := (hp.ec hE).ci hI (by omega) (hdk.ec hE)
          have ei : Mi 68 i = M0 68 i := ho i (by omega) (by omega) (by omega) (by omega)
          refine a_aloadn dX3_isMet_30 rfl ?_
          refine a_getR (j' := 0) (y := 50) dX3_isMet_31 flX3_31 rfl rfl (L54 L) (p54_0 hP) ?_
          refine a_aloadn dX3_isMet_34 rfl ?_
          refine a_iloadn dX3_isMet_35 rfl ?_
          refine a_iload dX3_isMet_36 rfl ?_
          refine a_anyV (as := [_, _, _]) (q := 50) dX3_isMet_38 mvX3_80 ⟨by decide, by decide⟩ (L50 L) rfl rfl rfl (Nat.le_of_ble_eq_true rfl) ⟨rfl, rfl⟩ ⟨by decide, by decide⟩ (m_doesHear hc hci38 (by omega) (by omega) (by omega) (by omega)) (fun x38 M38 hM38 => ?_)
          have hE38 := hE.tr hM38.1
          have hx38 := hM38.2
          rw [hE.hr (by omega) (by omega), hp.hr (by omega), ei] at hx38
          have z38 := hd01 M0 t h i (Mi 68 h) (M0 68 i)
          have hci52 := (hp.ec hE38).ci hI (by omega) (hdk.ec hE38)
          refine a_if_ne (tgt := 58) dX3_isMet_41 (by decide) ⟨by omega, by omega⟩ (fun hb41 => ?_) (fun hb41 => ?_)
          · refine a_iconst dX3_isMet_58 ?_
            exact a_zreturn dX3_isMet_59 rfl rfl rfl (by omega) (by first | exact zany_i ⟨hE52, by simp only [zex]; rw [if_neg (by unfold mtf; rw [if_neg (by omega), if_pos (by omega)]; decide)]⟩ | exact zany_i ⟨hE38, by simp only [zex]; rw [if_neg (by unfold mtf; rw [if_neg (by omega), if_pos (by omega)]; decide)]⟩)
          · refine a_aloadn dX3_isMet_44 rfl ?_
            refine a_getR (j' := 0) (y := 50) dX3_isMet_45 flX3_31 rfl rfl (L54 L) (p54_0 hP) ?_
            refine a_aloadn dX3_isMet_48 rfl ?_
            refine a_iload dX3_isMet_49 rfl ?_
            refine a_iloadn dX3_isMet_51 rfl ?_
            refine a_anyV (as := [_, _, _]) (q := 50) dX3_isMet_52 mvX3_80 ⟨by decide, by decide⟩ (L50 L) rfl rfl rfl (Nat.le_of_ble_eq_true rfl) ⟨rfl, rfl⟩ ⟨by decide, by decide⟩ (m_doesHear hc hci52 (by omega) (by omega) (by omega) (by omega)) (fun x52 M52 hM52 => ?_)
            have hE52 := hE38.tr hM52.1
            have hx52 := hM52.2
            rw [hE38.hr (by omega) (by omega), hp.hr (by omega), ei] at hx52
            have z52 := hd01 M0 t i h (M0 68 i) (Mi 68 h)
            refine a_if_eq (tgt := 60) dX3_isMet_55 (by decide) ⟨by omega, by omega⟩ (fun hb55 => ?_) (fun hb55 => ?_)
            · refine c_iinc (ls' := [_, _, _, _, _]) dX3_isMet_60 rfl (by decide) rfl rfl ?_
              refine a_goto (tgt := 3) dX3_isMet_63 (by decide) ?_
              simp only [zex]
              first
              | (rw [if_pos (by unfold mtf; rw [if_pos (by omega)])]; exact ih _ _ (by omega) (by omega) hE)
              | (rw [if_pos (by unfold mtf; rw [if_neg (by omega), if_neg (by omega)])]; exact ih _ _ (by omega) (by omega) hE52)
            · refine a_iconst dX3_isMet_58 ?_
              exact a_zreturn dX3_isMet_59 rfl rfl rfl (by omega) (by first | exact zany_i ⟨hE52, by simp only [zex]; rw [if_neg (by unfold mtf; rw [if_neg (by omega), if_pos (by omega)]; decide)]⟩ | exact zany_i ⟨hE38, by simp only [zex]; rw [if_neg (by unfold mtf; rw [if_neg (by omega), if_pos (by omega)]; decide)]⟩)

set_option maxRecDepth 100000 in
set_option maxHeartbeats 4000000 in
theorem m_X3_isMet {G : zG} {l : Launch} {L : Nat} {P : zP} {M : zM} {M0 : zM} {t : Nat} {h b : Int} (hc : CS L P t 67) (hI : CI M0 t 67) (hp : Pq M0 M) (hdk : Dk M) (h0 : 0 ≤ h) (h1 : h < 6) (rb : inR b) (ho : ∀ j : Int, 0 ≤ j → j < 6 → j ≠ h → j ≠ b → M 68 j = M0 68 j) : AM G l yX3_isMet mdX3_isMet [aR 54, aR 67, aI h, aI b] (LAY L) P M (zany (LAY L) P (fun r M' => Ec M M' ∧ r = mtV M0 t h b (M 68 h))) := by
  obtain ⟨hP, hTp, hT, ht, hS, ha⟩ := id hc
  have q1 := hI.1.1
  refine AM.go [some (aR 54), some (aR 67), some (aI h), some (aI b), none] rfl (Nat.le_of_ble_eq_true rfl) ?_ (by decide) rfl rfl
  refine a_iconst dX3_isMet_0 ?_
  refine c_istore (ls' := [_, _, _, _, _]) dX3_isMet_1 (by decide) rfl rfl ?_
  exact lpX3_isMet hc hI hp hdk h0 h1 rb ho (M0 t 2).toNat 0 M (by omega) (by omega) (Ec.rf M)

set_option maxRecDepth 100000 in
set_option maxHeartbeats 4000000 in
theorem m_X3_isHidden {G : zG} {l : Launch} {L : Nat} {P : zP} {M : zM} {M0 : zM} {t : Nat} {h x : Int} (hc : CS L P t 67) (hI : CI M0 t 67) (hp : Pq M0 M) (hdk : Dk M) (h0 : 0 ≤ h) (h1 : h < 6) (ho : ∀ j : Int, 0 ≤ j → j < 6 → j ≠ h → M 68 j = M0 68 j) (rx : inR x) : AM G l yX3_isHidden mdX3_isHidden [aR 54, aR 67, aI h, aI x] (LAY L) P M (zany (LAY L) P (fun r M' => Pq M0 M' ∧ Dk M' ∧ (∀ j : Int, 0 ≤ j → j < 6 → j ≠ h → M' 68 j = M0 68 j) ∧ r = hidV M0 t h x)) := by
  obtain ⟨hP, hTp, hT, ht, hS, ha⟩ := id hc
  have q1 := hI.1.1
  refine AM.go [some (aR 54), some (aR 67), some (aI h), some (aI x)] rfl (Nat.le_of_ble_eq_true rfl) ?_ (by decide) rfl rfl
  refine a_iloadn dX3_isHidden_0 rfl ?_
  refine a_iconst dX3_isHidden_1 ?_
  refine a_bipush (w := 99) dX3_isHidden_2 (by decide) ?_
  refine a_oneSN (as := [_, _, _]) dX3_isHidden_4 mvX3_83 ⟨by decide, by decide⟩ rfl rfl (Nat.le_of_ble_eq_true rfl) ⟨rfl, rfl⟩ ⟨by decide, by decide⟩ (m_X10_isWithin ⟨by omega, by omega⟩ ⟨by omega, by omega⟩ ⟨by omega, by omega⟩) (fun x4 hx4 => ?_)
  refine a_if_ne (tgt := 12) dX3_isHidden_7 (by decide) ⟨by omega, by omega⟩ (fun hb7 => ?_) (fun hb7 => ?_)
  · refine a_aloadn dX3_isHidden_12 rfl ?_
    refine a_getR (j' := 0) (y := 68) dX3_isHidden_13 flX3_35 rfl rfl (L67 L) (p67_0 hP) ?_
    refine a_iloadn dX3_isHidden_16 rfl ?_
    refine a_iloadn dX3_isHidden_17 rfl ?_
    refine a_iast (N := 6) dX3_isHidden_18 (L68 L) (by decide) (by decide) (by omega) (by omega) ⟨by omega, by omega⟩ ?_
    refine a_aloadn dX3_isHidden_19 rfl ?_
    refine a_aloadn dX3_isHidden_20 rfl ?_
    refine a_iloadn dX3_isHidden_21 rfl ?_
    refine a_iloadn dX3_isHidden_22 rfl ?_
    have hp2 : Pq M0 (sm M 68 h x) := hp.sm (by omega) _ _
    have hdk2 : Dk (sm M 68 h x) := hdk.d (by omega)
    refine a_anyV (as := [_, _, _]) (q := 54) dX3_isHidden_23 mvX3_65 ⟨by decide, by decide⟩ (L54 L) rfl rfl rfl (Nat.le_of_ble_eq_true rfl) ⟨rfl, rfl⟩ ⟨by decide, by decide⟩ (m_X3_isMet hc hI hp2 hdk2 h0 h1 ⟨by omega, by omega⟩ (fun j j0 j1 j2 _ => by rw [sm_k, us_n j2]; exact ho j j0 j1 j2)) (fun x9 M1 hM1 => ?_)
    have hx9 := hM1.2
    rw [sm_s] at hx9
    have z9 := zex01 (mtf M0 t h h x) (M0 t 2).toNat 0
    have z10 : mtV M0 t h h x = 0 ∨ mtV M0 t h h x = 1 := z9
    refine a_if_ne (tgt := 33) dX3_isHidden_26 (by decide) ⟨by omega, by omega⟩ (fun hb26 => ?_) (fun hb26 => ?_)
    · refine a_iconst dX3_isHidden_33 ?_
      exact a_zreturn dX3_isHidden_34 rfl rfl rfl (by omega) (by first | exact zany_i ⟨hp2.ec hM1.1, hdk2.ec hM1.1, (fun j j0 j1 j2 => by rw [hM1.1 68 j (by decide) (by decide) (by omega), sm_k, us_n j2]; exact ho j j0 j1 j2), by unfold hidV; rw [if_pos (by omega)]⟩ | exact zany_i ⟨hp2.ec hM1.1, hdk2.ec hM1.1, (fun j j0 j1 j2 => by rw [hM1.1 68 j (by decide) (by decide) (by omega), sm_k, us_n j2]; exact ho j j0 j1 j2), by unfold hidV; rw [if_neg (by omega)]⟩)
    · refine a_iconst dX3_isHidden_29 ?_
      refine a_goto (tgt := 34) dX3_isHidden_30 (by decide) ?_
      exact a_zreturn dX3_isHidden_34 rfl rfl rfl (by omega) (by first | exact zany_i ⟨hp2.ec hM1.1, hdk2.ec hM1.1, (fun j j0 j1 j2 => by rw [hM1.1 68 j (by decide) (by decide) (by omega), sm_k, us_n j2]; exact ho j j0 j1 j2), by unfold hidV; rw [if_pos (by omega)]⟩ | exact zany_i ⟨hp2.ec hM1.1, hdk2.ec hM1.1, (fun j j0 j1 j2 => by rw [hM1.1 68 j (by decide) (by decide) (by omega), sm_k, us_n j2]; exact ho j j0 j1 j2), by unfold hidV; rw [if_neg (by omega)]⟩)
  · refine a_iconst dX3_isHidden_10 ?_
    exact a_zreturn dX3_isHidden_11 rfl rfl rfl (by omega) (zany_i ⟨hp, hdk, ho, by unfold hidV; rw [if_neg (by omega)]⟩)

set_option maxRecDepth 100000 in
set_option maxHeartbeats 4000000 in
theorem lpX3_findHidden {G : zG} {l : Launch} {L : Nat} {P : zP} {M0 : zM} {t : Nat} {h d : Int} (hc : CS L P t 67) (hI : CI M0 t 67) (h0 : 0 ≤ h) (h1 : h < 6) (rd : 0 ≤ d ∧ d ≤ 99) : ∀ (n : Nat) (s : Int) (M : zM) (g0 : 0 ≤ s) (g1 : s + n = 100) (hp : Pq M0 M) (hdk : Dk M) (ho : ∀ j : Int, 0 ≤ j → j < 6 → j ≠ h → M 68 j = M0 68 j), AW G l mdX3_findHidden (zany (LAY L) P (fun r M' => Pq M0 M' ∧ r = fhF (hidV M0 t h) d n s)) 10 [some (aR 54), some (aR 67), some (aI h), some (aI d), some (aI s)] [] (LAY L) P M 0 0 := by
  intro n
  induction n with
  | zero =>
    intro s M g0 g1 hp hdk ho
    obtain ⟨hP, hTp, hT, ht, hS, ha⟩ := id hc
    have q1 := hI.1.1
    refine a_iload dX3_findHidden_10 rfl ?_
    refine a_bipush (w := 99) dX3_findHidden_12 (by decide) ?_
    refine a_icmp_gt (tgt := 59) dX3_findHidden_14 (by decide) ⟨by omega, by omega⟩ ⟨by omega, by omega⟩ (fun hb14 => ?_) (fun hb14 => ?_)
    · refine a_bipush (w := (-2)) dX3_findHidden_59 (by decide) ?_
      exact a_ireturn dX3_findHidden_61 rfl rfl rfl (zany_i ⟨hp, rfl⟩)
    · exfalso; omega
  | succ n ih =>
    intro s M g0 g1 hp hdk ho
    obtain ⟨hP, hTp, hT, ht, hS, ha⟩ := id hc
    have q1 := hI.1.1
    refine a_iload dX3_findHidden_10 rfl ?_
    refine a_bipush (w := 99) dX3_findHidden_12 (by decide) ?_
    refine a_icmp_gt (tgt := 59) dX3_findHidden_14 (by decide) ⟨by omega, by omega⟩ ⟨by omega, by omega⟩ (fun hb14 => ?_) (fun hb14 => ?_)
    · exfalso; omega
    · refine a_aloadn dX3_findHidden_17 rfl ?_
      refine a_aloadn dX3_findHidden_18 rfl ?_
      refine a_iloadn dX3_findHidden_19 rfl ?_
      refine a_iloadn dX3_findHidden_20 rfl ?_
      refine a_iload dX3_findHidden_21 rfl ?_
      refine a_isub dX3_findHidden_23 ?_
      refine a_anyV (as := [_, _, _]) (q := 54) dX3_findHidden_24 mvX3_107 ⟨by decide, by decide⟩ (L54 L) rfl rfl rfl (Nat.le_of_ble_eq_true rfl) ⟨rfl, rfl⟩ ⟨by decide, by decide⟩ (m_X3_isHidden hc hI hp hdk h0 h1 ho ⟨by omega, by omega⟩) (fun x24 M24 hM24 => ?_)
      obtain ⟨a1, a2, a3, a4⟩ := hM24
      have z24 : hidV M0 t h (d - s) = 0 ∨ hidV M0 t h (d - s) = 1 := by unfold hidV; split <;> simp
      refine a_if_eq (tgt := 35) dX3_findHidden_27 (by decide) ⟨by omega, by omega⟩ (fun hb27 => ?_) (fun hb27 => ?_)
      · refine a_aloadn dX3_findHidden_35 rfl ?_
        refine a_aloadn dX3_findHidden_36 rfl ?_
        refine a_iloadn dX3_findHidden_37 rfl ?_
        refine a_iloadn dX3_findHidden_38 rfl ?_
        refine a_iload dX3_findHidden_39 rfl ?_
        refine a_iadd dX3_findHidden_41 ?_
        refine a_anyV (as := [_, _, _]) (q := 54) dX3_findHidden_42 mvX3_107 ⟨by decide, by decide⟩ (L54 L) rfl rfl rfl (Nat.le_of_ble_eq_true rfl) ⟨rfl, rfl⟩ ⟨by decide, by decide⟩ (m_X3_isHidden hc hI a1 a2 h0 h1 a3 ⟨by omega, by omega⟩) (fun x42 M42 hM42 => ?_)
        obtain ⟨b1, b2, b3, b4⟩ := hM42
        have z42 : hidV M0 t h (d + s) = 0 ∨ hidV M0 t h (d + s) = 1 := by unfold hidV; split <;> simp
        refine a_if_eq (tgt := 53) dX3_findHidden_45 (by decide) ⟨by omega, by omega⟩ (fun hb45 => ?_) (fun hb45 => ?_)
        · refine c_iinc (ls' := [_, _, _, _, _]) dX3_findHidden_53 rfl (by decide) rfl rfl ?_
          refine a_goto (tgt := 10) dX3_findHidden_56 (by decide) ?_
          simp only [fhF]
          rw [if_neg (by omega), if_neg (by omega)]
          exact ih _ _ (by omega) (by omega) b1 b2 b3
        · refine a_iloadn dX3_findHidden_48 rfl ?_
          refine a_iload dX3_findHidden_49 rfl ?_
          refine a_iadd dX3_findHidden_51 ?_
          exact a_ireturn dX3_findHidden_52 rfl rfl rfl (zany_i ⟨b1, by simp only [fhF]; rw [if_neg (by omega), if_pos (by omega)]⟩)
      · refine a_iloadn dX3_findHidden_30 rfl ?_
        refine a_iload dX3_findHidden_31 rfl ?_
        refine a_isub dX3_findHidden_33 ?_
        exact a_ireturn dX3_findHidden_34 rfl rfl rfl (zany_i ⟨a1, by simp only [fhF]; rw [if_pos (by omega)]⟩)

set_option maxRecDepth 100000 in
set_option maxHeartbeats 4000000 in
theorem m_X3_findHidden {G : zG} {l : Launch} {L : Nat} {P : zP} {M : zM} {t : Nat} {h : Int} (hc : CS L P t 67) (hI : CI M t 67) (h0 : 0 ≤ h) (h1 : h < 6) : AM G l yX3_findHidden mdX3_findHidden [aR 54, aR 67, aI h] (LAY L) P M (zany (LAY L) P (fun r M' => Pq M M' ∧ r = fhF (hidV M t h) (M 68 h) 100 0)) := by
  obtain ⟨hP, hTp, hT, ht, hS, ha⟩ := id hc
  have q1 := hI.1.1
  refine AM.go [some (aR 54), some (aR 67), some (aI h), none, none] rfl (Nat.le_of_ble_eq_true rfl) ?_ (by decide) rfl rfl
  refine a_aloadn dX3_findHidden_0 rfl ?_
  refine a_getR (j' := 0) (y := 68) dX3_findHidden_1 flX3_35 rfl rfl (L67 L) (p67_0 hP) ?_
  refine a_iloadn dX3_findHidden_4 rfl ?_
  refine b_iald (N := 6) dX3_findHidden_5 (L68 L) (by decide) (by omega) (by omega) (fun hr5 => ?_)
  have q5 := hI.2.2.1.1 h h0 h1
  have q6 : 0 ≤ M 68 h ∧ M 68 h ≤ 99 := q5
  refine c_istoren (ls' := [_, _, _, _, _]) dX3_findHidden_6 (by decide) rfl rfl ?_
  refine a_iconst dX3_findHidden_7 ?_
  refine c_istore (ls' := [_, _, _, _, _]) dX3_findHidden_8 (by decide) rfl rfl ?_
  exact lpX3_findHidden hc hI h0 h1 q6 100 0 M (by omega) (by omega) (Pq.rf M) (fun j j0 j1 => hI.2.2.1.1 j j0 j1) (fun _ _ _ _ => rfl)

set_option maxRecDepth 100000 in
set_option maxHeartbeats 4000000 in
theorem m_X3_luredBy {G : zG} {l : Launch} {L : Nat} {P : zP} {M : zM} {M0 : zM} {t : Nat} {h o x : Int} (hc : CS L P t 67) (hI : CI M0 t 67) (hp : Pq M0 M) (hdk : Dk M) (h0 : 0 ≤ h) (h1 : h < 6) (ho : ∀ j : Int, 0 ≤ j → j < 6 → j ≠ h → M 68 j = M0 68 j) (rx : inR x) : AM G l yX3_luredBy mdX3_luredBy [aR 54, aR 67, aI h, aI o, aI x] (LAY L) P M (zany (LAY L) P (fun r M' => Pq M0 M' ∧ Dk M' ∧ (∀ j : Int, 0 ≤ j → j < 6 → j ≠ h → M' 68 j = M0 68 j) ∧ r = luV M0 t h o x)) := by
  obtain ⟨hP, hTp, hT, ht, hS, ha⟩ := id hc
  have q1 := hI.1.1
  refine AM.go [some (aR 54), some (aR 67), some (aI h), some (aI o), some (aI x), none] rfl (Nat.le_of_ble_eq_true rfl) ?_ (by decide) rfl rfl
  refine a_iload dX3_luredBy_0 rfl ?_
  refine a_iconst dX3_luredBy_2 ?_
  refine a_bipush (w := 99) dX3_luredBy_3 (by decide) ?_
  refine a_oneSN (as := [_, _, _]) dX3_luredBy_5 mvX3_83 ⟨by decide, by decide⟩ rfl rfl (Nat.le_of_ble_eq_true rfl) ⟨rfl, rfl⟩ ⟨by decide, by decide⟩ (m_X10_isWithin ⟨by omega, by omega⟩ ⟨by omega, by omega⟩ ⟨by omega, by omega⟩) (fun x5 hx5 => ?_)
  refine a_if_ne (tgt := 14) dX3_luredBy_8 (by decide) ⟨by omega, by omega⟩ (fun hb8 => ?_) (fun hb8 => ?_)
  · refine a_aloadn dX3_luredBy_14 rfl ?_
    refine a_getR (j' := 0) (y := 68) dX3_luredBy_15 flX3_35 rfl rfl (L67 L) (p67_0 hP) ?_
    refine a_iloadn dX3_luredBy_18 rfl ?_
    refine a_iload dX3_luredBy_19 rfl ?_
    refine a_iast (N := 6) dX3_luredBy_21 (L68 L) (by decide) (by decide) (by omega) (by omega) ⟨by omega, by omega⟩ ?_
    refine a_aloadn dX3_luredBy_22 rfl ?_
    refine a_getR (j' := 0) (y := 50) dX3_luredBy_23 flX3_31 rfl rfl (L54 L) (p54_0 hP) ?_
    refine a_aloadn dX3_luredBy_26 rfl ?_
    refine a_iloadn dX3_luredBy_27 rfl ?_
    have hp2 : Pq M0 (sm M 68 h x) := hp.sm (by omega) _ _
    have hdk2 : Dk (sm M 68 h x) := hdk.d (by omega)
    refine a_anyV (as := [_, _]) (q := 50) dX3_luredBy_28 mvX3_114 ⟨by decide, by decide⟩ (L50 L) rfl rfl rfl (Nat.le_of_ble_eq_true rfl) ⟨rfl, rfl⟩ ⟨by decide, by decide⟩ (m_X0_hearersOf hc (hp2.ci hI (by omega) hdk2) h0 h1) (fun x9 M1 hM1 => ?_)
    have hx9 : x9 = luB M0 t h x := by
      rw [hM1.2, show sm M 68 h x t = M0 t from by rw [sm_n (by omega)]; exact hp t (by omega)]
      unfold luB
      refine zbits_cong _ _ _ (fun j j0 j1 => ?_)
      by_cases ej : j = h
      · rw [if_pos ej, if_pos ej]
      · rw [if_neg ej, if_neg ej, hp2.hr (by omega), sm_s, sm_k, us_n ej, ho j (by omega) (by omega) ej]
    have z9 := zbits_in (fun i => if i = h then 0 else hd M0 t i h (M0 68 i) x) (M0 t 2).toNat 0 0 (by omega) (by omega) (by omega)
    have z10 : 0 ≤ luB M0 t h x ∧ luB M0 t h x ≤ 63 := z9
    rw [hx9]
    refine c_istore (ls' := [_, _, _, _, _, _]) dX3_luredBy_31 (by decide) rfl rfl ?_
    refine a_iload dX3_luredBy_33 rfl ?_
    refine a_iloadn dX3_luredBy_35 rfl ?_
    refine a_ishr dX3_luredBy_36 ?_
    refine a_iconst dX3_luredBy_37 ?_
    refine a_iand dX3_luredBy_38 ?_
    refine a_iconst dX3_luredBy_39 ?_
    refine a_icmp_ne (tgt := 51) dX3_luredBy_40 (by decide) (ir _) ⟨by omega, by omega⟩ (fun hb40 => ?_) (fun hb40 => ?_)
    · refine a_bipush (w := 7) dX3_luredBy_51 (by decide) ?_
      exact a_ireturn dX3_luredBy_53 rfl rfl rfl (by first | exact zany_i ⟨hp2.ec hM1.1, hdk2.ec hM1.1, (fun j j0 j1 j2 => by rw [hM1.1 68 j (by decide) (by decide) (by omega), sm_k, us_n j2]; exact ho j j0 j1 j2), by unfold luV; rw [if_pos (by omega), if_pos (kbit_1 hb40)]⟩ | exact zany_i ⟨hp2.ec hM1.1, hdk2.ec hM1.1, (fun j j0 j1 j2 => by rw [hM1.1 68 j (by decide) (by decide) (by omega), sm_k, us_n j2]; exact ho j j0 j1 j2), by unfold luV; rw [if_pos (by omega), if_neg (by rw [kbit_0 hb40]; decide)]⟩)
    · refine a_iload dX3_luredBy_43 rfl ?_
      refine a_callSA (as := [_]) dX3_luredBy_45 mvX3_118 ⟨by decide, by decide⟩ rfl rfl (Nat.le_of_ble_eq_true rfl) ⟨rfl, rfl⟩ ⟨by decide, by decide⟩ m_J6_bitCount_0f7a4 ?_
      refine a_goto (tgt := 53) dX3_luredBy_48 (by decide) ?_
      exact a_ireturn dX3_luredBy_53 rfl rfl rfl (by first | exact zany_i ⟨hp2.ec hM1.1, hdk2.ec hM1.1, (fun j j0 j1 j2 => by rw [hM1.1 68 j (by decide) (by decide) (by omega), sm_k, us_n j2]; exact ho j j0 j1 j2), by unfold luV; rw [if_pos (by omega), if_pos (kbit_1 hb40)]⟩ | exact zany_i ⟨hp2.ec hM1.1, hdk2.ec hM1.1, (fun j j0 j1 j2 => by rw [hM1.1 68 j (by decide) (by decide) (by omega), sm_k, us_n j2]; exact ho j j0 j1 j2), by unfold luV; rw [if_pos (by omega), if_neg (by rw [kbit_0 hb40]; decide)]⟩)
  · refine a_bipush (w := 7) dX3_luredBy_11 (by decide) ?_
    exact a_ireturn dX3_luredBy_13 rfl rfl rfl (zany_i ⟨hp, hdk, ho, by unfold luV; rw [if_neg (by omega)]⟩)

set_option maxRecDepth 100000 in
set_option maxHeartbeats 4000000 in
theorem lpX3_findLure {G : zG} {l : Launch} {L : Nat} {P : zP} {M0 : zM} {t : Nat} {h o d : Int} (hc : CS L P t 67) (hI : CI M0 t 67) (h0 : 0 ≤ h) (h1 : h < 6) (rd : 0 ≤ d ∧ d ≤ 99) : ∀ (n : Nat) (s best least : Int) (M : zM) (g0 : 0 ≤ s) (g1 : s + n = 100) (gl : 0 ≤ least ∧ least ≤ 7) (hp : Pq M0 M) (hdk : Dk M) (ho : ∀ j : Int, 0 ≤ j → j < 6 → j ≠ h → M 68 j = M0 68 j), AW G l mdX3_findLure (zany (LAY L) P (fun r M' => Pq M0 M' ∧ r = flF (luV M0 t h o) d n s best least)) 19 [some (aR 54), some (aR 67), some (aI h), some (aI o), some (aI d), some (aI best), some (aI least), some (aI s), none, none] [] (LAY L) P M 0 0 := by
  intro n
  induction n with
  | zero =>
    intro s best least M g0 g1 gl hp hdk ho
    obtain ⟨hP, hTp, hT, ht, hS, ha⟩ := id hc
    have q1 := hI.1.1
    refine a_iload dX3_findLure_19 rfl ?_
    refine a_bipush (w := 99) dX3_findLure_21 (by decide) ?_
    refine a_icmp_gt (tgt := 102) dX3_findLure_23 (by decide) ⟨by omega, by omega⟩ ⟨by omega, by omega⟩ (fun hb23 => ?_) (fun hb23 => ?_)
    · refine a_iload dX3_findLure_102 rfl ?_
      exact a_ireturn dX3_findLure_104 rfl rfl rfl (zany_i ⟨hp, rfl⟩)
    · exfalso; omega
  | succ n ih =>
    intro s best least M g0 g1 gl hp hdk ho
    obtain ⟨hP, hTp, hT, ht, hS, ha⟩ := id hc
    have q1 := hI.1.1
    refine a_iload dX3_findLure_19 rfl ?_
    refine a_bipush (w := 99) dX3_findLure_21 (by decide) ?_
    refine a_icmp_gt (tgt := 102) dX3_findLure_23 (by decide) ⟨by omega, by omega⟩ ⟨by omega, by omega⟩ (fun hb23 => ?_) (fun hb23 => ?_)
    · exfalso; omega
    · refine a_iload dX3_findLure_26 rfl ?_
      refine a_iconst dX3_findLure_28 ?_
      refine a_icmp_le (tgt := 102) dX3_findLure_29 (by decide) ⟨by omega, by omega⟩ ⟨by omega, by omega⟩ (fun hb29 => ?_) (fun hb29 => ?_)
      · refine a_iload dX3_findLure_102 rfl ?_
        exact a_ireturn dX3_findLure_104 rfl rfl rfl (zany_i ⟨hp, by simp only [flF]; rw [if_pos (by omega)]⟩)
      · refine a_aloadn dX3_findLure_32 rfl ?_
        refine a_aloadn dX3_findLure_33 rfl ?_
        refine a_iloadn dX3_findLure_34 rfl ?_
        refine a_iloadn dX3_findLure_35 rfl ?_
        refine a_iload dX3_findLure_36 rfl ?_
        refine a_iload dX3_findLure_38 rfl ?_
        refine a_isub dX3_findLure_40 ?_
        refine a_anyV (as := [_, _, _, _]) (q := 54) dX3_findLure_41 mvX3_110 ⟨by decide, by decide⟩ (L54 L) rfl rfl rfl (Nat.le_of_ble_eq_true rfl) ⟨rfl, rfl⟩ ⟨by decide, by decide⟩ (m_X3_luredBy hc hI hp hdk h0 h1 ho ⟨by omega, by omega⟩) (fun x41 M41 hM41 => ?_)
        obtain ⟨a1, a2, a3, a4⟩ := hM41
        have z41 : 0 ≤ luV M0 t h o (d - s) ∧ luV M0 t h o (d - s) ≤ 7 := by
          have w := bcnt_in (x := luB M0 t h (d - s)) (zbits_in _ _ 0 0 (by omega) (by omega) (by omega))
          unfold luV
          split
          · split <;> omega
          · omega
        refine c_istore (ls' := [_, _, _, _, _, _, _, _, _, _]) dX3_findLure_44 (by decide) rfl rfl ?_
        refine a_iload dX3_findLure_46 rfl ?_
        refine a_iload dX3_findLure_48 rfl ?_
        refine a_icmp_ge (tgt := 64) dX3_findLure_50 (by decide) ⟨by omega, by omega⟩ ⟨by omega, by omega⟩ (fun hb50 => ?_) (fun hb50 => ?_)
        · refine a_aloadn dX3_findLure_64 rfl ?_
          refine a_aloadn dX3_findLure_65 rfl ?_
          refine a_iloadn dX3_findLure_66 rfl ?_
          refine a_iloadn dX3_findLure_67 rfl ?_
          refine a_iload dX3_findLure_68 rfl ?_
          refine a_iload dX3_findLure_70 rfl ?_
          refine a_iadd dX3_findLure_72 ?_
          refine a_anyV (as := [_, _, _, _]) (q := 54) dX3_findLure_73 mvX3_110 ⟨by decide, by decide⟩ (L54 L) rfl rfl rfl (Nat.le_of_ble_eq_true rfl) ⟨rfl, rfl⟩ ⟨by decide, by decide⟩ (m_X3_luredBy hc hI a1 a2 h0 h1 a3 ⟨by omega, by omega⟩) (fun x73 M73 hM73 => ?_)
          obtain ⟨b1, b2, b3, b4⟩ := hM73
          have z73 : 0 ≤ luV M0 t h o (d + s) ∧ luV M0 t h o (d + s) ≤ 7 := by
            have w := bcnt_in (x := luB M0 t h (d + s)) (zbits_in _ _ 0 0 (by omega) (by omega) (by omega))
            unfold luV
            split
            · split <;> omega
            · omega
          refine c_istore (ls' := [_, _, _, _, _, _, _, _, _, _]) dX3_findLure_76 (by decide) rfl rfl ?_
          refine a_iload dX3_findLure_78 rfl ?_
          refine a_iload dX3_findLure_80 rfl ?_
          refine a_icmp_ge (tgt := 96) dX3_findLure_82 (by decide) ⟨by omega, by omega⟩ ⟨by omega, by omega⟩ (fun hb82 => ?_) (fun hb82 => ?_)
          · refine c_iinc (ls' := [_, _, _, _, _, _, _, _, _, _]) dX3_findLure_96 rfl (by decide) rfl rfl ?_
            refine a_goto (tgt := 19) dX3_findLure_99 (by decide) ?_
            refine a_forget [8, 9] (ls' := [_, _, _, _, _, _, _, _, none, none]) rfl ?_
            simp only [flF]
            rw [if_neg (by omega)]
            subst a4
            subst b4
            first
            | (have c1 : luV M0 t h o (d - s) < least := by omega
               have c2 : luV M0 t h o (d + s) < luV M0 t h o (d - s) := by omega
               simp only [c1, c2, ↓reduceIte]
               exact ih _ _ _ _ (by omega) (by omega) (by omega) b1 b2 b3)
            | (have c1 : luV M0 t h o (d - s) < least := by omega
               have c2 : ¬ luV M0 t h o (d + s) < luV M0 t h o (d - s) := by omega
               simp only [c1, c2, ↓reduceIte]
               exact ih _ _ _ _ (by omega) (by omega) (by omega) b1 b2 b3)
            | (have c1 : ¬ luV M0 t h o (d - s) < least := by omega
               have c2 : luV M0 t h o (d + s) < least := by omega
               simp only [c1, c2, ↓reduceIte]
               exact ih _ _ _ _ (by omega) (by omega) (by omega) b1 b2 b3)
            | (have c1 : ¬ luV M0 t h o (d - s) < least := by omega
               have c2 : ¬ luV M0 t h o (d + s) < least := by omega
               simp only [c1, c2, ↓reduceIte]
               exact ih _ _ _ _ (by omega) (by omega) (by omega) b1 b2 b3)
          · refine a_iload dX3_findLure_85 rfl ?_
            refine c_istore (ls' := [_, _, _, _, _, _, _, _, _, _]) dX3_findLure_87 (by decide) rfl rfl ?_
            refine a_iload dX3_findLure_89 rfl ?_
            refine a_iload dX3_findLure_91 rfl ?_
            refine a_iadd dX3_findLure_93 ?_
            refine c_istore (ls' := [_, _, _, _, _, _, _, _, _, _]) dX3_findLure_94 (by decide) rfl rfl ?_
            refine c_iinc (ls' := [_, _, _, _, _, _, _, _, _, _]) dX3_findLure_96 rfl (by decide) rfl rfl ?_
            refine a_goto (tgt := 19) dX3_findLure_99 (by decide) ?_
            refine a_forget [8, 9] (ls' := [_, _, _, _, _, _, _, _, none, none]) rfl ?_
            simp only [flF]
            rw [if_neg (by omega)]
            subst a4
            subst b4
            first
            | (have c1 : luV M0 t h o (d - s) < least := by omega
               have c2 : luV M0 t h o (d + s) < luV M0 t h o (d - s) := by omega
               simp only [c1, c2, ↓reduceIte]
               exact ih _ _ _ _ (by omega) (by omega) (by omega) b1 b2 b3)
            | (have c1 : luV M0 t h o (d - s) < least := by omega
               have c2 : ¬ luV M0 t h o (d + s) < luV M0 t h o (d - s) := by omega
               simp only [c1, c2, ↓reduceIte]
               exact ih _ _ _ _ (by omega) (by omega) (by omega) b1 b2 b3)
            | (have c1 : ¬ luV M0 t h o (d - s) < least := by omega
               have c2 : luV M0 t h o (d + s) < least := by omega
               simp only [c1, c2, ↓reduceIte]
               exact ih _ _ _ _ (by omega) (by omega) (by omega) b1 b2 b3)
            | (have c1 : ¬ luV M0 t h o (d - s) < least := by omega
               have c2 : ¬ luV M0 t h o (d + s) < least := by omega
               simp only [c1, c2, ↓reduceIte]
               exact ih _ _ _ _ (by omega) (by omega) (by omega) b1 b2 b3)
        · refine a_iload dX3_findLure_53 rfl ?_
          refine c_istore (ls' := [_, _, _, _, _, _, _, _, _, _]) dX3_findLure_55 (by decide) rfl rfl ?_
          refine a_iload dX3_findLure_57 rfl ?_
          refine a_iload dX3_findLure_59 rfl ?_
          refine a_isub dX3_findLure_61 ?_
          refine c_istore (ls' := [_, _, _, _, _, _, _, _, _, _]) dX3_findLure_62 (by decide) rfl rfl ?_
          refine a_aloadn dX3_findLure_64 rfl ?_
          refine a_aloadn dX3_findLure_65 rfl ?_
          refine a_iloadn dX3_findLure_66 rfl ?_
          refine a_iloadn dX3_findLure_67 rfl ?_
          refine a_iload dX3_findLure_68 rfl ?_
          refine a_iload dX3_findLure_70 rfl ?_
          refine a_iadd dX3_findLure_72 ?_
          refine a_anyV (as := [_, _, _, _]) (q := 54) dX3_findLure_73 mvX3_110 ⟨by decide, by decide⟩ (L54 L) rfl rfl rfl (Nat.le_of_ble_eq_true rfl) ⟨rfl, rfl⟩ ⟨by decide, by decide⟩ (m_X3_luredBy hc hI a1 a2 h0 h1 a3 ⟨by omega, by omega⟩) (fun x73 M73 hM73 => ?_)
          obtain ⟨b1, b2, b3, b4⟩ := hM73
          have z73 : 0 ≤ luV M0 t h o (d + s) ∧ luV M0 t h o (d + s) ≤ 7 := by
            have w := bcnt_in (x := luB M0 t h (d + s)) (zbits_in _ _ 0 0 (by omega) (by omega) (by omega))
            unfold luV
            split
            · split <;> omega
            · omega
          refine c_istore (ls' := [_, _, _, _, _, _, _, _, _, _]) dX3_findLure_76 (by decide) rfl rfl ?_
          refine a_iload dX3_findLure_78 rfl ?_
          refine a_iload dX3_findLure_80 rfl ?_
          refine a_icmp_ge (tgt := 96) dX3_findLure_82 (by decide) ⟨by omega, by omega⟩ ⟨by omega, by omega⟩ (fun hb82 => ?_) (fun hb82 => ?_)
          · refine c_iinc (ls' := [_, _, _, _, _, _, _, _, _, _]) dX3_findLure_96 rfl (by decide) rfl rfl ?_
            refine a_goto (tgt := 19) dX3_findLure_99 (by decide) ?_
            refine a_forget [8, 9] (ls' := [_, _, _, _, _, _, _, _, none, none]) rfl ?_
            simp only [flF]
            rw [if_neg (by omega)]
            subst a4
            subst b4
            first
            | (have c1 : luV M0 t h o (d - s) < least := by omega
               have c2 : luV M0 t h o (d + s) < luV M0 t h o (d - s) := by omega
               simp only [c1, c2, ↓reduceIte]
               exact ih _ _ _ _ (by omega) (by omega) (by omega) b1 b2 b3)
            | (have c1 : luV M0 t h o (d - s) < least := by omega
               have c2 : ¬ luV M0 t h o (d + s) < luV M0 t h o (d - s) := by omega
               simp only [c1, c2, ↓reduceIte]
               exact ih _ _ _ _ (by omega) (by omega) (by omega) b1 b2 b3)
            | (have c1 : ¬ luV M0 t h o (d - s) < least := by omega
               have c2 : luV M0 t h o (d + s) < least := by omega
               simp only [c1, c2, ↓reduceIte]
               exact ih _ _ _ _ (by omega) (by omega) (by omega) b1 b2 b3)
            | (have c1 : ¬ luV M0 t h o (d - s) < least := by omega
               have c2 : ¬ luV M0 t h o (d + s) < least := by omega
               simp only [c1, c2, ↓reduceIte]
               exact ih _ _ _ _ (by omega) (by omega) (by omega) b1 b2 b3)
          · refine a_iload dX3_findLure_85 rfl ?_
            refine c_istore (ls' := [_, _, _, _, _, _, _, _, _, _]) dX3_findLure_87 (by decide) rfl rfl ?_
            refine a_iload dX3_findLure_89 rfl ?_
            refine a_iload dX3_findLure_91 rfl ?_
            refine a_iadd dX3_findLure_93 ?_
            refine c_istore (ls' := [_, _, _, _, _, _, _, _, _, _]) dX3_findLure_94 (by decide) rfl rfl ?_
            refine c_iinc (ls' := [_, _, _, _, _, _, _, _, _, _]) dX3_findLure_96 rfl (by decide) rfl rfl ?_
            refine a_goto (tgt := 19) dX3_findLure_99 (by decide) ?_
            refine a_forget [8, 9] (ls' := [_, _, _, _, _, _, _, _, none, none]) rfl ?_
            simp only [flF]
            rw [if_neg (by omega)]
            subst a4
            subst b4
            first
            | (have c1 : luV M0 t h o (d - s) < least := by omega
               have c2 : luV M0 t h o (d + s) < luV M0 t h o (d - s) := by omega
               simp only [c1, c2, ↓reduceIte]
               exact ih _ _ _ _ (by omega) (by omega) (by omega) b1 b2 b3)
            | (have c1 : luV M0 t h o (d - s) < least := by omega
               have c2 : ¬ luV M0 t h o (d + s) < luV M0 t h o (d - s) := by omega
               simp only [c1, c2, ↓reduceIte]
               exact ih _ _ _ _ (by omega) (by omega) (by omega) b1 b2 b3)
            | (have c1 : ¬ luV M0 t h o (d - s) < least := by omega
               have c2 : luV M0 t h o (d + s) < least := by omega
               simp only [c1, c2, ↓reduceIte]
               exact ih _ _ _ _ (by omega) (by omega) (by omega) b1 b2 b3)
            | (have c1 : ¬ luV M0 t h o (d - s) < least := by omega
               have c2 : ¬ luV M0 t h o (d + s) < least := by omega
               simp only [c1, c2, ↓reduceIte]
               exact ih _ _ _ _ (by omega) (by omega) (by omega) b1 b2 b3)

set_option maxRecDepth 100000 in
set_option maxHeartbeats 4000000 in
theorem m_X3_findLure {G : zG} {l : Launch} {L : Nat} {P : zP} {M : zM} {t : Nat} {h o : Int} (hc : CS L P t 67) (hI : CI M t 67) (h0 : 0 ≤ h) (h1 : h < 6) : AM G l yX3_findLure mdX3_findLure [aR 54, aR 67, aI h, aI o] (LAY L) P M (zany (LAY L) P (fun r M' => Pq M M' ∧ r = flF (luV M t h o) (M 68 h) 100 0 (-2) 7)) := by
  obtain ⟨hP, hTp, hT, ht, hS, ha⟩ := id hc
  have q1 := hI.1.1
  refine AM.go [some (aR 54), some (aR 67), some (aI h), some (aI o), none, none, none, none, none, none] rfl (Nat.le_of_ble_eq_true rfl) ?_ (by decide) rfl rfl
  refine a_aloadn dX3_findLure_0 rfl ?_
  refine a_getR (j' := 0) (y := 68) dX3_findLure_1 flX3_35 rfl rfl (L67 L) (p67_0 hP) ?_
  refine a_iloadn dX3_findLure_4 rfl ?_
  refine b_iald (N := 6) dX3_findLure_5 (L68 L) (by decide) (by omega) (by omega) (fun hr5 => ?_)
  have q5 := hI.2.2.1.1 h h0 h1
  have q6 : 0 ≤ M 68 h ∧ M 68 h ≤ 99 := q5
  refine c_istore (ls' := [_, _, _, _, _, _, _, _, _, _]) dX3_findLure_6 (by decide) rfl rfl ?_
  refine a_bipush (w := (-2)) dX3_findLure_8 (by decide) ?_
  refine c_istore (ls' := [_, _, _, _, _, _, _, _, _, _]) dX3_findLure_10 (by decide) rfl rfl ?_
  refine a_bipush (w := 7) dX3_findLure_12 (by decide) ?_
  refine c_istore (ls' := [_, _, _, _, _, _, _, _, _, _]) dX3_findLure_14 (by decide) rfl rfl ?_
  refine a_iconst dX3_findLure_16 ?_
  refine c_istore (ls' := [_, _, _, _, _, _, _, _, _, _]) dX3_findLure_17 (by decide) rfl rfl ?_
  exact lpX3_findLure hc hI h0 h1 q6 100 0 (-2) 7 M (by omega) (by omega) (by omega) (Pq.rf M) (fun j j0 j1 => hI.2.2.1.1 j j0 j1) (fun _ _ _ _ => rfl)
