set_option maxRecDepth 100000 in
set_option maxHeartbeats 4000000 in
theorem lpX8_houseOf {G : zG} {l : Launch} {L : Nat} {P : zP} {M : zM} {t : Nat} {x : Int} (hT : ToA L P t) (hI : ToI M t) (hx : inR x) : ∀ (n : Nat) (i : Int) (h0 : 0 ≤ i) (h1 : i + n = M t 2), AW G l mdX8_houseOf (zdet (some (aI (zfind (M (t + 1)) x n i))) (LAY L) P M) 2 [some (aR t), some (aI x), some (aI i)] [] (LAY L) P M 0 0 := by
  intro n
  induction n with
  | zero =>
    intro i h0 h1 
    refine a_iloadn dX8_houseOf_2 rfl ?_
    refine a_aloadn dX8_houseOf_3 rfl ?_
    refine b_getI (j' := 2) dX8_houseOf_4 flX8_63 rfl rfl hT.1.2.1 (fun hr4 => ?_)
    have q1 := hI.1
    refine a_icmp_ge (tgt := 28) dX8_houseOf_7 (by decide) ⟨by omega, by omega⟩ hr4 (fun hb7 => ?_) (fun hb7 => ?_)
    · refine a_iconst dX8_houseOf_28 ?_
      exact a_ireturn dX8_houseOf_29 rfl rfl rfl (zdet_I (by first | rfl | omega) rfl)
    · exfalso; omega
  | succ n ih =>
    intro i h0 h1 
    refine a_iloadn dX8_houseOf_2 rfl ?_
    refine a_aloadn dX8_houseOf_3 rfl ?_
    refine b_getI (j' := 2) dX8_houseOf_4 flX8_63 rfl rfl hT.1.2.1 (fun hr4 => ?_)
    have q1 := hI.1
    refine a_icmp_ge (tgt := 28) dX8_houseOf_7 (by decide) ⟨by omega, by omega⟩ hr4 (fun hb7 => ?_) (fun hb7 => ?_)
    · exfalso; omega
    · refine a_aloadn dX8_houseOf_10 rfl ?_
      refine a_getR (j' := 3) (y := (t + 1)) dX8_houseOf_11 flX8_9 rfl rfl hT.1.2.1 hT.1.2.2.1.2 ?_
      refine a_iloadn dX8_houseOf_14 rfl ?_
      refine b_iald (N := 6) dX8_houseOf_15 hT.1.2.2.1.1 (by decide) (by omega) (by omega) (fun hr15 => ?_)
      refine a_iloadn dX8_houseOf_16 rfl ?_
      refine a_icmp_ne (tgt := 22) dX8_houseOf_17 (by decide) hr15 hx (fun hb17 => ?_) (fun hb17 => ?_)
      · refine c_iinc (ls' := [_, _, _]) dX8_houseOf_22 rfl (by decide) rfl rfl ?_
        refine a_goto (tgt := 2) dX8_houseOf_25 (by decide) ?_
        simp only [zfind]
        rw [if_neg (by omega)]
        exact ih _ (by omega) (by omega)
      · refine a_iloadn dX8_houseOf_20 rfl ?_
        exact a_ireturn dX8_houseOf_21 rfl rfl rfl (zdet_I (by simp only [zfind]; rw [if_pos (by omega)]) rfl)

set_option maxRecDepth 100000 in
set_option maxHeartbeats 4000000 in
theorem m_X8_houseOf {G : zG} {l : Launch} {L : Nat} {P : zP} {M : zM} {t : Nat} {x : Int} (hT : ToA L P t) (hI : ToI M t) (hx : inR x) : AM G l yX8_houseOf mdX8_houseOf [aR t, aI x] (LAY L) P M (zdet (some (aI (zfind (M (t + 1)) x (M t 2).toNat 0))) (LAY L) P M) := by
  have q1 := hI.1
  refine AM.go [some (aR t), some (aI x), none] rfl (Nat.le_of_ble_eq_true rfl) ?_ (by decide) rfl rfl
  refine a_iconst dX8_houseOf_0 ?_
  refine c_istoren (ls' := [_, _, _]) dX8_houseOf_1 (by decide) rfl rfl ?_
  exact lpX8_houseOf hT hI hx _ 0 (by omega) (by omega)

set_option maxRecDepth 100000 in
set_option maxHeartbeats 4000000 in
theorem lpX8_kindAt {G : zG} {l : Launch} {L : Nat} {P : zP} {M : zM} {t : Nat} {h x : Int} (hT : ToA L P t) (hI : ToI M t) (hh : inR h) (hx : inR x) : ∀ (n : Nat) (i : Int) (h0 : 0 ≤ i) (h1 : i + n = M t 10), AW G l mdX8_kindAt (zdet (some (aI (zsnd (M (t + 7)) (M (t + 8)) (M (t + 9)) h x n i))) (LAY L) P M) 2 [some (aR t), some (aI h), some (aI x), some (aI i)] [] (LAY L) P M 0 0 := by
  intro n
  induction n with
  | zero =>
    intro i h0 h1 
    refine a_iloadn dX8_kindAt_2 rfl ?_
    refine a_aloadn dX8_kindAt_3 rfl ?_
    refine b_getI (j' := 10) dX8_kindAt_4 flX8_69 rfl rfl hT.1.2.1 (fun hr4 => ?_)
    have q1 := hI.2.2.1
    refine a_icmp_ge (tgt := 43) dX8_kindAt_7 (by decide) ⟨by omega, by omega⟩ hr4 (fun hb7 => ?_) (fun hb7 => ?_)
    · refine a_iconst dX8_kindAt_43 ?_
      exact a_ireturn dX8_kindAt_44 rfl rfl rfl (zdet_I (by first | rfl | omega) rfl)
    · exfalso; omega
  | succ n ih =>
    intro i h0 h1 
    refine a_iloadn dX8_kindAt_2 rfl ?_
    refine a_aloadn dX8_kindAt_3 rfl ?_
    refine b_getI (j' := 10) dX8_kindAt_4 flX8_69 rfl rfl hT.1.2.1 (fun hr4 => ?_)
    have q1 := hI.2.2.1
    refine a_icmp_ge (tgt := 43) dX8_kindAt_7 (by decide) ⟨by omega, by omega⟩ hr4 (fun hb7 => ?_) (fun hb7 => ?_)
    · exfalso; omega
    · refine a_aloadn dX8_kindAt_10 rfl ?_
      refine a_getR (j' := 11) (y := (t + 7)) dX8_kindAt_11 flX8_30 rfl rfl hT.1.2.1 hT.1.2.2.2.2.2.2.2.2.1.2 ?_
      refine a_iloadn dX8_kindAt_14 rfl ?_
      refine b_iald (N := 12) dX8_kindAt_15 hT.1.2.2.2.2.2.2.2.2.1.1 (by decide) (by omega) (by omega) (fun hr15 => ?_)
      refine a_iloadn dX8_kindAt_16 rfl ?_
      refine a_icmp_ne (tgt := 37) dX8_kindAt_17 (by decide) hr15 hh (fun hb17 => ?_) (fun hb17 => ?_)
      · refine c_iinc (ls' := [_, _, _, _]) dX8_kindAt_37 rfl (by decide) rfl rfl ?_
        refine a_goto (tgt := 2) dX8_kindAt_40 (by decide) ?_
        simp only [zsnd]
        rw [if_neg (by omega)]
        exact ih _ (by omega) (by omega)
      · refine a_aloadn dX8_kindAt_20 rfl ?_
        refine a_getR (j' := 12) (y := (t + 8)) dX8_kindAt_21 flX8_33 rfl rfl hT.1.2.1 hT.1.2.2.2.2.2.2.2.2.2.1.2 ?_
        refine a_iloadn dX8_kindAt_24 rfl ?_
        refine b_iald (N := 12) dX8_kindAt_25 hT.1.2.2.2.2.2.2.2.2.2.1.1 (by decide) (by omega) (by omega) (fun hr25 => ?_)
        refine a_iloadn dX8_kindAt_26 rfl ?_
        refine a_icmp_ne (tgt := 37) dX8_kindAt_27 (by decide) hr25 hx (fun hb27 => ?_) (fun hb27 => ?_)
        · refine c_iinc (ls' := [_, _, _, _]) dX8_kindAt_37 rfl (by decide) rfl rfl ?_
          refine a_goto (tgt := 2) dX8_kindAt_40 (by decide) ?_
          simp only [zsnd]
          rw [if_neg (by omega)]
          exact ih _ (by omega) (by omega)
        · refine a_aloadn dX8_kindAt_30 rfl ?_
          refine a_getR (j' := 13) (y := (t + 9)) dX8_kindAt_31 flX8_36 rfl rfl hT.1.2.1 hT.1.2.2.2.2.2.2.2.2.2.2.1.2 ?_
          refine a_iloadn dX8_kindAt_34 rfl ?_
          refine b_iald (N := 12) dX8_kindAt_35 hT.1.2.2.2.2.2.2.2.2.2.2.1.1 (by decide) (by omega) (by omega) (fun hr35 => ?_)
          exact a_ireturn dX8_kindAt_36 rfl rfl rfl (zdet_I (by simp only [zsnd]; rw [if_pos (by omega)]) rfl)

set_option maxRecDepth 100000 in
set_option maxHeartbeats 4000000 in
theorem m_X8_kindAt {G : zG} {l : Launch} {L : Nat} {P : zP} {M : zM} {t : Nat} {h x : Int} (hT : ToA L P t) (hI : ToI M t) (hh : inR h) (hx : inR x) : AM G l yX8_kindAt mdX8_kindAt [aR t, aI h, aI x] (LAY L) P M (zdet (some (aI (zsnd (M (t + 7)) (M (t + 8)) (M (t + 9)) h x (M t 10).toNat 0))) (LAY L) P M) := by
  have q1 := hI.2.2.1
  refine AM.go [some (aR t), some (aI h), some (aI x), none] rfl (Nat.le_of_ble_eq_true rfl) ?_ (by decide) rfl rfl
  refine a_iconst dX8_kindAt_0 ?_
  refine c_istoren (ls' := [_, _, _, _]) dX8_kindAt_1 (by decide) rfl rfl ?_
  exact lpX8_kindAt hT hI hh hx _ 0 (by omega) (by omega)

set_option maxRecDepth 100000 in
set_option maxHeartbeats 4000000 in
theorem lpX8_soundsOf {G : zG} {l : Launch} {L : Nat} {P : zP} {M : zM} {t : Nat} {h : Int} (hT : ToA L P t) (hI : ToI M t) (hh : inR h) : ∀ (n : Nat) (i acc : Int) (h0 : 0 ≤ i) (h1 : i + n = M t 10), AW G l mdX8_soundsOf (zdet (some (aI (zsm (fun j => if M (t + 7) j = h then 1 else 0) n i acc))) (LAY L) P M) 4 [some (aR t), some (aI h), some (aI acc), some (aI i)] [] (LAY L) P M 0 0 := by
  intro n
  induction n with
  | zero =>
    intro i acc h0 h1 
    refine a_iloadn dX8_soundsOf_4 rfl ?_
    refine a_aloadn dX8_soundsOf_5 rfl ?_
    refine b_getI (j' := 10) dX8_soundsOf_6 flX8_69 rfl rfl hT.1.2.1 (fun hr6 => ?_)
    have q1 := hI.2.2.1
    refine a_icmp_ge (tgt := 31) dX8_soundsOf_9 (by decide) ⟨by omega, by omega⟩ hr6 (fun hb9 => ?_) (fun hb9 => ?_)
    · refine a_iloadn dX8_soundsOf_31 rfl ?_
      exact a_ireturn dX8_soundsOf_32 rfl rfl rfl (zdet_I (by first | rfl | omega) rfl)
    · exfalso; omega
  | succ n ih =>
    intro i acc h0 h1 
    refine a_iloadn dX8_soundsOf_4 rfl ?_
    refine a_aloadn dX8_soundsOf_5 rfl ?_
    refine b_getI (j' := 10) dX8_soundsOf_6 flX8_69 rfl rfl hT.1.2.1 (fun hr6 => ?_)
    have q1 := hI.2.2.1
    refine a_icmp_ge (tgt := 31) dX8_soundsOf_9 (by decide) ⟨by omega, by omega⟩ hr6 (fun hb9 => ?_) (fun hb9 => ?_)
    · exfalso; omega
    · refine a_aloadn dX8_soundsOf_12 rfl ?_
      refine a_getR (j' := 11) (y := (t + 7)) dX8_soundsOf_13 flX8_30 rfl rfl hT.1.2.1 hT.1.2.2.2.2.2.2.2.2.1.2 ?_
      refine a_iloadn dX8_soundsOf_16 rfl ?_
      refine b_iald (N := 12) dX8_soundsOf_17 hT.1.2.2.2.2.2.2.2.2.1.1 (by decide) (by omega) (by omega) (fun hr17 => ?_)
      refine a_iloadn dX8_soundsOf_18 rfl ?_
      refine a_icmp_ne (tgt := 25) dX8_soundsOf_19 (by decide) hr17 hh (fun hb19 => ?_) (fun hb19 => ?_)
      · refine c_iinc (ls' := [_, _, _, _]) dX8_soundsOf_25 rfl (by decide) rfl rfl ?_
        refine a_goto (tgt := 4) dX8_soundsOf_28 (by decide) ?_
        simp only [zsm]
        first
        | (rw [if_pos (by omega)]; exact ih _ _ (by omega) (by omega))
        | (rw [if_neg (by omega), Int.add_zero]; exact ih _ _ (by omega) (by omega))
      · refine c_iinc (ls' := [_, _, _, _]) dX8_soundsOf_22 rfl (by decide) rfl rfl ?_
        refine c_iinc (ls' := [_, _, _, _]) dX8_soundsOf_25 rfl (by decide) rfl rfl ?_
        refine a_goto (tgt := 4) dX8_soundsOf_28 (by decide) ?_
        simp only [zsm]
        first
        | (rw [if_pos (by omega)]; exact ih _ _ (by omega) (by omega))
        | (rw [if_neg (by omega), Int.add_zero]; exact ih _ _ (by omega) (by omega))

set_option maxRecDepth 100000 in
set_option maxHeartbeats 4000000 in
theorem m_X8_soundsOf {G : zG} {l : Launch} {L : Nat} {P : zP} {M : zM} {t : Nat} {h : Int} (hT : ToA L P t) (hI : ToI M t) (hh : inR h) : AM G l yX8_soundsOf mdX8_soundsOf [aR t, aI h] (LAY L) P M (zdet (some (aI (zsm (fun j => if M (t + 7) j = h then 1 else 0) (M t 10).toNat 0 0))) (LAY L) P M) := by
  have q1 := hI.2.2.1
  refine AM.go [some (aR t), some (aI h), none, none] rfl (Nat.le_of_ble_eq_true rfl) ?_ (by decide) rfl rfl
  refine a_iconst dX8_soundsOf_0 ?_
  refine c_istoren (ls' := [_, _, _, _]) dX8_soundsOf_1 (by decide) rfl rfl ?_
  refine a_iconst dX8_soundsOf_2 ?_
  refine c_istoren (ls' := [_, _, _, _]) dX8_soundsOf_3 (by decide) rfl rfl ?_
  exact lpX8_soundsOf hT hI hh _ 0 0 (by omega) (by omega)

theorem zsnd_in {M : zM} {t : Nat} (_u1 _u2 _u3 : Unit) (h x : Int) (hI : ToI M t) : ∀ (n : Nat) (i : Int), 0 ≤ i → i + n ≤ 12 → inR (zsnd (M (t + 7)) (M (t + 8)) (M (t + 9)) h x n i)
  | 0, i, _, _ => by simp only [zsnd]; exact ⟨by omega, by omega⟩
  | n + 1, i, h0, h1 => by
    simp only [zsnd]
    split
    · have q := hI.2.2.2.2.2.2.1 i h0 (by omega)
      exact ⟨by omega, by omega⟩
    · exact zsnd_in _u1 _u2 _u3 h x hI n (i + 1) (by omega) (by omega)

set_option maxRecDepth 100000 in
set_option maxHeartbeats 4000000 in
theorem lpX8_alike {G : zG} {l : Launch} {L : Nat} {P : zP} {M : zM} {t : Nat} {h g z : Int} (hT : ToA L P t) (hI : ToI M t) (hh : inR h) (hg : inR g) (hz : -100 ≤ z ∧ z ≤ 100) : ∀ (n : Nat) (i acc : Int) (h0 : 0 ≤ i) (h1 : i + n = M t 10), AW G l mdX8_alike (zdet (some (aI (zsm (fun j => if M (t + 7) j = h ∧ zsnd (M (t + 7)) (M (t + 8)) (M (t + 9)) g (M (t + 8) j + z) (M t 10).toNat 0 = M (t + 9) j then 1 else 0) n i acc))) (LAY L) P M) 6 [some (aR t), some (aI h), some (aI g), some (aI z), some (aI acc), some (aI i)] [] (LAY L) P M 0 0 := by
  intro n
  induction n with
  | zero =>
    intro i acc h0 h1 
    refine a_iload dX8_alike_6 rfl ?_
    refine a_aloadn dX8_alike_8 rfl ?_
    refine b_getI (j' := 10) dX8_alike_9 flX8_69 rfl rfl hT.1.2.1 (fun hr9 => ?_)
    have q1 := hI.2.2.1
    refine a_icmp_ge (tgt := 59) dX8_alike_12 (by decide) ⟨by omega, by omega⟩ hr9 (fun hb12 => ?_) (fun hb12 => ?_)
    · refine a_iload dX8_alike_59 rfl ?_
      exact a_ireturn dX8_alike_61 rfl rfl rfl (zdet_I (by first | rfl | omega) rfl)
    · exfalso; omega
  | succ n ih =>
    intro i acc h0 h1 
    refine a_iload dX8_alike_6 rfl ?_
    refine a_aloadn dX8_alike_8 rfl ?_
    refine b_getI (j' := 10) dX8_alike_9 flX8_69 rfl rfl hT.1.2.1 (fun hr9 => ?_)
    have q1 := hI.2.2.1
    refine a_icmp_ge (tgt := 59) dX8_alike_12 (by decide) ⟨by omega, by omega⟩ hr9 (fun hb12 => ?_) (fun hb12 => ?_)
    · exfalso; omega
    · refine a_aloadn dX8_alike_15 rfl ?_
      refine a_getR (j' := 11) (y := (t + 7)) dX8_alike_16 flX8_30 rfl rfl hT.1.2.1 hT.1.2.2.2.2.2.2.2.2.1.2 ?_
      refine a_iload dX8_alike_19 rfl ?_
      refine b_iald (N := 12) dX8_alike_21 hT.1.2.2.2.2.2.2.2.2.1.1 (by decide) (by omega) (by omega) (fun hr21 => ?_)
      refine a_iloadn dX8_alike_22 rfl ?_
      refine a_icmp_ne (tgt := 53) dX8_alike_23 (by decide) hr21 hh (fun hb23 => ?_) (fun hb23 => ?_)
      · refine c_iinc (ls' := [_, _, _, _, _, _]) dX8_alike_53 rfl (by decide) rfl rfl ?_
        refine a_goto (tgt := 6) dX8_alike_56 (by decide) ?_
        simp only [zsm]
        first
        | (rw [if_pos (by omega)]; exact ih _ _ (by omega) (by omega))
        | (rw [if_neg (by omega), Int.add_zero]; exact ih _ _ (by omega) (by omega))
      · refine a_aloadn dX8_alike_26 rfl ?_
        refine a_iloadn dX8_alike_27 rfl ?_
        refine a_aloadn dX8_alike_28 rfl ?_
        refine a_getR (j' := 12) (y := (t + 8)) dX8_alike_29 flX8_33 rfl rfl hT.1.2.1 hT.1.2.2.2.2.2.2.2.2.2.1.2 ?_
        refine a_iload dX8_alike_32 rfl ?_
        refine b_iald (N := 12) dX8_alike_34 hT.1.2.2.2.2.2.2.2.2.2.1.1 (by decide) (by omega) (by omega) (fun hr34 => ?_)
        refine a_iloadn dX8_alike_35 rfl ?_
        refine a_iadd dX8_alike_36 ?_
        have q2 := hI.2.2.2.2.2.2.1 i (by omega) (by omega)
        refine a_callV (as := [_, _]) (q := t) dX8_alike_37 mvX8_75 ⟨by decide, by decide⟩ hT.1.2.1 rfl rfl rfl (Nat.le_of_ble_eq_true rfl) ⟨rfl, rfl⟩ ⟨by decide, by decide⟩ (m_X8_kindAt hT hI hg ⟨by omega, by omega⟩) ?_
        refine a_aloadn dX8_alike_40 rfl ?_
        refine a_getR (j' := 13) (y := (t + 9)) dX8_alike_41 flX8_36 rfl rfl hT.1.2.1 hT.1.2.2.2.2.2.2.2.2.2.2.1.2 ?_
        refine a_iload dX8_alike_44 rfl ?_
        refine b_iald (N := 12) dX8_alike_46 hT.1.2.2.2.2.2.2.2.2.2.2.1.1 (by decide) (by omega) (by omega) (fun hr46 => ?_)
        refine a_icmp_ne (tgt := 53) dX8_alike_47 (by decide) (zsnd_in () () () _ _ hI _ 0 (by omega) (by omega)) hr46 (fun hb47 => ?_) (fun hb47 => ?_)
        · refine c_iinc (ls' := [_, _, _, _, _, _]) dX8_alike_53 rfl (by decide) rfl rfl ?_
          refine a_goto (tgt := 6) dX8_alike_56 (by decide) ?_
          simp only [zsm]
          first
          | (rw [if_pos (by omega)]; exact ih _ _ (by omega) (by omega))
          | (rw [if_neg (by omega), Int.add_zero]; exact ih _ _ (by omega) (by omega))
        · refine c_iinc (ls' := [_, _, _, _, _, _]) dX8_alike_50 rfl (by decide) rfl rfl ?_
          refine c_iinc (ls' := [_, _, _, _, _, _]) dX8_alike_53 rfl (by decide) rfl rfl ?_
          refine a_goto (tgt := 6) dX8_alike_56 (by decide) ?_
          simp only [zsm]
          first
          | (rw [if_pos (by omega)]; exact ih _ _ (by omega) (by omega))
          | (rw [if_neg (by omega), Int.add_zero]; exact ih _ _ (by omega) (by omega))

set_option maxRecDepth 100000 in
set_option maxHeartbeats 4000000 in
theorem m_X8_alike {G : zG} {l : Launch} {L : Nat} {P : zP} {M : zM} {t : Nat} {h g z : Int} (hT : ToA L P t) (hI : ToI M t) (hh : inR h) (hg : inR g) (hz : -100 ≤ z ∧ z ≤ 100) : AM G l yX8_alike mdX8_alike [aR t, aI h, aI g, aI z] (LAY L) P M (zdet (some (aI (zsm (fun j => if M (t + 7) j = h ∧ zsnd (M (t + 7)) (M (t + 8)) (M (t + 9)) g (M (t + 8) j + z) (M t 10).toNat 0 = M (t + 9) j then 1 else 0) (M t 10).toNat 0 0))) (LAY L) P M) := by
  have q1 := hI.2.2.1
  refine AM.go [some (aR t), some (aI h), some (aI g), some (aI z), none, none] rfl (Nat.le_of_ble_eq_true rfl) ?_ (by decide) rfl rfl
  refine a_iconst dX8_alike_0 ?_
  refine c_istore (ls' := [_, _, _, _, _, _]) dX8_alike_1 (by decide) rfl rfl ?_
  refine a_iconst dX8_alike_3 ?_
  refine c_istore (ls' := [_, _, _, _, _, _]) dX8_alike_4 (by decide) rfl rfl ?_
  exact lpX8_alike hT hI hh hg hz _ 0 0 (by omega) (by omega)

set_option maxRecDepth 100000 in
set_option maxHeartbeats 4000000 in
theorem lpX8_mostAlike_in {G : zG} {l : Launch} {L : Nat} {P : zP} {M : zM} {t : Nat} {st9 x kd mx : Int} {Z : zZ} (hT : ToA L P t) (hI : ToI M t) (hx : inR x) (hk : 0 ≤ kd ∧ kd ≤ 9) : ∀ (n : Nat) (i acc : Int) (h0 : 0 ≤ i) (h1 : i + n = M t 2) (kk : AW G l mdX8_mostAlike Z 58 [some (aR t), some (aI st9), some (aI x), some (aI mx), some (aI kd), some (aI (zsm (fun j => if kbit st9 j = 1 ∧ zsnd (M (t + 7)) (M (t + 8)) (M (t + 9)) j (x) (M t 10).toNat 0 = kd then 1 else 0) n i acc)), none] [] (LAY L) P M 0 0), AW G l mdX8_mostAlike Z 18 [some (aR t), some (aI st9), some (aI x), some (aI mx), some (aI kd), some (aI acc), some (aI i)] [] (LAY L) P M 0 0 := by
  intro n
  induction n with
  | zero =>
    intro i acc h0 h1 kk 
    refine a_iload dX8_mostAlike_18 rfl ?_
    refine a_aloadn dX8_mostAlike_20 rfl ?_
    refine b_getI (j' := 2) dX8_mostAlike_21 flX8_63 rfl rfl hT.1.2.1 (fun hr21 => ?_)
    have q1 := hI.1
    have q2 := hI.2.2.1
    refine a_icmp_ge (tgt := 58) dX8_mostAlike_24 (by decide) ⟨by omega, by omega⟩ hr21 (fun hb24 => ?_) (fun hb24 => ?_)
    · refine a_forget [6] (ls' := [_, _, _, _, _, _, none]) rfl kk
    · exfalso; omega
  | succ n ih =>
    intro i acc h0 h1 kk 
    refine a_iload dX8_mostAlike_18 rfl ?_
    refine a_aloadn dX8_mostAlike_20 rfl ?_
    refine b_getI (j' := 2) dX8_mostAlike_21 flX8_63 rfl rfl hT.1.2.1 (fun hr21 => ?_)
    have q1 := hI.1
    have q2 := hI.2.2.1
    refine a_icmp_ge (tgt := 58) dX8_mostAlike_24 (by decide) ⟨by omega, by omega⟩ hr21 (fun hb24 => ?_) (fun hb24 => ?_)
    · exfalso; omega
    · refine a_iloadn dX8_mostAlike_27 rfl ?_
      refine a_iload dX8_mostAlike_28 rfl ?_
      refine a_ishr dX8_mostAlike_30 ?_
      refine a_iconst dX8_mostAlike_31 ?_
      refine a_iand dX8_mostAlike_32 ?_
      refine a_iconst dX8_mostAlike_33 ?_
      refine a_icmp_ne (tgt := 52) dX8_mostAlike_34 (by decide) (ir _) ⟨by omega, by omega⟩ (fun hb34 => ?_) (fun hb34 => ?_)
      · refine c_iinc (ls' := [_, _, _, _, _, _, _]) dX8_mostAlike_52 rfl (by decide) rfl rfl ?_
        refine a_goto (tgt := 18) dX8_mostAlike_55 (by decide) ?_
        refine ih _ _ (by omega) (by omega) ?_
        simp only [zsm] at kk
        first
        | (have e1 := kbit_1 hb34; rw [if_pos (by omega)] at kk; exact kk)
        | (have e1 := kbit_1 hb34; rw [if_neg (by omega), Int.add_zero] at kk; exact kk)
        | (have e1 := kbit_0 hb34; rw [if_neg (by omega), Int.add_zero] at kk; exact kk)
      · refine a_aloadn dX8_mostAlike_37 rfl ?_
        refine a_iload dX8_mostAlike_38 rfl ?_
        refine a_iloadn dX8_mostAlike_40 rfl ?_
        refine a_callV (as := [_, _]) (q := t) dX8_mostAlike_41 mvX8_75 ⟨by decide, by decide⟩ hT.1.2.1 rfl rfl rfl (Nat.le_of_ble_eq_true rfl) ⟨rfl, rfl⟩ ⟨by decide, by decide⟩ (m_X8_kindAt hT hI ⟨by omega, by omega⟩ hx) ?_
        refine a_iload dX8_mostAlike_44 rfl ?_
        refine a_icmp_ne (tgt := 52) dX8_mostAlike_46 (by decide) (zsnd_in () () () _ _ hI _ 0 (by omega) (by omega)) ⟨by omega, by omega⟩ (fun hb46 => ?_) (fun hb46 => ?_)
        · refine c_iinc (ls' := [_, _, _, _, _, _, _]) dX8_mostAlike_52 rfl (by decide) rfl rfl ?_
          refine a_goto (tgt := 18) dX8_mostAlike_55 (by decide) ?_
          refine ih _ _ (by omega) (by omega) ?_
          simp only [zsm] at kk
          first
          | (have e1 := kbit_1 hb34; rw [if_pos (by omega)] at kk; exact kk)
          | (have e1 := kbit_1 hb34; rw [if_neg (by omega), Int.add_zero] at kk; exact kk)
          | (have e1 := kbit_0 hb34; rw [if_neg (by omega), Int.add_zero] at kk; exact kk)
        · refine c_iinc (ls' := [_, _, _, _, _, _, _]) dX8_mostAlike_49 rfl (by decide) rfl rfl ?_
          refine c_iinc (ls' := [_, _, _, _, _, _, _]) dX8_mostAlike_52 rfl (by decide) rfl rfl ?_
          refine a_goto (tgt := 18) dX8_mostAlike_55 (by decide) ?_
          refine ih _ _ (by omega) (by omega) ?_
          simp only [zsm] at kk
          first
          | (have e1 := kbit_1 hb34; rw [if_pos (by omega)] at kk; exact kk)
          | (have e1 := kbit_1 hb34; rw [if_neg (by omega), Int.add_zero] at kk; exact kk)
          | (have e1 := kbit_0 hb34; rw [if_neg (by omega), Int.add_zero] at kk; exact kk)

theorem zsm01 (c : Int → Prop) [DecidablePred c] : ∀ (n : Nat) (i acc : Int), acc ≤ zsm (fun j => if c j then 1 else 0) n i acc ∧ zsm (fun j => if c j then 1 else 0) n i acc ≤ acc + n
  | 0, i, acc => by simp only [zsm]; omega
  | n + 1, i, acc => by
    have h := zsm01 c n (i + 1) (acc + if c i then 1 else 0)
    simp only [zsm]
    by_cases hc : c i
    · rw [if_pos hc] at h ⊢; omega
    · rw [if_neg hc] at h ⊢; omega

set_option maxRecDepth 100000 in
set_option maxHeartbeats 4000000 in
theorem lpX8_mostAlike {G : zG} {l : Launch} {L : Nat} {P : zP} {M : zM} {t : Nat} {st9 x : Int} (hT : ToA L P t) (hI : ToI M t) (hx : inR x) : ∀ (n : Nat) (i acc : Int) (h0 : 0 ≤ i) (h1 : i + n = 10) (ha : 0 ≤ acc ∧ acc ≤ 6), AW G l mdX8_mostAlike (zdet (some (aI (zmx (fun kd => zsm (fun j => if kbit st9 j = 1 ∧ zsnd (M (t + 7)) (M (t + 8)) (M (t + 9)) j (x) (M t 10).toNat 0 = kd then 1 else 0) (M t 2).toNat 0 0) n i acc))) (LAY L) P M) 5 [some (aR t), some (aI st9), some (aI x), some (aI acc), some (aI i), none, none] [] (LAY L) P M 0 0 := by
  intro n
  induction n with
  | zero =>
    intro i acc h0 h1 ha 
    refine a_iload dX8_mostAlike_5 rfl ?_
    refine a_bipush (w := 9) dX8_mostAlike_7 (by decide) ?_
    refine a_icmp_gt (tgt := 71) dX8_mostAlike_9 (by decide) ⟨by omega, by omega⟩ ⟨by omega, by omega⟩ (fun hb9 => ?_) (fun hb9 => ?_)
    · refine a_iloadn dX8_mostAlike_71 rfl ?_
      exact a_ireturn dX8_mostAlike_72 rfl rfl rfl (zdet_I (by first | rfl | omega) rfl)
    · exfalso; omega
  | succ n ih =>
    intro i acc h0 h1 ha 
    refine a_iload dX8_mostAlike_5 rfl ?_
    refine a_bipush (w := 9) dX8_mostAlike_7 (by decide) ?_
    refine a_icmp_gt (tgt := 71) dX8_mostAlike_9 (by decide) ⟨by omega, by omega⟩ ⟨by omega, by omega⟩ (fun hb9 => ?_) (fun hb9 => ?_)
    · exfalso; omega
    · refine a_iconst dX8_mostAlike_12 ?_
      refine c_istore (ls' := [_, _, _, _, _, _, _]) dX8_mostAlike_13 (by decide) rfl rfl ?_
      refine a_iconst dX8_mostAlike_15 ?_
      refine c_istore (ls' := [_, _, _, _, _, _, _]) dX8_mostAlike_16 (by decide) rfl rfl ?_
      have q1 := hI.1
      refine lpX8_mostAlike_in hT hI hx ⟨by omega, by omega⟩ (M t 2).toNat 0 0 (by omega) (by omega) ?_
      have q3 := zsm01 (fun j => kbit st9 j = 1 ∧ zsnd (M (t + 7)) (M (t + 8)) (M (t + 9)) j (x) (M t 10).toNat 0 = i) (M t 2).toNat 0 0
      refine a_iloadn dX8_mostAlike_58 rfl ?_
      refine a_iload dX8_mostAlike_59 rfl ?_
      refine a_max dX8_mostAlike_61 mmX8_79 (Nat.le_of_ble_eq_true rfl) ⟨by decide, by decide⟩ ⟨by decide, by decide⟩ ⟨by omega, by omega⟩ ⟨by omega, by omega⟩ ?_
      refine c_istoren (ls' := [_, _, _, _, _, _, _]) dX8_mostAlike_64 (by decide) rfl rfl ?_
      refine c_iinc (ls' := [_, _, _, _, _, _, _]) dX8_mostAlike_65 rfl (by decide) rfl rfl ?_
      refine a_goto (tgt := 5) dX8_mostAlike_68 (by decide) ?_
      refine a_forget [5, 6] (ls' := [_, _, _, _, _, none, none]) rfl ?_
      simp only [zmx]
      exact ih _ _ (by omega) (by omega) (by split <;> omega)

set_option maxRecDepth 100000 in
set_option maxHeartbeats 4000000 in
theorem m_X8_mostAlike {G : zG} {l : Launch} {L : Nat} {P : zP} {M : zM} {t : Nat} {st9 x : Int} (hT : ToA L P t) (hI : ToI M t) (hx : inR x) : AM G l yX8_mostAlike mdX8_mostAlike [aR t, aI st9, aI x] (LAY L) P M (zdet (some (aI (zmx (fun kd => zsm (fun j => if kbit st9 j = 1 ∧ zsnd (M (t + 7)) (M (t + 8)) (M (t + 9)) j (x) (M t 10).toNat 0 = kd then 1 else 0) (M t 2).toNat 0 0) 10 0 0))) (LAY L) P M) := by
  refine AM.go [some (aR t), some (aI st9), some (aI x), none, none, none, none] rfl (Nat.le_of_ble_eq_true rfl) ?_ (by decide) rfl rfl
  refine a_iconst dX8_mostAlike_0 ?_
  refine c_istoren (ls' := [_, _, _, _, _, _, _]) dX8_mostAlike_1 (by decide) rfl rfl ?_
  refine a_iconst dX8_mostAlike_2 ?_
  refine c_istore (ls' := [_, _, _, _, _, _, _]) dX8_mostAlike_3 (by decide) rfl rfl ?_
  exact lpX8_mostAlike hT hI hx 10 0 0 (by omega) (by omega) (by omega)
