set_option maxRecDepth 100000 in
set_option maxHeartbeats 4000000 in
theorem m_X5_apart {G : zG} {l : Launch} {L : Nat} {P : zP} {M : zM} {a : Nat} {x y : Int} (hS : StA L P a) (hI : StI M a) (hx0 : 0 ≤ x) (hx1 : x < 6) (hy0 : 0 ≤ y) (hy1 : y < 6) : AM G l yX5_apart mdX5_apart [aR a, aI x, aI y] (LAY L) P M (zdet (some (aI (iabs (M (a + 1) x - M (a + 1) y)))) (LAY L) P M) := by
  refine AM.go [some (aR a), some (aI x), some (aI y)] rfl (Nat.le_of_ble_eq_true rfl) ?_ (by decide) rfl rfl
  refine a_aloadn dX5_apart_0 rfl ?_
  refine a_getR (j' := 0) (y := (a + 1)) dX5_apart_1 flX5_9 rfl rfl hS.2.1 hS.2.2.1.2 ?_
  refine a_iloadn dX5_apart_4 rfl ?_
  refine b_iald (N := 6) dX5_apart_5 hS.2.2.1.1 (by decide) (by omega) (by omega) (fun hr5 => ?_)
  refine a_aloadn dX5_apart_6 rfl ?_
  refine a_getR (j' := 0) (y := (a + 1)) dX5_apart_7 flX5_9 rfl rfl hS.2.1 hS.2.2.1.2 ?_
  refine a_iloadn dX5_apart_10 rfl ?_
  refine b_iald (N := 6) dX5_apart_11 hS.2.2.1.1 (by decide) (by omega) (by omega) (fun hr11 => ?_)
  have q1 := hI.1 x hx0 hx1
  have q2 := hI.1 y hy0 hy1
  refine a_isub dX5_apart_12 ?_
  refine c_abs dX5_apart_13 mmX5_50 (Nat.le_of_ble_eq_true rfl) ⟨by decide, by decide⟩ ⟨by decide, by decide⟩ ⟨by omega, by omega⟩ ?_
  exact a_ireturn dX5_apart_16 rfl rfl rfl (zdet_I (by first | rfl | omega) rfl)

set_option maxRecDepth 100000 in
set_option maxHeartbeats 4000000 in
theorem m_X5_timesHeard {G : zG} {l : Launch} {L : Nat} {P : zP} {M : zM} {a : Nat} {x y : Int} (hS : StA L P a) (hx0 : 0 ≤ x) (hx1 : x < 6) (hy0 : 0 ≤ y) (hy1 : y < 6) : AM G l yX5_timesHeard mdX5_timesHeard [aR a, aI x, aI y] (LAY L) P M (zdet (some (aI (M (a + 5) (x * 6 + y)))) (LAY L) P M) := by
  refine AM.go [some (aR a), some (aI x), some (aI y)] rfl (Nat.le_of_ble_eq_true rfl) ?_ (by decide) rfl rfl
  refine a_aloadn dX5_timesHeard_0 rfl ?_
  refine a_getR (j' := 4) (y := (a + 5)) dX5_timesHeard_1 flX5_24 rfl rfl hS.2.1 hS.2.2.2.2.2.2.2 ?_
  refine a_iloadn dX5_timesHeard_4 rfl ?_
  refine a_bipush (w := 6) dX5_timesHeard_5 (by decide) ?_
  refine a_imul dX5_timesHeard_7 ?_
  refine a_iloadn dX5_timesHeard_8 rfl ?_
  refine a_iadd dX5_timesHeard_9 ?_
  refine b_iald (N := 36) dX5_timesHeard_10 hS.2.2.2.2.2.2.1 (by decide) (by omega) (by omega) (fun hr10 => ?_)
  exact a_ireturn dX5_timesHeard_11 rfl rfl rfl (zdet_I (by first | rfl | omega) rfl)

set_option maxRecDepth 100000 in
set_option maxHeartbeats 4000000 in
theorem m_X5_hear {G : zG} {l : Launch} {L : Nat} {P : zP} {M : zM} {a : Nat} {x y z : Int} (hS : StA L P a) (hI : StI M a) (hx0 : 0 ≤ x) (hx1 : x < 6) (hy0 : 0 ≤ y) (hy1 : y < 6) (hz : inR z) : AM G l yX5_hear mdX5_hear [aR a, aI x, aI y, aI z] (LAY L) P M (zdet none (LAY L) P (sm (sm M (a + 5) (x * 6 + y) (if M (a + 5) (x * 6 + y) + 1 < 999 then M (a + 5) (x * 6 + y) + 1 else 999)) (a + 4) x z)) := by
  refine AM.go [some (aR a), some (aI x), some (aI y), some (aI z), none] rfl (Nat.le_of_ble_eq_true rfl) ?_ (by decide) rfl rfl
  refine a_iloadn dX5_hear_0 rfl ?_
  refine a_bipush (w := 6) dX5_hear_1 (by decide) ?_
  refine a_imul dX5_hear_3 ?_
  refine a_iloadn dX5_hear_4 rfl ?_
  refine a_iadd dX5_hear_5 ?_
  refine c_istore (ls' := [_, _, _, _, _]) dX5_hear_6 (by decide) rfl rfl ?_
  refine a_aloadn dX5_hear_8 rfl ?_
  refine a_getR (j' := 4) (y := (a + 5)) dX5_hear_9 flX5_24 rfl rfl hS.2.1 hS.2.2.2.2.2.2.2 ?_
  refine a_iload dX5_hear_12 rfl ?_
  refine a_sipush (w := 999) dX5_hear_14 (by decide) ?_
  refine a_aloadn dX5_hear_17 rfl ?_
  refine a_getR (j' := 4) (y := (a + 5)) dX5_hear_18 flX5_24 rfl rfl hS.2.1 hS.2.2.2.2.2.2.2 ?_
  refine a_iload dX5_hear_21 rfl ?_
  refine b_iald (N := 36) dX5_hear_23 hS.2.2.2.2.2.2.1 (by decide) (by omega) (by omega) (fun hr23 => ?_)
  have q1 := hI.2.2.2.2.1 (x * 6 + y) (by omega) (by omega)
  refine a_iconst dX5_hear_24 ?_
  refine a_iadd dX5_hear_25 ?_
  refine a_min dX5_hear_26 mmX5_56 (Nat.le_of_ble_eq_true rfl) ⟨by decide, by decide⟩ ⟨by decide, by decide⟩ ⟨by omega, by omega⟩ ⟨by omega, by omega⟩ ?_
  refine a_iast (N := 36) dX5_hear_29 hS.2.2.2.2.2.2.1 (by have h9 := hS.1; omega) (by decide) (by omega) (by omega) (by split <;> exact ⟨by omega, by omega⟩) ?_
  refine a_aloadn dX5_hear_30 rfl ?_
  refine a_getR (j' := 3) (y := (a + 4)) dX5_hear_31 flX5_21 rfl rfl hS.2.1 hS.2.2.2.2.2.1.2 ?_
  refine a_iloadn dX5_hear_34 rfl ?_
  refine a_iloadn dX5_hear_35 rfl ?_
  refine a_iast (N := 6) dX5_hear_36 hS.2.2.2.2.2.1.1 (by have h9 := hS.1; omega) (by decide) (by omega) (by omega) ⟨by omega, by omega⟩ ?_
  exact a_return dX5_hear_37 rfl rfl rfl (zdet_V rfl)

set_option maxRecDepth 100000 in
set_option maxHeartbeats 4000000 in
theorem m_X5_isKnown {G : zG} {l : Launch} {L : Nat} {P : zP} {M : zM} {a : Nat} {x y : Int} (hS : StA L P a) (hx0 : 0 ≤ x) (hx1 : x < 6) : AM G l yX5_isKnown mdX5_isKnown [aR a, aI x, aI y] (LAY L) P M (zdet (some (aI (kbit (M (a + 3) x) y))) (LAY L) P M) := by
  refine AM.go [some (aR a), some (aI x), some (aI y)] rfl (Nat.le_of_ble_eq_true rfl) ?_ (by decide) rfl rfl
  refine a_aloadn dX5_isKnown_0 rfl ?_
  refine a_getR (j' := 2) (y := (a + 3)) dX5_isKnown_1 flX5_18 rfl rfl hS.2.1 hS.2.2.2.2.1.2 ?_
  refine a_iloadn dX5_isKnown_4 rfl ?_
  refine b_iald (N := 6) dX5_isKnown_5 hS.2.2.2.2.1.1 (by decide) (by omega) (by omega) (fun hr5 => ?_)
  refine a_iloadn dX5_isKnown_6 rfl ?_
  refine a_ishr dX5_isKnown_7 ?_
  refine a_iconst dX5_isKnown_8 ?_
  refine a_iand dX5_isKnown_9 ?_
  refine a_iconst dX5_isKnown_10 ?_
  refine a_icmp_ne (tgt := 18) dX5_isKnown_11 (by decide) (ir _) ⟨by omega, by omega⟩ (fun hb11 => ?_) (fun hb11 => ?_)
  · refine a_iconst dX5_isKnown_18 ?_
    exact a_zreturn dX5_isKnown_19 rfl rfl rfl (by omega) (zdet_I (by unfold kbit; first | (rw [if_pos hb11]; done) | (rw [if_neg hb11]; done)) rfl)
  · refine a_iconst dX5_isKnown_14 ?_
    refine a_goto (tgt := 19) dX5_isKnown_15 (by decide) ?_
    exact a_zreturn dX5_isKnown_19 rfl rfl rfl (by omega) (zdet_I (by unfold kbit; first | (rw [if_pos hb11]; done) | (rw [if_neg hb11]; done)) rfl)

set_option maxRecDepth 100000 in
set_option maxHeartbeats 4000000 in
theorem lpX5_gainOfAll {G : zG} {l : Launch} {L : Nat} {P : zP} {M : zM} {a : Nat} (hS : StA L P a) : ∀ (n : Nat) (i acc : Int) (h0 : 0 ≤ i) (h1 : i + n = 6), AW G l mdX5_gainOfAll (zdet (some (aI (zsm (M (a + 2)) n i acc))) (LAY L) P M) 4 [some (aR a), some (aI acc), some (aI i)] [] (LAY L) P M 0 0 := by
  intro n
  induction n with
  | zero =>
    intro i acc h0 h1 
    refine a_iloadn dX5_gainOfAll_4 rfl ?_
    refine a_bipush (w := 6) dX5_gainOfAll_5 (by decide) ?_
    refine a_icmp_ge (tgt := 25) dX5_gainOfAll_7 (by decide) ⟨by omega, by omega⟩ ⟨by omega, by omega⟩ (fun hb7 => ?_) (fun hb7 => ?_)
    · refine a_iloadn dX5_gainOfAll_25 rfl ?_
      exact a_ireturn dX5_gainOfAll_26 rfl rfl rfl (zdet_I (by first | rfl | omega) rfl)
    · exfalso; omega
  | succ n ih =>
    intro i acc h0 h1 
    refine a_iloadn dX5_gainOfAll_4 rfl ?_
    refine a_bipush (w := 6) dX5_gainOfAll_5 (by decide) ?_
    refine a_icmp_ge (tgt := 25) dX5_gainOfAll_7 (by decide) ⟨by omega, by omega⟩ ⟨by omega, by omega⟩ (fun hb7 => ?_) (fun hb7 => ?_)
    · exfalso; omega
    · refine a_iloadn dX5_gainOfAll_10 rfl ?_
      refine a_aloadn dX5_gainOfAll_11 rfl ?_
      refine a_getR (j' := 1) (y := (a + 2)) dX5_gainOfAll_12 flX5_15 rfl rfl hS.2.1 hS.2.2.2.1.2 ?_
      refine a_iloadn dX5_gainOfAll_15 rfl ?_
      refine b_iald (N := 6) dX5_gainOfAll_16 hS.2.2.2.1.1 (by decide) (by omega) (by omega) (fun hr16 => ?_)
      refine a_iadd dX5_gainOfAll_17 ?_
      refine c_istoren (ls' := [_, _, _]) dX5_gainOfAll_18 (by decide) rfl rfl ?_
      refine c_iinc (ls' := [_, _, _]) dX5_gainOfAll_19 rfl (by decide) rfl rfl ?_
      refine a_goto (tgt := 4) dX5_gainOfAll_22 (by decide) ?_
      exact ih _ _ (by omega) (by omega)

set_option maxRecDepth 100000 in
set_option maxHeartbeats 4000000 in
theorem m_X5_gainOfAll {G : zG} {l : Launch} {L : Nat} {P : zP} {M : zM} {a : Nat} (hS : StA L P a) : AM G l yX5_gainOfAll mdX5_gainOfAll [aR a] (LAY L) P M (zdet (some (aI (zsm (M (a + 2)) 6 0 0))) (LAY L) P M) := by
  refine AM.go [some (aR a), none, none] rfl (Nat.le_of_ble_eq_true rfl) ?_ (by decide) rfl rfl
  refine a_iconst dX5_gainOfAll_0 ?_
  refine c_istoren (ls' := [_, _, _]) dX5_gainOfAll_1 (by decide) rfl rfl ?_
  refine a_iconst dX5_gainOfAll_2 ?_
  refine c_istoren (ls' := [_, _, _]) dX5_gainOfAll_3 (by decide) rfl rfl ?_
  exact lpX5_gainOfAll hS 6 0 0 (by omega) (by omega)

set_option maxRecDepth 100000 in
set_option maxHeartbeats 4000000 in
theorem lpX5_heardInAll {G : zG} {l : Launch} {L : Nat} {P : zP} {M : zM} {a : Nat} (hS : StA L P a) : ∀ (n : Nat) (i acc : Int) (h0 : 0 ≤ i) (h1 : i + n = 36), AW G l mdX5_heardInAll (zdet (some (aI (zsm (M (a + 5)) n i acc))) (LAY L) P M) 4 [some (aR a), some (aI acc), some (aI i)] [] (LAY L) P M 0 0 := by
  intro n
  induction n with
  | zero =>
    intro i acc h0 h1 
    refine a_iloadn dX5_heardInAll_4 rfl ?_
    refine a_aloadn dX5_heardInAll_5 rfl ?_
    refine a_getR (j' := 4) (y := (a + 5)) dX5_heardInAll_6 flX5_24 rfl rfl hS.2.1 hS.2.2.2.2.2.2.2 ?_
    refine a_alen (w := 36) dX5_heardInAll_9 hS.2.2.2.2.2.2.1 (by decide) rfl ?_
    refine a_icmp_ge (tgt := 28) dX5_heardInAll_10 (by decide) ⟨by omega, by omega⟩ ⟨by omega, by omega⟩ (fun hb10 => ?_) (fun hb10 => ?_)
    · refine a_iloadn dX5_heardInAll_28 rfl ?_
      exact a_ireturn dX5_heardInAll_29 rfl rfl rfl (zdet_I (by first | rfl | omega) rfl)
    · exfalso; omega
  | succ n ih =>
    intro i acc h0 h1 
    refine a_iloadn dX5_heardInAll_4 rfl ?_
    refine a_aloadn dX5_heardInAll_5 rfl ?_
    refine a_getR (j' := 4) (y := (a + 5)) dX5_heardInAll_6 flX5_24 rfl rfl hS.2.1 hS.2.2.2.2.2.2.2 ?_
    refine a_alen (w := 36) dX5_heardInAll_9 hS.2.2.2.2.2.2.1 (by decide) rfl ?_
    refine a_icmp_ge (tgt := 28) dX5_heardInAll_10 (by decide) ⟨by omega, by omega⟩ ⟨by omega, by omega⟩ (fun hb10 => ?_) (fun hb10 => ?_)
    · exfalso; omega
    · refine a_iloadn dX5_heardInAll_13 rfl ?_
      refine a_aloadn dX5_heardInAll_14 rfl ?_
      refine a_getR (j' := 4) (y := (a + 5)) dX5_heardInAll_15 flX5_24 rfl rfl hS.2.1 hS.2.2.2.2.2.2.2 ?_
      refine a_iloadn dX5_heardInAll_18 rfl ?_
      refine b_iald (N := 36) dX5_heardInAll_19 hS.2.2.2.2.2.2.1 (by decide) (by omega) (by omega) (fun hr19 => ?_)
      refine a_iadd dX5_heardInAll_20 ?_
      refine c_istoren (ls' := [_, _, _]) dX5_heardInAll_21 (by decide) rfl rfl ?_
      refine c_iinc (ls' := [_, _, _]) dX5_heardInAll_22 rfl (by decide) rfl rfl ?_
      refine a_goto (tgt := 4) dX5_heardInAll_25 (by decide) ?_
      exact ih _ _ (by omega) (by omega)

set_option maxRecDepth 100000 in
set_option maxHeartbeats 4000000 in
theorem m_X5_heardInAll {G : zG} {l : Launch} {L : Nat} {P : zP} {M : zM} {a : Nat} (hS : StA L P a) : AM G l yX5_heardInAll mdX5_heardInAll [aR a] (LAY L) P M (zdet (some (aI (zsm (M (a + 5)) 36 0 0))) (LAY L) P M) := by
  refine AM.go [some (aR a), none, none] rfl (Nat.le_of_ble_eq_true rfl) ?_ (by decide) rfl rfl
  refine a_iconst dX5_heardInAll_0 ?_
  refine c_istoren (ls' := [_, _, _]) dX5_heardInAll_1 (by decide) rfl rfl ?_
  refine a_iconst dX5_heardInAll_2 ?_
  refine c_istoren (ls' := [_, _, _]) dX5_heardInAll_3 (by decide) rfl rfl ?_
  exact lpX5_heardInAll hS 36 0 0 (by omega) (by omega)

set_option maxRecDepth 100000 in
set_option maxHeartbeats 4000000 in
theorem lpX5_housesAbout {G : zG} {l : Launch} {L : Nat} {P : zP} {M : zM} {a : Nat} {at9 rch hs : Int} (hS : StA L P a) (hI : StI M a) (at0 : 0 ≤ at9) (at1 : at9 ≤ 99) (hr : inR rch) (hn0 : 0 ≤ hs) (hn1 : hs ≤ 6) : ∀ (n : Nat) (i acc : Int) (h0 : 0 ≤ i) (h1 : i + n = hs), AW G l mdX5_housesAbout (zdet (some (aI (zsm (fun j => if iabs (M (a + 1) j - at9) ≤ rch then 1 else 0) n i acc))) (LAY L) P M) 6 [some (aR a), some (aI at9), some (aI rch), some (aI hs), some (aI acc), some (aI i)] [] (LAY L) P M 0 0 := by
  intro n
  induction n with
  | zero =>
    intro i acc h0 h1 
    refine a_iload dX5_housesAbout_6 rfl ?_
    refine a_iloadn dX5_housesAbout_8 rfl ?_
    refine a_icmp_ge (tgt := 37) dX5_housesAbout_9 (by decide) ⟨by omega, by omega⟩ ⟨by omega, by omega⟩ (fun hb9 => ?_) (fun hb9 => ?_)
    · refine a_iload dX5_housesAbout_37 rfl ?_
      exact a_ireturn dX5_housesAbout_39 rfl rfl rfl (zdet_I (by first | rfl | omega) rfl)
    · exfalso; omega
  | succ n ih =>
    intro i acc h0 h1 
    refine a_iload dX5_housesAbout_6 rfl ?_
    refine a_iloadn dX5_housesAbout_8 rfl ?_
    refine a_icmp_ge (tgt := 37) dX5_housesAbout_9 (by decide) ⟨by omega, by omega⟩ ⟨by omega, by omega⟩ (fun hb9 => ?_) (fun hb9 => ?_)
    · exfalso; omega
    · refine a_aloadn dX5_housesAbout_12 rfl ?_
      refine a_getR (j' := 0) (y := (a + 1)) dX5_housesAbout_13 flX5_9 rfl rfl hS.2.1 hS.2.2.1.2 ?_
      refine a_iload dX5_housesAbout_16 rfl ?_
      refine b_iald (N := 6) dX5_housesAbout_18 hS.2.2.1.1 (by decide) (by omega) (by omega) (fun hr18 => ?_)
      have q1 := hI.1 i (by omega) (by omega)
      refine a_iloadn dX5_housesAbout_19 rfl ?_
      refine a_isub dX5_housesAbout_20 ?_
      refine c_abs dX5_housesAbout_21 mmX5_50 (Nat.le_of_ble_eq_true rfl) ⟨by decide, by decide⟩ ⟨by decide, by decide⟩ ⟨by omega, by omega⟩ ?_
      refine a_iloadn dX5_housesAbout_24 rfl ?_
      refine a_icmp_gt (tgt := 31) dX5_housesAbout_25 (by decide) (by have q9 := iabs_b (M (a + 1) i - at9); exact ⟨by omega, by omega⟩) hr (fun hb25 => ?_) (fun hb25 => ?_)
      · refine c_iinc (ls' := [_, _, _, _, _, _]) dX5_housesAbout_31 rfl (by decide) rfl rfl ?_
        refine a_goto (tgt := 6) dX5_housesAbout_34 (by decide) ?_
        simp only [zsm]
        first
        | (rw [if_pos (by omega)]; exact ih _ _ (by omega) (by omega))
        | (rw [if_neg (by omega), Int.add_zero]; exact ih _ _ (by omega) (by omega))
      · refine c_iinc (ls' := [_, _, _, _, _, _]) dX5_housesAbout_28 rfl (by decide) rfl rfl ?_
        refine c_iinc (ls' := [_, _, _, _, _, _]) dX5_housesAbout_31 rfl (by decide) rfl rfl ?_
        refine a_goto (tgt := 6) dX5_housesAbout_34 (by decide) ?_
        simp only [zsm]
        first
        | (rw [if_pos (by omega)]; exact ih _ _ (by omega) (by omega))
        | (rw [if_neg (by omega), Int.add_zero]; exact ih _ _ (by omega) (by omega))

set_option maxRecDepth 100000 in
set_option maxHeartbeats 4000000 in
theorem m_X5_housesAbout {G : zG} {l : Launch} {L : Nat} {P : zP} {M : zM} {a : Nat} {at9 rch hs : Int} (hS : StA L P a) (hI : StI M a) (at0 : 0 ≤ at9) (at1 : at9 ≤ 99) (hr : inR rch) (hn0 : 0 ≤ hs) (hn1 : hs ≤ 6) : AM G l yX5_housesAbout mdX5_housesAbout [aR a, aI at9, aI rch, aI hs] (LAY L) P M (zdet (some (aI (zsm (fun j => if iabs (M (a + 1) j - at9) ≤ rch then 1 else 0) hs.toNat 0 0))) (LAY L) P M) := by
  refine AM.go [some (aR a), some (aI at9), some (aI rch), some (aI hs), none, none] rfl (Nat.le_of_ble_eq_true rfl) ?_ (by decide) rfl rfl
  refine a_iconst dX5_housesAbout_0 ?_
  refine c_istore (ls' := [_, _, _, _, _, _]) dX5_housesAbout_1 (by decide) rfl rfl ?_
  refine a_iconst dX5_housesAbout_3 ?_
  refine c_istore (ls' := [_, _, _, _, _, _]) dX5_housesAbout_4 (by decide) rfl rfl ?_
  exact lpX5_housesAbout hS hI at0 at1 hr hn0 hn1 hs.toNat 0 0 (by omega) (by omega)

set_option maxRecDepth 100000 in
set_option maxHeartbeats 4000000 in
theorem m_X5_nextNumber {G : zG} {l : Launch} {L : Nat} {P : zP} {M : zM} {a : Nat} (hS : StA L P a) (hI : StI M a) : AM G l yX5_nextNumber mdX5_nextNumber [aR a] (LAY L) P M (zdet (some (aI ((nxt (M a 6)).tdiv 65536))) (LAY L) P (sm M a 6 (nxt (M a 6)))) := by
  refine AM.go [some (aR a)] rfl (Nat.le_of_ble_eq_true rfl) ?_ (by decide) rfl rfl
  refine a_aloadn dX5_nextNumber_0 rfl ?_
  refine a_aloadn dX5_nextNumber_1 rfl ?_
  refine b_getI (j' := 6) dX5_nextNumber_2 flX5_41 rfl rfl hS.2.1 (fun hr2 => ?_)
  refine a_ldc (w := 1103515245) dX5_nextNumber_5 knX5_69 (by decide) ?_
  refine a_imul dX5_nextNumber_7 ?_
  refine a_sipush (w := 12345) dX5_nextNumber_8 (by decide) ?_
  refine a_iadd dX5_nextNumber_11 ?_
  refine a_ldc (w := 2147483647) dX5_nextNumber_12 knX5_70 (by decide) ?_
  refine a_iand dX5_nextNumber_14 ?_
  refine a_putI (j' := 6) dX5_nextNumber_15 flX5_41 rfl rfl hS.2.1 hS.1 rfl (ir _) ?_
  refine a_aloadn dX5_nextNumber_18 rfl ?_
  refine b_getI (j' := 6) dX5_nextNumber_19 flX5_41 rfl rfl hS.2.1 (fun hr19 => ?_)
  refine a_ldc (w := 65536) dX5_nextNumber_22 knX5_71 (by decide) ?_
  refine a_idiv dX5_nextNumber_24 (by rw [sm_s]; exact ir _) ⟨by omega, by omega⟩ (by omega) (by omega) ?_
  exact a_ireturn dX5_nextNumber_25 rfl rfl rfl (zdet_I (by rw [sm_s]; rfl) rfl)

set_option maxRecDepth 100000 in
set_option maxHeartbeats 4000000 in
theorem m_J6_bitCount_0f7a4 {G : zG} {l : Launch} {L : Nat} {P : zP} {M : zM} {x : Int}  : AM G l yJ6_bitCount_0f7a4 mdJ6_bitCount_0f7a4 [aI x] (LAY L) P M (zdet (some (aI (bcnt x))) (LAY L) P M) := by
  refine AM.go [some (aI x)] rfl (Nat.le_of_ble_eq_true rfl) ?_ (by decide) rfl rfl
  refine a_iloadn dJ6_bitCount_0f7a4_0 rfl ?_
  refine a_iloadn dJ6_bitCount_0f7a4_1 rfl ?_
  refine a_iconst dJ6_bitCount_0f7a4_2 ?_
  refine a_iushr dJ6_bitCount_0f7a4_3 ?_
  refine a_ldcw (w := 1431655765) dJ6_bitCount_0f7a4_4 knJ6_265 (by decide) ?_
  refine a_iand dJ6_bitCount_0f7a4_7 ?_
  refine a_isub dJ6_bitCount_0f7a4_8 ?_
  refine c_istoren (ls' := [_]) dJ6_bitCount_0f7a4_9 (by decide) rfl rfl ?_
  refine a_iloadn dJ6_bitCount_0f7a4_10 rfl ?_
  refine a_ldcw (w := 858993459) dJ6_bitCount_0f7a4_11 knJ6_266 (by decide) ?_
  refine a_iand dJ6_bitCount_0f7a4_14 ?_
  refine a_iloadn dJ6_bitCount_0f7a4_15 rfl ?_
  refine a_iconst dJ6_bitCount_0f7a4_16 ?_
  refine a_iushr dJ6_bitCount_0f7a4_17 ?_
  refine a_ldcw (w := 858993459) dJ6_bitCount_0f7a4_18 knJ6_266 (by decide) ?_
  refine a_iand dJ6_bitCount_0f7a4_21 ?_
  refine a_iadd dJ6_bitCount_0f7a4_22 ?_
  refine c_istoren (ls' := [_]) dJ6_bitCount_0f7a4_23 (by decide) rfl rfl ?_
  refine a_iloadn dJ6_bitCount_0f7a4_24 rfl ?_
  refine a_iloadn dJ6_bitCount_0f7a4_25 rfl ?_
  refine a_iconst dJ6_bitCount_0f7a4_26 ?_
  refine a_iushr dJ6_bitCount_0f7a4_27 ?_
  refine a_iadd dJ6_bitCount_0f7a4_28 ?_
  refine a_ldcw (w := 252645135) dJ6_bitCount_0f7a4_29 knJ6_267 (by decide) ?_
  refine a_iand dJ6_bitCount_0f7a4_32 ?_
  refine c_istoren (ls' := [_]) dJ6_bitCount_0f7a4_33 (by decide) rfl rfl ?_
  refine a_iloadn dJ6_bitCount_0f7a4_34 rfl ?_
  refine a_iloadn dJ6_bitCount_0f7a4_35 rfl ?_
  refine a_bipush (w := 8) dJ6_bitCount_0f7a4_36 (by decide) ?_
  refine a_iushr dJ6_bitCount_0f7a4_38 ?_
  refine a_iadd dJ6_bitCount_0f7a4_39 ?_
  refine c_istoren (ls' := [_]) dJ6_bitCount_0f7a4_40 (by decide) rfl rfl ?_
  refine a_iloadn dJ6_bitCount_0f7a4_41 rfl ?_
  refine a_iloadn dJ6_bitCount_0f7a4_42 rfl ?_
  refine a_bipush (w := 16) dJ6_bitCount_0f7a4_43 (by decide) ?_
  refine a_iushr dJ6_bitCount_0f7a4_45 ?_
  refine a_iadd dJ6_bitCount_0f7a4_46 ?_
  refine c_istoren (ls' := [_]) dJ6_bitCount_0f7a4_47 (by decide) rfl rfl ?_
  refine a_iloadn dJ6_bitCount_0f7a4_48 rfl ?_
  refine a_bipush (w := 63) dJ6_bitCount_0f7a4_49 (by decide) ?_
  refine a_iand dJ6_bitCount_0f7a4_51 ?_
  exact a_ireturn dJ6_bitCount_0f7a4_52 rfl rfl rfl (zdet_I (by first | rfl | omega) rfl)

set_option maxRecDepth 100000 in
set_option maxHeartbeats 4000000 in
theorem lpX5_pairs {G : zG} {l : Launch} {L : Nat} {P : zP} {M : zM} {a : Nat} (hS : StA L P a) : ∀ (n : Nat) (i acc : Int) (h0 : 0 ≤ i) (h1 : i + n = 6), AW G l mdX5_pairs (zdet (some (aI (zsm (fun j => bcnt (M (a + 3) j)) n i acc))) (LAY L) P M) 4 [some (aR a), some (aI acc), some (aI i)] [] (LAY L) P M 0 0 := by
  intro n
  induction n with
  | zero =>
    intro i acc h0 h1 
    refine a_iloadn dX5_pairs_4 rfl ?_
    refine a_bipush (w := 6) dX5_pairs_5 (by decide) ?_
    refine a_icmp_ge (tgt := 28) dX5_pairs_7 (by decide) ⟨by omega, by omega⟩ ⟨by omega, by omega⟩ (fun hb7 => ?_) (fun hb7 => ?_)
    · refine a_iloadn dX5_pairs_28 rfl ?_
      exact a_ireturn dX5_pairs_29 rfl rfl rfl (zdet_I (by first | rfl | omega) rfl)
    · exfalso; omega
  | succ n ih =>
    intro i acc h0 h1 
    refine a_iloadn dX5_pairs_4 rfl ?_
    refine a_bipush (w := 6) dX5_pairs_5 (by decide) ?_
    refine a_icmp_ge (tgt := 28) dX5_pairs_7 (by decide) ⟨by omega, by omega⟩ ⟨by omega, by omega⟩ (fun hb7 => ?_) (fun hb7 => ?_)
    · exfalso; omega
    · refine a_iloadn dX5_pairs_10 rfl ?_
      refine a_aloadn dX5_pairs_11 rfl ?_
      refine a_getR (j' := 2) (y := (a + 3)) dX5_pairs_12 flX5_18 rfl rfl hS.2.1 hS.2.2.2.2.1.2 ?_
      refine a_iloadn dX5_pairs_15 rfl ?_
      refine b_iald (N := 6) dX5_pairs_16 hS.2.2.2.2.1.1 (by decide) (by omega) (by omega) (fun hr16 => ?_)
      refine a_callSA (as := [_]) dX5_pairs_17 mvX5_64 ⟨by decide, by decide⟩ rfl rfl (Nat.le_of_ble_eq_true rfl) ⟨rfl, rfl⟩ ⟨by decide, by decide⟩ m_J6_bitCount_0f7a4 ?_
      refine a_iadd dX5_pairs_20 ?_
      refine c_istoren (ls' := [_, _, _]) dX5_pairs_21 (by decide) rfl rfl ?_
      refine c_iinc (ls' := [_, _, _]) dX5_pairs_22 rfl (by decide) rfl rfl ?_
      refine a_goto (tgt := 4) dX5_pairs_25 (by decide) ?_
      exact ih _ _ (by omega) (by omega)

set_option maxRecDepth 100000 in
set_option maxHeartbeats 4000000 in
theorem m_X5_pairs {G : zG} {l : Launch} {L : Nat} {P : zP} {M : zM} {a : Nat} (hS : StA L P a) : AM G l yX5_pairs mdX5_pairs [aR a] (LAY L) P M (zdet (some (aI (zsm (fun j => bcnt (M (a + 3) j)) 6 0 0))) (LAY L) P M) := by
  refine AM.go [some (aR a), none, none] rfl (Nat.le_of_ble_eq_true rfl) ?_ (by decide) rfl rfl
  refine a_iconst dX5_pairs_0 ?_
  refine c_istoren (ls' := [_, _, _]) dX5_pairs_1 (by decide) rfl rfl ?_
  refine a_iconst dX5_pairs_2 ?_
  refine c_istoren (ls' := [_, _, _]) dX5_pairs_3 (by decide) rfl rfl ?_
  exact lpX5_pairs hS 6 0 0 (by omega) (by omega)

set_option maxRecDepth 100000 in
set_option maxHeartbeats 4000000 in
theorem lpX5_knowersOf {G : zG} {l : Launch} {L : Nat} {P : zP} {M : zM} {a : Nat} {h : Int} (hS : StA L P a) : ∀ (n : Nat) (acc i : Int) (h0 : 0 ≤ i) (h1 : i + n = 6), AW G l mdX5_knowersOf (zdet (some (aI (zbits (fun j => kbit (M (a + 3) j) h) n i acc))) (LAY L) P M) 4 [some (aR a), some (aI h), some (aI acc), some (aI i)] [] (LAY L) P M 0 0 := by
  intro n
  induction n with
  | zero =>
    intro acc i h0 h1 
    refine a_iloadn dX5_knowersOf_4 rfl ?_
    refine a_bipush (w := 6) dX5_knowersOf_5 (by decide) ?_
    refine a_icmp_ge (tgt := 31) dX5_knowersOf_7 (by decide) ⟨by omega, by omega⟩ ⟨by omega, by omega⟩ (fun hb7 => ?_) (fun hb7 => ?_)
    · refine a_iloadn dX5_knowersOf_31 rfl ?_
      exact a_ireturn dX5_knowersOf_32 rfl rfl rfl (zdet_I (by first | rfl | omega) rfl)
    · exfalso; omega
  | succ n ih =>
    intro acc i h0 h1 
    refine a_iloadn dX5_knowersOf_4 rfl ?_
    refine a_bipush (w := 6) dX5_knowersOf_5 (by decide) ?_
    refine a_icmp_ge (tgt := 31) dX5_knowersOf_7 (by decide) ⟨by omega, by omega⟩ ⟨by omega, by omega⟩ (fun hb7 => ?_) (fun hb7 => ?_)
    · exfalso; omega
    · refine a_aloadn dX5_knowersOf_10 rfl ?_
      refine a_iloadn dX5_knowersOf_11 rfl ?_
      refine a_iloadn dX5_knowersOf_12 rfl ?_
      refine a_callV (as := [_, _]) (q := a) dX5_knowersOf_13 mvX5_60 ⟨by decide, by decide⟩ hS.2.1 rfl rfl rfl (Nat.le_of_ble_eq_true rfl) ⟨rfl, rfl⟩ ⟨by decide, by decide⟩ (m_X5_isKnown hS (by omega) (by omega)) ?_
      refine a_if_eq (tgt := 25) dX5_knowersOf_16 (by decide) (by have q := kbit01 (M (a + 3) i) h; exact ⟨by omega, by omega⟩) (fun hb16 => ?_) (fun hb16 => ?_)
      · refine c_iinc (ls' := [_, _, _, _]) dX5_knowersOf_25 rfl (by decide) rfl rfl ?_
        refine a_goto (tgt := 4) dX5_knowersOf_28 (by decide) ?_
        simp only [zbits]
        first
        | (rw [if_pos (by omega)]; exact ih _ _ (by omega) (by omega))
        | (rw [if_neg (by omega)]; exact ih _ _ (by omega) (by omega))
      · refine a_iloadn dX5_knowersOf_19 rfl ?_
        refine a_iconst dX5_knowersOf_20 ?_
        refine a_iloadn dX5_knowersOf_21 rfl ?_
        refine a_ishl dX5_knowersOf_22 ?_
        refine a_ior dX5_knowersOf_23 ?_
        refine c_istoren (ls' := [_, _, _, _]) dX5_knowersOf_24 (by decide) rfl rfl ?_
        refine c_iinc (ls' := [_, _, _, _]) dX5_knowersOf_25 rfl (by decide) rfl rfl ?_
        refine a_goto (tgt := 4) dX5_knowersOf_28 (by decide) ?_
        simp only [zbits]
        first
        | (rw [if_pos (by omega)]; exact ih _ _ (by omega) (by omega))
        | (rw [if_neg (by omega)]; exact ih _ _ (by omega) (by omega))

set_option maxRecDepth 100000 in
set_option maxHeartbeats 4000000 in
theorem m_X5_knowersOf {G : zG} {l : Launch} {L : Nat} {P : zP} {M : zM} {a : Nat} {h : Int} (hS : StA L P a) : AM G l yX5_knowersOf mdX5_knowersOf [aR a, aI h] (LAY L) P M (zdet (some (aI (zbits (fun j => kbit (M (a + 3) j) h) 6 0 0))) (LAY L) P M) := by
  refine AM.go [some (aR a), some (aI h), none, none] rfl (Nat.le_of_ble_eq_true rfl) ?_ (by decide) rfl rfl
  refine a_iconst dX5_knowersOf_0 ?_
  refine c_istoren (ls' := [_, _, _, _]) dX5_knowersOf_1 (by decide) rfl rfl ?_
  refine a_iconst dX5_knowersOf_2 ?_
  refine c_istoren (ls' := [_, _, _, _]) dX5_knowersOf_3 (by decide) rfl rfl ?_
  exact lpX5_knowersOf hS 6 0 0 (by omega) (by omega)
