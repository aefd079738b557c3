/-- what is told of a law's value -/
def lval (r : Option Int) : Int := match r with
  | some v => v
  | none => -9223372036854775808
/-- a text's law -/
def lwAt (t : Nat) (w : Int) : Nat := if w = 0 then t + 13 else if w = 1 then t + 15 else t + 17

set_option maxRecDepth 100000 in
set_option maxHeartbeats 4000000 in
theorem m_plainly0 {G : zG} {l : Launch} {L : Nat} {P : zP} {M : zM} {t a : Nat} (hc : CS L P t a) (hw : LwI M (t + 13)) (hN : NmI M) : AM G l yX0_plainly mdX0_plainly [aR 50, aI 0] (LAY L) P M (zanyL (LAY L) P (fun x M' => Ew M M' ∧ x = lval (lawS (M 52) (M (t + 13 + 1)) (M (t + 13) 1).toNat))) := by
  obtain ⟨hP, hTp, hT, ht, hS, ha⟩ := id hc
  refine AM.go [some (aR 50), some (aI 0)] rfl (Nat.le_of_ble_eq_true rfl) ?_ (by decide) rfl rfl
  refine a_aloadn dX0_plainly_0 rfl ?_
  refine a_getR (j' := 6) (y := 51) dX0_plainly_1 flX0_12 rfl rfl (L50 L) (p50_6 hP) ?_
  refine a_aloadn dX0_plainly_4 rfl ?_
  refine a_getR (j' := 0) (y := t) dX0_plainly_5 flX0_18 rfl rfl (L50 L) hTp ?_
  refine a_getR (j' := 16) (y := (t + 12)) dX0_plainly_8 flX0_60 rfl rfl hT.1.2.1 hT.1.2.2.2.2.2.2.2.2.2.2.2.2.2.2 ?_
  refine a_iloadn dX0_plainly_11 rfl ?_
  refine a_aald3 (N := 3) (y := (t + 13)) dX0_plainly_12 hT.1.2.2.2.2.2.2.2.2.2.2.2.2.2.1 (by decide) (by omega) (by omega) hT.2.1.1 ?_
  refine a_anyV (as := [_]) (q := 51) dX0_plainly_13 mvX0_131 ⟨by decide, by decide⟩ (L51 L) rfl rfl rfl (Nat.le_of_ble_eq_true rfl) ⟨rfl, rfl⟩ ⟨by decide, by decide⟩ (m_X6_isWorkedOut hP (w := t + 13) hT.2.1.2 (by omega) hw hN) (fun x3 M1 hM1 => ?_)
  refine a_if_eq (tgt := 29) dX0_plainly_16 (by decide) (by rcases hM1.2 with z | z <;> exact ⟨by omega, by omega⟩) (fun hb16 => ?_) (fun hb16 => ?_)
  · refine a_ldc2 (w := -9223372036854775808) dX0_plainly_29 knX0_169 (by decide) ?_
    exact a_lreturn dX0_plainly_32 rfl rfl rfl (by first | exact zanyL_i ⟨hM1.1, by rw [(hM1.2.resolve_right (fun z => hb16 z.1)).2]; rfl⟩ | exact zanyL_i ⟨hM1.1, by rw [(hM1.2.resolve_left (fun z => by omega)).2]; rfl⟩)
  · refine a_aloadn dX0_plainly_19 rfl ?_
    refine a_getR (j' := 6) (y := 51) dX0_plainly_20 flX0_12 rfl rfl (L50 L) (p50_6 hP) ?_
    refine b_getL (j' := 2) dX0_plainly_23 flX0_135 rfl rfl (L51 L) (fun hr23 => ?_)
    refine a_goto (tgt := 32) dX0_plainly_26 (by decide) ?_
    exact a_lreturn dX0_plainly_32 rfl rfl rfl (by first | exact zanyL_i ⟨hM1.1, by rw [(hM1.2.resolve_right (fun z => hb16 z.1)).2]; rfl⟩ | exact zanyL_i ⟨hM1.1, by rw [(hM1.2.resolve_left (fun z => by omega)).2]; rfl⟩)

set_option maxRecDepth 100000 in
set_option maxHeartbeats 4000000 in
theorem m_plainly1 {G : zG} {l : Launch} {L : Nat} {P : zP} {M : zM} {t a : Nat} (hc : CS L P t a) (hw : LwI M (t + 15)) (hN : NmI M) : AM G l yX0_plainly mdX0_plainly [aR 50, aI 1] (LAY L) P M (zanyL (LAY L) P (fun x M' => Ew M M' ∧ x = lval (lawS (M 52) (M (t + 15 + 1)) (M (t + 15) 1).toNat))) := by
  obtain ⟨hP, hTp, hT, ht, hS, ha⟩ := id hc
  refine AM.go [some (aR 50), some (aI 1)] rfl (Nat.le_of_ble_eq_true rfl) ?_ (by decide) rfl rfl
  refine a_aloadn dX0_plainly_0 rfl ?_
  refine a_getR (j' := 6) (y := 51) dX0_plainly_1 flX0_12 rfl rfl (L50 L) (p50_6 hP) ?_
  refine a_aloadn dX0_plainly_4 rfl ?_
  refine a_getR (j' := 0) (y := t) dX0_plainly_5 flX0_18 rfl rfl (L50 L) hTp ?_
  refine a_getR (j' := 16) (y := (t + 12)) dX0_plainly_8 flX0_60 rfl rfl hT.1.2.1 hT.1.2.2.2.2.2.2.2.2.2.2.2.2.2.2 ?_
  refine a_iloadn dX0_plainly_11 rfl ?_
  refine a_aald3 (N := 3) (y := (t + 15)) dX0_plainly_12 hT.1.2.2.2.2.2.2.2.2.2.2.2.2.2.1 (by decide) (by omega) (by omega) hT.2.2.1.1 ?_
  refine a_anyV (as := [_]) (q := 51) dX0_plainly_13 mvX0_131 ⟨by decide, by decide⟩ (L51 L) rfl rfl rfl (Nat.le_of_ble_eq_true rfl) ⟨rfl, rfl⟩ ⟨by decide, by decide⟩ (m_X6_isWorkedOut hP (w := t + 15) hT.2.2.1.2 (by omega) hw hN) (fun x3 M1 hM1 => ?_)
  refine a_if_eq (tgt := 29) dX0_plainly_16 (by decide) (by rcases hM1.2 with z | z <;> exact ⟨by omega, by omega⟩) (fun hb16 => ?_) (fun hb16 => ?_)
  · refine a_ldc2 (w := -9223372036854775808) dX0_plainly_29 knX0_169 (by decide) ?_
    exact a_lreturn dX0_plainly_32 rfl rfl rfl (by first | exact zanyL_i ⟨hM1.1, by rw [(hM1.2.resolve_right (fun z => hb16 z.1)).2]; rfl⟩ | exact zanyL_i ⟨hM1.1, by rw [(hM1.2.resolve_left (fun z => by omega)).2]; rfl⟩)
  · refine a_aloadn dX0_plainly_19 rfl ?_
    refine a_getR (j' := 6) (y := 51) dX0_plainly_20 flX0_12 rfl rfl (L50 L) (p50_6 hP) ?_
    refine b_getL (j' := 2) dX0_plainly_23 flX0_135 rfl rfl (L51 L) (fun hr23 => ?_)
    refine a_goto (tgt := 32) dX0_plainly_26 (by decide) ?_
    exact a_lreturn dX0_plainly_32 rfl rfl rfl (by first | exact zanyL_i ⟨hM1.1, by rw [(hM1.2.resolve_right (fun z => hb16 z.1)).2]; rfl⟩ | exact zanyL_i ⟨hM1.1, by rw [(hM1.2.resolve_left (fun z => by omega)).2]; rfl⟩)

set_option maxRecDepth 100000 in
set_option maxHeartbeats 4000000 in
theorem m_plainly2 {G : zG} {l : Launch} {L : Nat} {P : zP} {M : zM} {t a : Nat} (hc : CS L P t a) (hw : LwI M (t + 17)) (hN : NmI M) : AM G l yX0_plainly mdX0_plainly [aR 50, aI 2] (LAY L) P M (zanyL (LAY L) P (fun x M' => Ew M M' ∧ x = lval (lawS (M 52) (M (t + 17 + 1)) (M (t + 17) 1).toNat))) := by
  obtain ⟨hP, hTp, hT, ht, hS, ha⟩ := id hc
  refine AM.go [some (aR 50), some (aI 2)] rfl (Nat.le_of_ble_eq_true rfl) ?_ (by decide) rfl rfl
  refine a_aloadn dX0_plainly_0 rfl ?_
  refine a_getR (j' := 6) (y := 51) dX0_plainly_1 flX0_12 rfl rfl (L50 L) (p50_6 hP) ?_
  refine a_aloadn dX0_plainly_4 rfl ?_
  refine a_getR (j' := 0) (y := t) dX0_plainly_5 flX0_18 rfl rfl (L50 L) hTp ?_
  refine a_getR (j' := 16) (y := (t + 12)) dX0_plainly_8 flX0_60 rfl rfl hT.1.2.1 hT.1.2.2.2.2.2.2.2.2.2.2.2.2.2.2 ?_
  refine a_iloadn dX0_plainly_11 rfl ?_
  refine a_aald3 (N := 3) (y := (t + 17)) dX0_plainly_12 hT.1.2.2.2.2.2.2.2.2.2.2.2.2.2.1 (by decide) (by omega) (by omega) hT.2.2.2.1 ?_
  refine a_anyV (as := [_]) (q := 51) dX0_plainly_13 mvX0_131 ⟨by decide, by decide⟩ (L51 L) rfl rfl rfl (Nat.le_of_ble_eq_true rfl) ⟨rfl, rfl⟩ ⟨by decide, by decide⟩ (m_X6_isWorkedOut hP (w := t + 17) hT.2.2.2.2 (by omega) hw hN) (fun x3 M1 hM1 => ?_)
  refine a_if_eq (tgt := 29) dX0_plainly_16 (by decide) (by rcases hM1.2 with z | z <;> exact ⟨by omega, by omega⟩) (fun hb16 => ?_) (fun hb16 => ?_)
  · refine a_ldc2 (w := -9223372036854775808) dX0_plainly_29 knX0_169 (by decide) ?_
    exact a_lreturn dX0_plainly_32 rfl rfl rfl (by first | exact zanyL_i ⟨hM1.1, by rw [(hM1.2.resolve_right (fun z => hb16 z.1)).2]; rfl⟩ | exact zanyL_i ⟨hM1.1, by rw [(hM1.2.resolve_left (fun z => by omega)).2]; rfl⟩)
  · refine a_aloadn dX0_plainly_19 rfl ?_
    refine a_getR (j' := 6) (y := 51) dX0_plainly_20 flX0_12 rfl rfl (L50 L) (p50_6 hP) ?_
    refine b_getL (j' := 2) dX0_plainly_23 flX0_135 rfl rfl (L51 L) (fun hr23 => ?_)
    refine a_goto (tgt := 32) dX0_plainly_26 (by decide) ?_
    exact a_lreturn dX0_plainly_32 rfl rfl rfl (by first | exact zanyL_i ⟨hM1.1, by rw [(hM1.2.resolve_right (fun z => hb16 z.1)).2]; rfl⟩ | exact zanyL_i ⟨hM1.1, by rw [(hM1.2.resolve_left (fun z => by omega)).2]; rfl⟩)

theorem m_plainly {G : zG} {l : Launch} {L : Nat} {P : zP} {M : zM} {t a : Nat} {w : Int} (hc : CS L P t a) (hw : w = 0 ∨ w = 1 ∨ w = 2) (hI : LwI M (lwAt t w)) (hN : NmI M) : AM G l yX0_plainly mdX0_plainly [aR 50, aI w] (LAY L) P M (zanyL (LAY L) P (fun x M' => Ew M M' ∧ x = lval (lawS (M 52) (M (lwAt t w + 1)) (M (lwAt t w) 1).toNat))) := by
  rcases hw with rfl | rfl | rfl
  · exact m_plainly0 hc hI hN
  · exact m_plainly1 hc hI hN
  · exact m_plainly2 hc hI hN

set_option maxRecDepth 100000 in
set_option maxHeartbeats 4000000 in
theorem m_X0_lawNow {G : zG} {l : Launch} {L : Nat} {P : zP} {M : zM} {t a : Nat} {w h o : Int} (hc : CS L P t a) (hi : CI M t a) (hw : w = 0 ∨ w = 1 ∨ w = 2) (h0 : 0 ≤ h) (h1 : h < 6) (o0 : 0 ≤ o) (o1 : o < 6) : AM G l yX0_lawNow mdX0_lawNow [aR 50, aR a, aI w, aI h, aI o] (LAY L) P M (zanyL (LAY L) P (fun x M' => Ec M M' ∧ x = lval (lwf M (lwAt t w) (nmf (M (a + 1) h) (M (a + 2) h) (iabs (M (a + 1) h - M (a + 1) o)) 0 (M (a + 5) (h * 6 + o)) (bcnt (M (a + 3) h)) (M a 5))))) := by
  obtain ⟨hP, hTp, hT, ht, hS, ha⟩ := id hc
  have q1 := hi.2.2.1.1 h h0 h1
  have q2 := hi.2.2.1.1 o o0 o1
  have q3 := hi.2.2.1.2.1 h h0 h1
  have q4 := hi.2.2.1.2.2.2.2.1 (h * 6 + o) (by omega) (by omega)
  have q5 := hi.2.2.1.2.2.1 h h0 h1
  have q6 := bcnt_in q5
  have q7 := hi.2.2.1.2.2.2.2.2.1
  have q8 := iabs_99 q1 q2
  have hle : lwAt t w ≤ 40 := by unfold lwAt; split <;> (try split) <;> omega
  have hwI : LwI M (lwAt t w) := by
    unfold lwAt
    split
    · exact hi.2.1.1
    · split
      · exact hi.2.1.2.1
      · exact hi.2.1.2.2
  refine AM.go [some (aR 50), some (aR a), some (aI w), some (aI h), some (aI o)] rfl (Nat.le_of_ble_eq_true rfl) ?_ (by decide) rfl rfl
  refine a_aloadn dX0_lawNow_0 rfl ?_
  refine a_aloadn dX0_lawNow_1 rfl ?_
  refine a_iloadn dX0_lawNow_2 rfl ?_
  refine a_aloadn dX0_lawNow_3 rfl ?_
  refine a_iloadn dX0_lawNow_4 rfl ?_
  refine a_iload dX0_lawNow_5 rfl ?_
  refine a_callV (as := [_, _]) (q := a) dX0_lawNow_7 mvX0_150 ⟨by decide, by decide⟩ hS.2.1 rfl rfl rfl (Nat.le_of_ble_eq_true rfl) ⟨rfl, rfl⟩ ⟨by decide, by decide⟩ (m_X5_apart hS hi.2.2.1 h0 h1 o0 o1) ?_
  refine a_iconst dX0_lawNow_10 ?_
  refine a_aloadn dX0_lawNow_11 rfl ?_
  refine a_iloadn dX0_lawNow_12 rfl ?_
  refine a_iload dX0_lawNow_13 rfl ?_
  refine a_callV (as := [_, _]) (q := a) dX0_lawNow_15 mvX0_116 ⟨by decide, by decide⟩ hS.2.1 rfl rfl rfl (Nat.le_of_ble_eq_true rfl) ⟨rfl, rfl⟩ ⟨by decide, by decide⟩ (m_X5_timesHeard hS h0 h1 o0 o1) ?_
  refine a_relVv (as := [_, _, _, _, _]) (q := 50) dX0_lawNow_18 mvX0_127 ⟨by decide, by decide⟩ (L50 L) rfl rfl rfl (Nat.le_of_ble_eq_true rfl) ⟨rfl, rfl⟩ ⟨by decide, by decide⟩ (m_X0_lookAt hP hS ha hi.2.2.1 h0 h1 q8 ⟨by omega, by omega⟩ q4) (fun M1 hM1 => ?_)
  refine a_aloadn dX0_lawNow_21 rfl ?_
  refine a_iloadn dX0_lawNow_22 rfl ?_
  refine a_anyLV (as := [_]) (q := 50) dX0_lawNow_23 mvX0_153 ⟨by decide, by decide⟩ (L50 L) rfl rfl rfl (Nat.le_of_ble_eq_true rfl) ⟨rfl, rfl⟩ ⟨by decide, by decide⟩ (m_plainly hc hw (LwI_lk hle hM1.1 hwI) (nmf_lim hM1.2 q1 q3 q8 ⟨by omega, by omega⟩ q4 q6 q7)) (fun x9 M2 hM2 => ?_)
  exact a_lreturn dX0_lawNow_26 rfl rfl rfl (zanyL_i ⟨fun k i a1 a2 a3 => (hM2.1 k i a2 a3).trans (hM1.1 k i a1), by
      rw [hM2.2, show M1 (lwAt t w + 1) = M (lwAt t w + 1) from funext fun i => hM1.1 _ i (by omega), show M1 (lwAt t w) 1 = M (lwAt t w) 1 from hM1.1 _ _ (by omega)]
      exact congrArg lval (lwf_cong hwI hM1.2)⟩)

set_option maxRecDepth 100000 in
set_option maxHeartbeats 4000000 in
theorem m_X0_driftNow {G : zG} {l : Launch} {L : Nat} {P : zP} {M : zM} {t a : Nat} {h : Int} (hc : CS L P t a) (hi : CI M t a) (h0 : 0 ≤ h) (h1 : h < 6) : AM G l yX0_driftNow mdX0_driftNow [aR 50, aR a, aI h] (LAY L) P M (zanyL (LAY L) P (fun x M' => Ec M M' ∧ x = lval (lwf M (t + 17) (nmf (M (a + 1) h) (M (a + 2) h) 0 0 0 (bcnt (M (a + 3) h)) (M a 5))))) := by
  obtain ⟨hP, hTp, hT, ht, hS, ha⟩ := id hc
  have q1 := hi.2.2.1.1 h h0 h1
  have q3 := hi.2.2.1.2.1 h h0 h1
  have q5 := hi.2.2.1.2.2.1 h h0 h1
  have q6 := bcnt_in q5
  have q7 := hi.2.2.1.2.2.2.2.2.1
  refine AM.go [some (aR 50), some (aR a), some (aI h)] rfl (Nat.le_of_ble_eq_true rfl) ?_ (by decide) rfl rfl
  refine a_aloadn dX0_driftNow_0 rfl ?_
  refine a_aloadn dX0_driftNow_1 rfl ?_
  refine a_iloadn dX0_driftNow_2 rfl ?_
  refine a_iconst dX0_driftNow_3 ?_
  refine a_iconst dX0_driftNow_4 ?_
  refine a_iconst dX0_driftNow_5 ?_
  refine a_relVv (as := [_, _, _, _, _]) (q := 50) dX0_driftNow_6 mvX0_127 ⟨by decide, by decide⟩ (L50 L) rfl rfl rfl (Nat.le_of_ble_eq_true rfl) ⟨rfl, rfl⟩ ⟨by decide, by decide⟩ (m_X0_lookAt hP hS ha hi.2.2.1 h0 h1 ⟨by omega, by omega⟩ ⟨by omega, by omega⟩ ⟨by omega, by omega⟩) (fun M1 hM1 => ?_)
  refine a_aloadn dX0_driftNow_9 rfl ?_
  refine a_iconst dX0_driftNow_10 ?_
  refine a_anyLV (as := [_]) (q := 50) dX0_driftNow_11 mvX0_153 ⟨by decide, by decide⟩ (L50 L) rfl rfl rfl (Nat.le_of_ble_eq_true rfl) ⟨rfl, rfl⟩ ⟨by decide, by decide⟩ (m_plainly2 hc (LwI_lk (by omega) hM1.1 hi.2.1.2.2) (nmf_lim hM1.2 q1 q3 ⟨by omega, by omega⟩ ⟨by omega, by omega⟩ ⟨by omega, by omega⟩ q6 q7)) (fun x9 M2 hM2 => ?_)
  exact a_lreturn dX0_driftNow_14 rfl rfl rfl (zanyL_i ⟨fun k i a1 a2 a3 => (hM2.1 k i a2 a3).trans (hM1.1 k i a1), by
      rw [hM2.2, show M1 (t + 17 + 1) = M (t + 17 + 1) from funext fun i => hM1.1 _ i (by omega), show M1 (t + 17) 1 = M (t + 17) 1 from hM1.1 _ _ (by omega)]
      exact congrArg lval (lwf_cong hi.2.1.2.2 hM1.2)⟩)
