section ZAQX
/-- a walk with its usual end is one with any end that follows -/
theorem AW.q {G : zG} {l : Launch} {md : zMd} {Z : zZ} {pc : Nat} {ls : List (Option av)} {st : List av} {lay : List zKd} {P : zP} {M : zM} {k n : Nat} {Q : zQQ} (h : AW G l md Z pc ls st lay P M k n) (hq : ∀ (below : List Frame) (s : State) (args : Array Value) (t : State), MQ below (zQ G Z) args s md.2.2.2.2.2.cells md.2.2.2.2.2.slots (zA G) t → Q below s args t) : AQ G l md Q pc ls st lay P M k n := by
  intro hG p e s m args below meth c H locs lsA hC hl hH hS T hT X
  obtain ⟨t, a1, b1⟩ := h hG p e s m args below meth c H locs lsA hC hl hH hS T hT X
  exact ⟨t, a1, hq below s args t b1⟩
end ZAQX
set_option maxRecDepth 100000 in
set_option maxHeartbeats 4000000 in
theorem hsX10_pre {G : zG} {l : Launch} {L : Nat} {P : zP} {M : zM} {t : Nat} {h w : Int} {Q : zQQ} (hv : CV L P M t) (rh : inR h) (rw : inR w) (hq : ∀ (below : List Frame) (s : State) (args : Array Value) (t2 : State), MQ below (zQ G (zany (LAY L) P (fun r M' => Cn t M M' ∧ (0 ≤ h ∧ h < M t 2) ∧ (0 ≤ w ∧ w ≤ 6) ∧ r = hsC9 M t w h))) args s 1 6 (zA G) t2 → Q below s args t2) (b1 : ¬ (0 ≤ h ∧ h < M t 2) → AQ G l mdX10h Q 8 [some (aR 2), some (aI h), some (aI w)] [] (LAY L) P M 0 0) (b2 : (0 ≤ h ∧ h < M t 2) → ¬ (0 ≤ w ∧ w ≤ 6) → AQ G l mdX10h Q 135 [some (aR 2), some (aI h), some (aI w)] [] (LAY L) P M 0 0) : AQ G l mdX10h Q 0 [some (aR 2), some (aI h), some (aI w)] [] (LAY L) P M 0 0 := by
  refine x_aloadn dX10_house_0 rfl ?_
  refine x_iloadn dX10_house_1 rfl ?_
  refine x_invV (as := [_]) (q := 2) dX10_house_2 mvX10_121 ⟨by decide, by decide⟩ (L2 L) rfl rfl rfl (Nat.le_of_ble_eq_true rfl) ⟨by decide, by decide⟩ (m_X10_isHouse hv rh) ?_
  rintro r9 lay9 P9 M9 ⟨z1, z2, z3, r, z4, hr⟩
  rw [z1, z2, z3, z4]
  refine x_if_ne (tgt := 18) dX10_house_5 (by decide) ⟨by omega, by omega⟩ (fun q => ?_) (fun q => ?_)
  · have hh : 0 ≤ h ∧ h < M t 2 := by omega
    by_cases c : 0 ≤ w ∧ w ≤ 6
    · refine AW.q (hsX10_good hv hh c) (fun below s args t2 z => hq below s args t2 ?_)
      obtain ⟨o, s1, s2, ⟨r9, lay9, P9, M9, e1, ⟨z1, z2, x9, z3, z4, z5⟩, e3⟩, s4⟩ := z
      exact ⟨o, s1, s2, ⟨r9, lay9, P9, M9, e1, ⟨z1, z2, x9, z3, z4, hh, c, z5⟩, e3⟩, s4⟩
    · refine x_iloadn dX10_house_18 rfl ?_
      exact x_tabOut (tgt := 135) dX10_house_19 rw (by omega) (by decide) (b2 hh c)
  · exact b1 (by omega)
