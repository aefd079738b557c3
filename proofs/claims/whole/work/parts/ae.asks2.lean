section ZASK2
theorem cy_t {t d : Nat} {M Ma : zM} (h : REL t d M M) (cy : CyR M 67 61 Ma) : Ma t 2 = M t 2 := by
  have := h.t9
  rw [cy.2.2.2.2 t (by omega)]
theorem REL.dr {t d : Nat} {C R : zM} (h : REL t d C R) {x : Int} (hx : 0 ≤ x ∧ x < C t 2) : 0 ≤ C 62 x ∧ C 62 x ≤ 99 := h.1.1.2.2.2.1.2.1 x hx.1 (by have := h.1.1.n6; omega)
theorem g_code {t d : Nat} {M M1 M2 : zM} {x o r1 r2 : Int} (h : REL t d M M) (hc : Cn t M M1 ∧ ((¬ two (M t 2) x o) ∧ r1 = -1 ∨ ¬ (¬ two (M t 2) x o) ∧ ∃ Ma, CyR M 67 61 Ma ∧ r1 = cdF t x (kset (kwC M 61 x) o) 21 0 Ma)) (hr : Rn M1 M2 ∧ ((¬ two (M1 209 12) x o) ∧ r2 = -1 ∨ ¬ (¬ two (M1 209 12) x o) ∧ ∃ Mb, LtR M1 Mb ∧ r2 = cdR x o (kset (kwR M1 0 x) o) 21 0 Mb)) : r2 = r1 ∧ REL t d M2 M2 := by
  obtain ⟨h1, h2⟩ := h.ask hc.1 hr.1
  refine ⟨?_, h2⟩
  have n9 := h1.n
  have n6 := h.1.1.n6
  rcases hc.2 with ⟨a, e1⟩ | ⟨a, Ma, cy, e1⟩ <;> rcases hr.2 with ⟨b, e2⟩ | ⟨b, Mb, lb, e2⟩
  · rw [e1, e2]
  · rw [n9] at b; exact absurd a b
  · rw [n9] at b; exact absurd b a
  · have z := Decidable.not_not.mp a
    unfold two at z
    have et := cy_t h cy
    have ek : kwR M1 0 x = kwC M 61 x := kw_eq h1.1.1.1 h1.1.1.2.1 h1.1.1.2.2.2.1 (by omega)
    rw [e1, e2, ek]
    refine q_code (kw_in M 61 x) 21 0 Ma Mb (h1.1.1.cy cy lb) (by rw [et]; omega) (by rw [et]; omega) (fun j x9 y hk => ?_)
    rw [kw_b ⟨x9, y⟩] at hk
    rw [(cy.1 j x9 y).2.2.1]; exact hk
theorem g_hide {t d : Nat} {M M1 M2 : zM} {x r1 r2 : Int} (h : REL t d M M) (hc : Cn t M M1 ∧ ((¬ (0 ≤ x ∧ x < M t 2)) ∧ r1 = -1 ∨ ¬ (¬ (0 ≤ x ∧ x < M t 2)) ∧ ∃ Ma, CyR M 67 61 Ma ∧ r1 = fhF (hidV Ma t x) (Ma 68 x) 100 0)) (hr : Rn M1 M2 ∧ ((¬ (0 ≤ x ∧ x < M1 209 12)) ∧ r2 = -1 ∨ ¬ (¬ (0 ≤ x ∧ x < M1 209 12)) ∧ ∃ Mb, LtR M1 Mb ∧ r2 = hiR (hdR Mb x) (M1 233 x) 200 0)) : r2 = r1 ∧ REL t d M2 M2 := by
  obtain ⟨h1, h2⟩ := h.ask hc.1 hr.1
  refine ⟨?_, h2⟩
  have n9 := h1.n
  have n6 := h.1.1.n6
  rcases hc.2 with ⟨a, e1⟩ | ⟨a, Ma, cy, e1⟩ <;> rcases hr.2 with ⟨b, e2⟩ | ⟨b, Mb, lb, e2⟩
  · rw [e1, e2]
  · rw [n9] at b; exact absurd a b
  · rw [n9] at b; exact absurd b a
  · have z := Decidable.not_not.mp a
    have et := cy_t h cy
    have e68 : Ma 68 x = M 62 x := (cy.1 x z.1 (by omega)).1
    rw [e1, e2, e68, (h1.dl z).1]
    exact q_hide (h.dr z) (fun v => hid_eq (h1.1.1.cy cy lb) (by rw [et]; exact z) v)
theorem g_lure {t d : Nat} {M M1 M2 : zM} {x o r1 r2 : Int} (h : REL t d M M) (hc : Cn t M M1 ∧ ((¬ two (M t 2) x o) ∧ r1 = -1 ∨ ¬ (¬ two (M t 2) x o) ∧ ∃ Ma, CyR M 67 61 Ma ∧ r1 = flF (luV Ma t x o) (Ma 68 x) 100 0 (-2) 7)) (hr : Rn M1 M2 ∧ ((¬ two (M1 209 12) x o) ∧ r2 = -1 ∨ ¬ (¬ two (M1 209 12) x o) ∧ ∃ Mb, LtR M1 Mb ∧ r2 = luR (fun v => hoR (dlR Mb x v) 1 x) o (M1 233 x) 200 0 (-2) 0)) : r2 = r1 ∧ REL t d M2 M2 := by
  obtain ⟨h1, h2⟩ := h.ask hc.1 hr.1
  refine ⟨?_, h2⟩
  have n9 := h1.n
  have n6 := h.1.1.n6
  rcases hc.2 with ⟨a, e1⟩ | ⟨a, Ma, cy, e1⟩ <;> rcases hr.2 with ⟨b, e2⟩ | ⟨b, Mb, lb, e2⟩
  · rw [e1, e2]
  · rw [n9] at b; exact absurd a b
  · rw [n9] at b; exact absurd b a
  · have z := Decidable.not_not.mp a
    unfold two at z
    have et := cy_t h cy
    have e68 : Ma 68 x = M 62 x := (cy.1 x (by omega) (by omega)).1
    have rh := h1.1.1.cy cy lb
    rw [e1, e2, e68, (h1.dl ⟨by omega, by omega⟩).1]
    refine q_lure (by omega) (h.dr ⟨by omega, by omega⟩) (fun v x9 y => ?_) (fun v => lu_g rh (by rw [et]; omega) v)
    have q := rh.1.1.1
    have e9 : (dlR Mb x v) 209 12 = Mb 209 12 := rfl
    exact zbits_in _ _ _ _ (by omega) (by rw [e9, q, et]; omega) (by omega)
theorem g_secret {t d : Nat} {M M1 M2 : zM} {x o w r1 r2 : Int} (h : REL t d M M) (hc : Cn t M M1 ∧ ((¬ (two (M t 2) x o ∧ 0 ≤ w ∧ w ≤ 2)) ∧ r1 = -1 ∨ ¬ (¬ (two (M t 2) x o ∧ 0 ≤ w ∧ w ≤ 2)) ∧ ∃ Ma, CyR M 67 61 Ma ∧ r1 = scV w (fpO Ma t x o (Ma 68 x) (Ma 68 o) 199 0))) (hr : Rn M1 M2 ∧ ((¬ (two (M1 209 12) x o ∧ 0 ≤ w ∧ w ≤ 2)) ∧ r2 = -1 ∨ ¬ (¬ (two (M1 209 12) x o ∧ 0 ≤ w ∧ w ≤ 2)) ∧ ∃ Mb, LtR M1 Mb ∧ r2 = svR w (soO (seF Mb x o) (M1 233 x) (M1 233 o) 100 0 (-1, 0)))) : r2 = r1 ∧ REL t d M2 M2 := by
  obtain ⟨h1, h2⟩ := h.ask hc.1 hr.1
  refine ⟨?_, h2⟩
  have n9 := h1.n
  have n6 := h.1.1.n6
  rcases hc.2 with ⟨a, e1⟩ | ⟨a, Ma, cy, e1⟩ <;> rcases hr.2 with ⟨b, e2⟩ | ⟨b, Mb, lb, e2⟩
  · rw [e1, e2]
  · rw [n9] at b; exact absurd a b
  · rw [n9] at b; exact absurd b a
  · have z := Decidable.not_not.mp a
    unfold two at z
    have et := cy_t h cy
    have e68 : ∀ v : Int, 0 ≤ v → v < 6 → Ma 68 v = M 62 v := fun v p q => (cy.1 v p q).1
    have rh := h1.1.1.cy cy lb
    rw [e1, e2, e68 x (by omega) (by omega), e68 o (by omega) (by omega), (h1.dl (x := x) ⟨by omega, by omega⟩).1, (h1.dl (x := o) ⟨by omega, by omega⟩).1]
    exact q_secret0 (h.dr ⟨by omega, by omega⟩) (h.dr ⟨by omega, by omega⟩) z.2 (fun p q p0 p1 q0 q1 => se_eq rh (by rw [et]; omega) (by rw [et]; omega) (by omega) ⟨p0, p1⟩ ⟨q0, q1⟩)
theorem g_spread {t d : Nat} {M M1 M2 : zM} {w r1 r2 : Int} (h : REL t d M M) (hc : Cn t M M1 ∧ (¬ (0 ≤ w ∧ w ≤ 4) ∧ r1 = -1 ∨ (0 ≤ w ∧ w ≤ 4) ∧ (w < 4 ∧ M t 2 ≤ w) ∧ r1 = -2 ∨ (0 ≤ w ∧ w ≤ 4) ∧ ¬ (w < 4 ∧ M t 2 ≤ w) ∧ ∃ Ma Mb, CyR M 67 61 Ma ∧ SpR t Ma Mb ∧ r1 = spV w (plF (Mb 57) (Mb 58) (n4 Ma t) (n4 Ma t).toNat 0 0 (2147483647, Mb 59, Mb 60)))) (hr : Rn M1 M2 ∧ (¬ (0 ≤ w ∧ w ≤ 4) ∧ r2 = -1 ∨ (0 ≤ w ∧ w ≤ 4) ∧ (w < 4 ∧ M1 209 12 ≤ w) ∧ r2 = -2 ∨ (0 ≤ w ∧ w ≤ 4) ∧ ¬ (w < 4 ∧ M1 209 12 ≤ w) ∧ ∃ Mb, LtR M1 Mb ∧ r2 = svP w (n4R M1) (spO Mb (n4R M1).toNat (p10 (n4R M1).toNat 1).toNat 0 (-1, 0)))) : r2 = r1 ∧ REL t d M2 M2 := by
  obtain ⟨h1, h2⟩ := h.ask hc.1 hr.1
  refine ⟨?_, h2⟩
  have n9 := h1.n
  rcases hc.2 with ⟨a, e1⟩ | ⟨a, a2, e1⟩ | ⟨a, a2, Ma, Mb, cy, sp, e1⟩ <;> rcases hr.2 with ⟨b, e2⟩ | ⟨b, b2, e2⟩ | ⟨b, b2, Mc, lb, e2⟩
  · rw [e1, e2]
  · exact absurd b a
  · exact absurd b a
  · exact absurd a b
  · rw [e1, e2]
  · rw [n9] at b2; exact absurd a2 b2
  · exact absurd a b
  · rw [n9] at b2; exact absurd b2 a2
  · rw [e1, e2]
    exact q_spread h1.1.1 cy sp lb a (fun q => by omega)
/-- what the contracts want -/
theorem REL.cv {t d L : Nat} {P : zP} {M R : zM} (h : REL t d M R) (hP : PFok P) (h22 : P 2 2 = some t) (h50 : P 50 0 = some t) : CV L P M t := by
  have td : t = 4 ∨ t = 23 := by have := h.td; omega
  refine ⟨⟨hP, h50, to_at L hP td, td, st_now L hP, Or.inl rfl⟩, ⟨h.1.1.2.2.2.1.1, h.2.2.2.2.2.1.2.1, h.1.1.2.2.2.1.2, ?_⟩, h22, h.1.1.2.2.2.2.2, h.h5⟩
  rw [h.1.1.2.2.2.2.2]; exact h.1.1.2.2.2.1.1.2.2.2.2.2.2.2.1
theorem REL.rv {t d : Nat} {P : zP} {M R : zM} (h : REL t d M R) (hP : PFok P) : RV P R := ⟨hP, h.2.2.2.2.1.1, by rw [h.1.1.2.1.2.2.2.2]; exact h.h5⟩
theorem REL.ui {t d : Nat} {M R : zM} (h : REL t d M R) : UI M := h.1.2.1.1.2
theorem REL.ur {t d : Nat} {M R : zM} (h : REL t d M R) : UR R := by unfold UR; rw [h.1.2.1.1.1]; exact h.ui.2
theorem REL.ni {t d : Nat} {M R : zM} (h : REL t d M R) : NI M := h.2.1.2
theorem REL.nri {t d : Nat} {M R : zM} (h : REL t d M R) : NRI R := h.2.1.1.nri h.2.1.2
end ZASK2
