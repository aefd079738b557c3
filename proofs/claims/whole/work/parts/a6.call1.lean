section ZCALL
/-- a change of the state (and of what was remembered) keeps the rest -/
theorem REL.st {t d : Nat} {C C' R R' : zM} (h : REL t d C R) (a : RN t C' R' ∧ UN t C' R' ∧ IM t C' R') (s9 : SmI R' 0) (h5 : C' 61 5 ≤ 9000) (hc : ∀ k : Nat, k = 1 ∨ (3 ≤ k ∧ k ≤ 42) ∨ k = 44 ∨ (201 ≤ k ∧ k ≤ 206) → C' k = C k) (h21 : C' 2 1 = C 2 1) (hr : ∀ (k : Nat) (i : Int), (210 ≤ k ∧ k ≤ 228) ∨ k = 239 → R' k i = R k i) (h9 : ∀ i : Int, i = 1 ∨ i = 4 ∨ i = 5 ∨ (12 ≤ i ∧ i ≤ 14) ∨ i = 61 ∨ i = 62 → R' 209 i = R 209 i) (h60 : 0 ≤ R' 209 60 ∧ R' 209 60 ≤ 20) : REL t d C' R' := by
  have td := h.td
  obtain ⟨_, ⟨b1, b2⟩, ⟨⟨c1, c2⟩, c3⟩, e, ⟨f1, f2⟩, ⟨g0, ⟨l1, l2, l3⟩, g2, g3⟩, ⟨i1, i2, i3⟩, _⟩ := h
  have r : ∀ k : Nat, (210 ≤ k ∧ k ≤ 228) ∨ k = 239 → R' k = R k := fun k hk => funext fun i => hr k i hk
  obtain ⟨⟨x1, ⟨x2, x3, x4⟩, _, _⟩, _⟩ := f1
  have lr : ∀ w : Int, LrI R w → LrI R' w := fun w q => LrI_of (r _ (by decide)) (r _ (by decide)) (r _ (by decide)) (r _ (by decide)) (r _ (by decide)) (r _ (by decide)) q
  have n54 : 0 ≤ R' 209 54 ∧ R' 209 54 ≤ 2147483647 := by rw [a.1.2.2.1]; exact a.1.2.2.2.1.2.2.2.2.2.2.2
  have et := hc t (by omega)
  refine ⟨a, ⟨b1.of (fun k x y => hc k (by omega)) (r 239 (by omega)) (fun i hi => h9 i (by omega)), b2.of (fun k x y => hc k (by omega))⟩, ⟨⟨by rw [r 210 (by omega), hc 3 (by omega)]; exact c1, by rw [h9 1 (by omega), h21]; exact c2⟩, by rw [h21]; exact c3⟩, ⟨by rw [h9 4 (by omega), hc 42 (by omega)]; exact e.1, by rw [h9 5 (by omega), hc 42 (by omega)]; exact e.2⟩, ⟨⟨⟨?_, ⟨lr 0 x2, lr 1 x3, lr 2 x4⟩, s9, h60⟩, n54⟩, f2.c9 (fun k x y => r k (by omega))⟩, ⟨h5, ⟨l1.c9 (hc _ (by omega)) (hc _ (by omega)), l2.c9 (hc _ (by omega)) (hc _ (by omega)), l3.c9 (hc _ (by omega)) (hc _ (by omega))⟩, g2.of (by rw [et]) (hc _ (by omega)) (hc _ (by omega)) (hc _ (by omega)) (by rw [et]; exact Int.le_refl _), g3.eq (fun q x y => hc q (by omega))⟩, ⟨by rw [hc 44 (by omega)]; exact i1, by rw [hc 1 (by omega)]; exact i2, by rw [r 211 (by omega)]; exact i3⟩, td⟩
  unfold TxI at *
  rw [h9 12 (by omega), h9 13 (by omega), h9 14 (by omega), r 213 (by omega), r 215 (by omega), r 216 (by omega), r 217 (by omega), r 218 (by omega), r 219 (by omega), r 220 (by omega), r 221 (by omega), r 222 (by omega)]
  exact x1
theorem REL.n {t d : Nat} {C R : zM} (h : REL t d C R) : R 209 12 = C t 2 := h.1.1.1.1.1
theorem REL.s9 {t d : Nat} {C R : zM} (h : REL t d C R) : SmI R 0 := h.2.2.2.2.1.1.1.2.2.1
theorem REL.t9 {t d : Nat} {C R : zM} (h : REL t d C R) : 4 ≤ t ∧ t ≤ 23 ∧ 4 ≤ d ∧ d ≤ 23 := by have := h.td; omega
theorem REL.dl {t d : Nat} {C R : zM} (h : REL t d C R) {x : Int} (hx : 0 ≤ x ∧ x < C t 2) : R 233 x = C 62 x ∧ R 234 x = C 63 x := by
  have z := h.1.1.2.1.1 x hx.1 hx.2
  rw [show 6 * (0 : Int) + x = x by omega] at z
  exact z
theorem REL.gl {t d : Nat} {C R : zM} (h : REL t d C R) {x : Int} (hx : 0 ≤ x ∧ x < C t 2) : R 216 x = C (t + 3) x := (h.1.1.1.2.1 x hx.1 hx.2).2.2
theorem sm2_e (M : zM) : ∀ (k : Nat) (i : Int), ¬ (k = 209 ∧ (i = 2 ∨ (55 ≤ i ∧ i ≤ 60))) → sm M 209 2 0 k i = M k i := fun k i hk => by
  by_cases e : k = 209
  · subst e; rw [sm_k, us_n (by omega)]
  · rw [sm_n e]
theorem f_turn {t d : Nat} {M M1 M2 : zM} {x v r1 r2 : Int} (h : REL t d M M) (hc : ((¬ (0 ≤ x ∧ x < M t 2 ∧ 0 ≤ v ∧ v ≤ 99 ∧ M 62 x ≠ v)) ∧ r1 = 0 ∧ M1 = M) ∨ (¬ (¬ (0 ≤ x ∧ x < M t 2 ∧ 0 ≤ v ∧ v ≤ 99 ∧ M 62 x ≠ v)) ∧ r1 = 1 ∧ ∃ Ma, PsR M Ma ∧ M1 = sm Ma 62 x v)) (hr : ((¬ (0 ≤ x ∧ x < M1 209 12 ∧ 0 ≤ v ∧ v ≤ 99 ∧ M1 233 x ≠ v)) ∧ r2 = 0 ∧ M2 = sm M1 209 2 0) ∨ (¬ (¬ (0 ≤ x ∧ x < M1 209 12 ∧ 0 ≤ v ∧ v ≤ 99 ∧ M1 233 x ≠ v)) ∧ r2 = 1 ∧ ∃ Mb, RmR (sm M1 209 2 0) Mb ∧ M2 = sm Mb 233 x v)) : r2 = r1 ∧ REL t d M2 M2 := by
  have t9 := h.t9
  have uI := h.1.2.1.1.2
  have up : Up M M1 := by
    rcases hc with ⟨_, _, e⟩ | ⟨_, _, Ma, ps, e⟩
    · rw [e]; exact Up.rf M
    · rw [e]; exact Up.sm (fun k hk => ps.fr uI (by omega)) (by decide) _ _
  have h1 := h.up up
  have iff9 : (0 ≤ x ∧ x < M1 209 12 ∧ 0 ≤ v ∧ v ≤ 99 ∧ M1 233 x ≠ v) ↔ (0 ≤ x ∧ x < M t 2 ∧ 0 ≤ v ∧ v ≤ 99 ∧ M 62 x ≠ v) := by
    rw [h1.n]
    constructor
    · rintro ⟨a, b, c, e, f⟩; rw [(h1.dl ⟨a, b⟩).1] at f; exact ⟨a, b, c, e, f⟩
    · rintro ⟨a, b, c, e, f⟩; rw [← (h1.dl ⟨a, b⟩).1] at f; exact ⟨a, b, c, e, f⟩
  rw [iff9] at hr
  rcases hc with ⟨nc, e1, e⟩ | ⟨nc, e1, Ma, ps, e⟩
  · rcases hr with ⟨_, e2, e3⟩ | ⟨q, _⟩
    · rw [e1, e2, e3, e]; exact ⟨rfl, h.no⟩
    · exact absurd nc q
  · rcases hr with ⟨q, _⟩ | ⟨_, e2, Mb, rm, e3⟩
    · exact absurd q nc
    · obtain ⟨a, b, c, g, _⟩ := Decidable.not_not.mp nc
      obtain ⟨p1, p2, p3, p4, p5, p6⟩ := e_push h1.1.1 h1.1.2.1 h1.1.2.2 h1.s9 (sm2_e M1) ps rm
      have et : Ma t 2 = M t 2 := by rw [p5 t (by omega)]
      obtain ⟨w1, w2⟩ := e_turn p1 p2 p3 p4 (h := x) (d := v) ⟨a, by rw [et]; exact b⟩ ⟨c, g⟩
      rw [← e, ← e3] at w1
      rw [← e3] at w2
      have lo : Lo M1 M2 := by rw [e3]; exact Lo.sm (fun k hk => funext fun i => by rw [p6 k i (by omega) (by omega), sm_n (by omega)]) (by decide) _ _
      have r0 : ∀ (k : Nat) (i : Int), k ≠ 241 → k ≠ 233 → ¬ (k = 209 ∧ (i = 2 ∨ i = 65)) → M2 k i = M1 k i := fun k i y z u => by
        rw [e3, sm_n z, p6 k i y (by omega)]
        by_cases q : k = 209
        · subst q; rw [sm_k, us_n (by omega)]
        · rw [sm_n q]
      have c0 : ∀ k : Nat, k ≠ 62 → (k ≤ 78 ∨ 201 ≤ k) → M1 k = M k := fun k y z => by rw [e, sm_n y, p5 k z]
      refine ⟨by rw [e1, e2], (h1.st w1 w2 (by rw [c0 61 (by decide) (by omega)]; exact h.2.2.2.2.2.1.1) (fun k hk => c0 k (by omega) (by omega)) (by rw [c0 2 (by decide) (by omega)]) (fun k i hk => r0 k i (by omega) (by omega) (by omega)) (fun i hi => r0 209 i (by decide) (by decide) (by omega)) (by rw [r0 209 60 (by decide) (by decide) (by omega)]; exact h1.h60)).lo lo⟩
theorem f_valve {t d : Nat} {M M1 M2 : zM} {x r1 r2 : Int} (h : REL t d M M) (hc : ((¬ (0 ≤ x ∧ x < M t 2)) ∧ r1 = -1 ∧ M1 = M) ∨ (¬ (¬ (0 ≤ x ∧ x < M t 2)) ∧ M 63 x = M (t + 3) x ∧ r1 = -2 ∧ M1 = M) ∨ (¬ (¬ (0 ≤ x ∧ x < M t 2)) ∧ M 63 x ≠ M (t + 3) x ∧ r1 = M (t + 3) x ∧ ∃ Ma, PsR M Ma ∧ M1 = sm Ma 63 x (M (t + 3) x))) (hr : ((¬ (0 ≤ x ∧ x < M1 209 12)) ∧ r2 = -1 ∧ M2 = sm M1 209 2 0) ∨ (¬ (¬ (0 ≤ x ∧ x < M1 209 12)) ∧ M1 234 x = M1 216 x ∧ r2 = -2 ∧ M2 = sm M1 209 2 0) ∨ (¬ (¬ (0 ≤ x ∧ x < M1 209 12)) ∧ M1 234 x ≠ M1 216 x ∧ r2 = M1 216 x ∧ ∃ Mb, RmR (sm M1 209 2 0) Mb ∧ M2 = sm Mb 234 x (M1 216 x))) : r2 = r1 ∧ REL t d M2 M2 := by
  have t9 := h.t9
  have uI := h.1.2.1.1.2
  have up : Up M M1 := by
    rcases hc with ⟨_, _, e⟩ | ⟨_, _, _, e⟩ | ⟨_, _, _, Ma, ps, e⟩
    · rw [e]; exact Up.rf M
    · rw [e]; exact Up.rf M
    · rw [e]; exact Up.sm (fun k hk => ps.fr uI (by omega)) (by decide) _ _
  have h1 := h.up up
  rw [h1.n] at hr
  rcases hc with ⟨nc, e1, e⟩ | ⟨nc, ec, e1, e⟩ | ⟨nc, ec, e1, Ma, ps, e⟩
  · rcases hr with ⟨_, e2, e3⟩ | ⟨q, _⟩ | ⟨q, _⟩
    · rw [e1, e2, e3, e]; exact ⟨rfl, h.no⟩
    · exact absurd nc q
    · exact absurd nc q
  · have hx := Decidable.not_not.mp nc
    rw [(h1.dl hx).2, h1.gl hx] at hr
    rcases hr with ⟨q, _⟩ | ⟨_, _, e2, e3⟩ | ⟨_, q, _⟩
    · exact absurd q nc
    · rw [e1, e2, e3, e]; exact ⟨rfl, h.no⟩
    · exact absurd ec q
  · have hx := Decidable.not_not.mp nc
    rw [(h1.dl hx).2, h1.gl hx] at hr
    rcases hr with ⟨q, _⟩ | ⟨_, q, _⟩ | ⟨_, _, e2, Mb, rm, e3⟩
    · exact absurd q nc
    · exact absurd q ec
    · obtain ⟨p1, p2, p3, p4, p5, p6⟩ := e_push h1.1.1 h1.1.2.1 h1.1.2.2 h1.s9 (sm2_e M1) ps rm
      have et : Ma t 2 = M t 2 := by rw [p5 t (by omega)]
      have n6 := h.1.1.n6
      have gr := h.1.1.2.2.2.1.1.2.2.2.2.1 x hx.1 (by omega)
      obtain ⟨w1, w2⟩ := e_valve p1 p2 p3 p4 (h := x) (d := M (t + 3) x) ⟨hx.1, by rw [et]; exact hx.2⟩ gr
      rw [← e, ← e3] at w1
      rw [← e3] at w2
      have lo : Lo M1 M2 := by rw [e3]; exact Lo.sm (fun k hk => funext fun i => by rw [p6 k i (by omega) (by omega), sm_n (by omega)]) (by decide) _ _
      have r0 : ∀ (k : Nat) (i : Int), k ≠ 241 → k ≠ 234 → ¬ (k = 209 ∧ (i = 2 ∨ i = 65)) → M2 k i = M1 k i := fun k i y z u => by
        rw [e3, sm_n z, p6 k i y (by omega)]
        by_cases q : k = 209
        · subst q; rw [sm_k, us_n (by omega)]
        · rw [sm_n q]
      have c0 : ∀ k : Nat, k ≠ 63 → (k ≤ 78 ∨ 201 ≤ k) → M1 k = M k := fun k y z => by rw [e, sm_n y, p5 k z]
      refine ⟨by rw [e1, e2], (h1.st w1 w2 (by rw [c0 61 (by decide) (by omega)]; exact h.2.2.2.2.2.1.1) (fun k hk => c0 k (by omega) (by omega)) (by rw [c0 2 (by decide) (by omega)]) (fun k i hk => r0 k i (by omega) (by omega) (by omega)) (fun i hi => r0 209 i (by decide) (by decide) (by omega)) (by rw [r0 209 60 (by decide) (by decide) (by omega)]; exact h1.h60)).lo lo⟩
end ZCALL
