section ZCALL3
theorem f_undo {t d : Nat} {M M1 M2 : zM} {r1 r2 : Int} (h : REL t d M M) (hc : (M 79 2 = 0 ∧ r1 = -1 ∧ M1 = M) ∨ (M 79 2 ≠ 0 ∧ r1 = M 79 2 - 1 ∧ CyR (sm (sm M 79 1 ((M 79 1 + 20 - 1).tmod 20)) 79 2 (M 79 2 - 1)) 61 (81 + 6 * ((M 79 1 + 20 - 1).tmod 20).toNat) M1)) (hr : (M1 209 65 = 0 ∧ r2 = -1 ∧ M2 = sm M1 209 2 0) ∨ (M1 209 65 ≠ 0 ∧ r2 = M1 209 65 - 1 ∧ TakR 241 (90 * (M1 209 65 - 1)) (sm (sm M1 209 2 0) 209 65 (M1 209 65 - 1)) M2)) : r2 = r1 ∧ REL t d M2 M2 := by
  have t9 := h.t9
  have up : Up M M1 := by
    rcases hc with ⟨_, _, e⟩ | ⟨_, _, cy⟩
    · rw [e]; exact Up.rf M
    · exact fun k hk => by rw [cy.2.2.2.2 k (by omega), sm_n (by omega), sm_n (by omega)]
  have h1 := h.up up
  have e65 : M1 209 65 = M 79 2 := h1.1.2.1.1.1
  rcases hc with ⟨nc, e1, e⟩ | ⟨nc, e1, cy⟩
  · rcases hr with ⟨_, e2, e3⟩ | ⟨q, _⟩
    · rw [e1, e2, e3, e]; exact ⟨rfl, h.no⟩
    · rw [e65] at q; exact absurd nc q
  · rcases hr with ⟨q, _⟩ | ⟨_, e2, tk⟩
    · rw [e65] at q; exact absurd q nc
    · obtain ⟨w1, w2⟩ := e_undo h1.1.1 h1.1.2.1 h1.1.2.2 nc cy tk
      have r0 : ∀ (k : Nat) (i : Int), ¬ (233 ≤ k ∧ k ≤ 237) → ¬ (k = 209 ∧ (i = 2 ∨ i = 65)) → M2 k i = M1 k i := fun k i y z => by
        rw [tk.2.2 k i (by omega) (by omega)]
        by_cases q : k = 209
        · subst q; rw [sm_k, us_n (by omega), sm_k, us_n (by omega)]
        · rw [sm_n q, sm_n q]
      have c0 : ∀ k : Nat, ¬ (61 ≤ k ∧ k ≤ 66) → k ≠ 79 → M1 k = M k := fun k y z => by rw [cy.2.2.2.2 k (by omega), sm_n z, sm_n z]
      have c5 : M1 61 5 = M 61 5 := by rw [← w1.1.2.1.2.2.2.2, r0 238 0 (by omega) (by omega)]; exact h1.1.1.2.1.2.2.2.2
      have lo : Lo M1 M2 := fun k hk => funext fun i => r0 k i (by omega) (by omega)
      refine ⟨by rw [e1, e2, e65], (h1.st w1 w2 (by rw [c5]; exact h.2.2.2.2.2.1.1) (fun k hk => c0 k (by omega) (by omega)) (by rw [c0 2 (by omega) (by omega)]) (fun k i hk => r0 k i (by omega) (by omega)) (fun i hi => r0 209 i (by omega) (by omega)) (by rw [r0 209 60 (by omega) (by omega)]; exact h1.h60)).lo lo⟩
theorem f_keep {t d : Nat} {M M1 M2 : zM} {r1 r2 : Int} (h : REL t d M M) (hc : r1 = M 61 5 ∧ ∃ Ma, CyR M 73 61 Ma ∧ M1 = sm Ma 2 10 1) (hr : r2 = M1 238 0 ∧ ∃ Mb, PutR 242 0 (sm (sm M1 209 2 0) 209 67 1) Mb ∧ M2 = sm (sm Mb 209 69 (M1 238 0)) 209 70 (M1 209 54)) : r2 = r1 ∧ REL t d M2 M2 := by
  have t9 := h.t9
  obtain ⟨e1, Ma, cy, e⟩ := hc
  obtain ⟨e2, Mb, pt, e3⟩ := hr
  have up : Up M M1 := by rw [e]; exact (cy.up (by decide)).sm (by decide) _ _
  have h1 := h.up up
  have e8 : M1 238 0 = M 61 5 := h1.1.1.2.1.2.2.2.2
  have w1 := e_keep h1.1.1 (by omega) h1.1.2.1 h1.s9 h.2.2.2.2.2.1.1 cy pt e3
  rw [← e] at w1
  have r0 : ∀ (k : Nat) (i : Int), k ≠ 242 → ¬ (k = 209 ∧ (i = 2 ∨ i = 67 ∨ i = 69 ∨ i = 70)) → M2 k i = M1 k i := fun k i y z => by
    rw [e3]
    by_cases q : k = 209
    · subst q; rw [sm_k, us_n (by omega), sm_k, us_n (by omega), pt.2.2 209 i (by omega), sm_k, us_n (by omega), sm_k, us_n (by omega)]
    · rw [sm_n q, sm_n q, pt.2.2 k i (by omega), sm_n q, sm_n q]
  have c0 : ∀ k : Nat, k ≠ 2 → ¬ (73 ≤ k ∧ k ≤ 78) → M1 k = M k := fun k y z => by rw [e, sm_n y, cy.2.2.2.2 k (by omega)]
  have c21 : M1 2 1 = M 2 1 := by rw [e, sm_k, us_n (by decide), cy.2.2.2.2 2 (by omega)]
  have lo : Lo M1 M2 := fun k hk => funext fun i => r0 k i (by omega) (by omega)
  exact ⟨by rw [e1, e2, e8], (h1.st w1 (h1.s9.of9 (fun k i hk => r0 k i (by omega) (by omega))) (by rw [c0 61 (by decide) (by omega)]; exact h.2.2.2.2.2.1.1) (fun k hk => c0 k (by omega) (by omega)) c21 (fun k i hk => r0 k i (by omega) (by omega)) (fun i hi => r0 209 i (by omega) (by omega)) (by rw [r0 209 60 (by omega) (by omega)]; exact h1.h60)).lo lo⟩
theorem f_back {t d : Nat} {M M1 M2 : zM} {r1 r2 : Int} (h : REL t d M M) (hc : (M 2 10 = 0 ∧ r1 = -1 ∧ M1 = M) ∨ (M 2 10 ≠ 0 ∧ r1 = M 73 5 ∧ ∃ Ma, CyR M 61 73 Ma ∧ M1 = sm Ma 79 2 0)) (hr : (M1 209 67 = 0 ∧ r2 = -1 ∧ M2 = sm M1 209 2 0) ∨ (M1 209 67 ≠ 0 ∧ r2 = M1 209 69 ∧ ∃ Mb, TakR 242 0 (sm M1 209 2 0) Mb ∧ M2 = sm (sm (sm Mb 238 0 (M1 209 69)) 209 54 (M1 209 70)) 209 65 0)) : r2 = r1 ∧ REL t d M2 M2 := by
  have t9 := h.t9
  have up : Up M M1 := by
    rcases hc with ⟨_, _, e⟩ | ⟨_, _, Ma, cy, e⟩
    · rw [e]; exact Up.rf M
    · rw [e]; exact (cy.up (by decide)).sm (by decide) _ _
  have h1 := h.up up
  have e67 : M1 209 67 ≠ 0 ↔ M 2 10 ≠ 0 := h1.1.2.2.1
  rcases hc with ⟨nc, e1, e⟩ | ⟨nc, e1, Ma, cy, e⟩
  · rcases hr with ⟨_, e2, e3⟩ | ⟨q, _⟩
    · rw [e1, e2, e3, e]; exact ⟨rfl, h.no⟩
    · exact absurd nc (e67.mp q)
  · rcases hr with ⟨q, _⟩ | ⟨_, e2, Mb, tk, e3⟩
    · exact absurd q (e67.mpr nc)
    · obtain ⟨w1, w2⟩ := e_back h1.1.1 h1.1.2.1 h1.1.2.2 nc cy tk e3
      rw [← e] at w1
      obtain ⟨⟨z1, _, _, z4⟩, _⟩ := h1.1.2.2.2 nc
      have e69 : M1 209 69 = M 73 5 := z1.2.2.2.2
      have r0 : ∀ (k : Nat) (i : Int), ¬ (233 ≤ k ∧ k ≤ 238) → ¬ (k = 209 ∧ (i = 2 ∨ i = 54 ∨ i = 65)) → M2 k i = M1 k i := fun k i y z => by
        rw [e3]
        by_cases q : k = 209
        · subst q; rw [sm_k, us_n (by omega), sm_k, us_n (by omega), sm_n (by decide), tk.2.2 209 i (by omega) (by omega), sm_k, us_n (by omega)]
        · rw [sm_n q, sm_n q, sm_n (by omega), tk.2.2 k i (by omega) (by omega), sm_n q]
      have c0 : ∀ k : Nat, ¬ (61 ≤ k ∧ k ≤ 66) → k ≠ 79 → M1 k = M k := fun k y z => by rw [e, sm_n z, cy.2.2.2.2 k (by omega)]
      have c5 : M1 61 5 = M 73 5 := by rw [e, sm_n (by decide)]; exact cy.2.2.1
      have lo : Lo M1 M2 := fun k hk => funext fun i => r0 k i (by omega) (by omega)
      refine ⟨by rw [e1, e2, e69], (h1.st w1 w2 (by rw [c5]; exact z4) (fun k hk => c0 k (by omega) (by omega)) (by rw [c0 2 (by omega) (by omega)]) (fun k i hk => r0 k i (by omega) (by omega)) (fun i hi => r0 209 i (by omega) (by omega)) (by rw [r0 209 60 (by omega) (by omega)]; exact h1.h60)).lo lo⟩
end ZCALL3
