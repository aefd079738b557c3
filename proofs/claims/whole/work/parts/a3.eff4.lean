section ZEFF4
/-- a note more, in both -/
theorem e_note {C R : zM} {w x y z b y2 b2 : Int} (h : NT C R) (n : NI C) (hl : C 201 6 < 24) (hw : 0 ≤ w ∧ w ≤ 2) (hx : 0 ≤ x ∧ x ≤ 99) (h0 : w = 0 → y2 = y) (h1 : w = 1 → (y2 = 6 * y + z ∧ 1 ≤ x ∧ x ≤ 60) ∧ (0 ≤ y ∧ y < 6) ∧ (0 ≤ z ∧ z < 6)) (h2 : w = 2 → x < C 201 6) (hb : w ≠ 2 → b2 = b) (hb1 : b = 0 ∨ b = 1) : NT (naM C w x y z b) (lyM R w x y2 b2) ∧ NI (naM C w x y z b) := by
  have c : naM C w x y z b 201 6 = C 201 6 + 1 ∧ naM C w x y z b 201 7 = C 201 7 := by unfold naM; exact ⟨by rw [sm_s], by rw [sm_k, us_n (by decide), sm_n (by decide), sm_n (by decide), sm_n (by decide), sm_n (by decide), sm_n (by decide)]⟩
  have c2 : naM C w x y z b 202 = us (C 202) (C 201 6) w := by unfold naM; simp (disch := decide) only [sm_n, sm_k]
  have c3 : naM C w x y z b 203 = us (C 203) (C 201 6) x := by unfold naM; simp (disch := decide) only [sm_n, sm_k]
  have c4 : naM C w x y z b 204 = us (C 204) (C 201 6) y := by unfold naM; simp (disch := decide) only [sm_n, sm_k]
  have c5 : naM C w x y z b 205 = us (C 205) (C 201 6) z := by unfold naM; simp (disch := decide) only [sm_n, sm_k]
  have c6 : naM C w x y z b 206 = us (C 206) (C 201 6) b := by unfold naM; simp (disch := decide) only [sm_n, sm_k]
  have e61 := h.1.1
  have r : lyM R w x y2 b2 209 61 = R 209 61 + 1 ∧ lyM R w x y2 b2 209 62 = R 209 62 := by unfold lyM; exact ⟨by rw [sm_s], by rw [sm_k, us_n (by decide), sm_n (by decide), sm_n (by decide), sm_n (by decide), sm_n (by decide)]⟩
  have r9 : lyM R w x y2 b2 239 = us (us (us (us (R 239) (4 * R 209 61) w) (4 * R 209 61 + 1) x) (4 * R 209 61 + 2) y2) (4 * R 209 61 + 3) b2 := by unfold lyM; simp (disch := decide) only [sm_n, sm_k]
  obtain ⟨n1, n2, n3⟩ := n
  refine ⟨⟨⟨by rw [r.1, c.1, e61], by rw [r.2, c.2]; exact h.1.2⟩, fun i i0 i1 => ?_⟩, ⟨by rw [c.1]; omega, by rw [c.1, c.2]; omega, fun i i0 i1 => ?_⟩⟩
  · rw [c.1] at i1
    rw [c2, c3, c4, c5, c6, r9, e61]
    by_cases e : i = C 201 6
    · subst e
      rw [us_s, us_s, us_s, us_s, us_s]
      have v0 : us (us (us (us (R 239) (4 * C 201 6) w) (4 * C 201 6 + 1) x) (4 * C 201 6 + 2) y2) (4 * C 201 6 + 3) b2 (4 * C 201 6) = w := by rw [us_n (by omega), us_n (by omega), us_n (by omega), us_s]
      have v1 : us (us (us (us (R 239) (4 * C 201 6) w) (4 * C 201 6 + 1) x) (4 * C 201 6 + 2) y2) (4 * C 201 6 + 3) b2 (4 * C 201 6 + 1) = x := by rw [us_n (by omega), us_n (by omega), us_s]
      have v2 : us (us (us (us (R 239) (4 * C 201 6) w) (4 * C 201 6 + 1) x) (4 * C 201 6 + 2) y2) (4 * C 201 6 + 3) b2 (4 * C 201 6 + 2) = y2 := by rw [us_n (by omega), us_s]
      rw [v0, v1, v2, us_s]
      exact ⟨rfl, rfl, h0, fun q => (h1 q).1, hb, hb1⟩
    · rw [us_n e, us_n e, us_n e, us_n e, us_n e]
      have v : ∀ k : Int, 0 ≤ k → k ≤ 3 → us (us (us (us (R 239) (4 * C 201 6) w) (4 * C 201 6 + 1) x) (4 * C 201 6 + 2) y2) (4 * C 201 6 + 3) b2 (4 * i + k) = R 239 (4 * i + k) := fun k k0 k1 => by rw [us_n (by omega), us_n (by omega), us_n (by omega), us_n (by omega)]
      have v0 := v 0 (by omega) (by omega)
      rw [Int.add_zero] at v0
      rw [v0, v 1 (by omega) (by omega), v 2 (by omega) (by omega), v 3 (by omega) (by omega)]
      exact h.2 i i0 (by omega)
  · rw [c.1] at i1
    rw [c2, c3, c4, c5]
    by_cases e : i = C 201 6
    · subst e
      rw [us_s, us_s, us_s, us_s]
      exact ⟨hw, hx, h2, fun q => (h1 q).2⟩
    · rw [us_n e, us_n e, us_n e, us_n e]
      exact n3 i i0 (by omega)
theorem e_known {C R : zM} {x : Int} (h : NT C R) (n : NI C) (hx : -1 ≤ x ∧ x ≤ C 201 6) : NT (sm C 201 7 x) (sm (sm R 209 2 0) 209 62 x) ∧ NI (sm C 201 7 x) := by
  have c : ∀ k : Nat, k ≠ 201 → sm C 201 7 x k = C k := fun k hk => sm_n hk
  have c6 : sm C 201 7 x 201 6 = C 201 6 := by rw [sm_k, us_n (by decide)]
  have r : sm (sm R 209 2 0) 209 62 x 239 = R 239 := by rw [sm_n (by decide), sm_n (by decide)]
  obtain ⟨n1, n2, n3⟩ := n
  refine ⟨⟨⟨by rw [sm_k, us_n (by decide), sm_k, us_n (by decide), c6]; exact h.1.1, by rw [sm_s, sm_s]⟩, fun i i0 i1 => ?_⟩, ⟨by rw [c6]; exact n1, by rw [c6, sm_s]; exact hx, fun i i0 i1 => ?_⟩⟩
  · rw [c6] at i1
    rw [c 202 (by decide), c 203 (by decide), c 204 (by decide), c 205 (by decide), c 206 (by decide), r]
    exact h.2 i i0 i1
  · rw [c6] at i1
    rw [c 202 (by decide), c 203 (by decide), c 204 (by decide), c 205 (by decide)]
    exact n3 i i0 i1
theorem NT.of {C C' R R' : zM} (h : NT C R) (hc : ∀ k : Nat, 201 ≤ k → k ≤ 206 → C' k = C k) (hr : R' 239 = R 239) (h9 : ∀ i : Int, i = 61 ∨ i = 62 → R' 209 i = R 209 i) : NT C' R' := by
  unfold NT at *
  rw [hc 201 (by omega) (by omega), hc 202 (by omega) (by omega), hc 203 (by omega) (by omega), hc 204 (by omega) (by omega), hc 205 (by omega) (by omega), hc 206 (by omega) (by omega), hr, h9 61 (by omega), h9 62 (by omega)]
  exact h
theorem NI.of {C C' : zM} (h : NI C) (hc : ∀ k : Nat, 201 ≤ k → k ≤ 206 → C' k = C k) : NI C' := by
  unfold NI at *
  rw [hc 201 (by omega) (by omega), hc 202 (by omega) (by omega), hc 203 (by omega) (by omega), hc 204 (by omega) (by omega), hc 205 (by omega) (by omega)]
  exact h
theorem NT.nri {C R : zM} (h : NT C R) (n : NI C) : NRI R := by
  obtain ⟨n1, n2, n3⟩ := n
  unfold NRI
  rw [h.1.1, h.1.2]
  refine ⟨n1, n2, fun i i0 i1 => ?_⟩
  have z := h.2 i i0 i1
  have w := n3 i i0 i1
  rw [z.1, z.2.1]
  refine ⟨w.1, w.2.1, w.2.2.1, fun q => ?_⟩
  have a := (z.2.2.2.1 q).1
  have b := w.2.2.2 q
  omega
/-- how many -/
theorem q_count {t : Nat} {C R : zM} (h : RN t C R) (hn : NT C R) (n : NI C) (hu : R 209 65 = C 79 2) (w : Int) : ctR R w = ctC C t w := by
  have c := cn_eq hn n
  unfold ctR ctC
  rw [h.1.1.1, h.1.1.2.1, h.1.1.2.2.1, h.1.1.2.2.2, h.2.1.2.2.2.2, pairs_eq h.1 h.2.1 h.2.2.2.1, heard_eq h.2.1, hn.1.1, c.1, hu]
  have g := gains_eq h
  rw [h.1.1.1] at g
  rw [g]
end ZEFF4
