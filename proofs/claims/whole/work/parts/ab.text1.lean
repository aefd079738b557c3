section ZTEXT
/-- the class has read -/
theorem tx_c {t d N : Nat} {nn : Int} {M Ma Mc Mf : zM} (h : REL t d M M) (hn : 0 ≤ nn ∧ nn ≤ M 2 1) (cl : clT d (sm M 2 1 0) Ma) (cu : CuR (M 3) nn N (sm (sm Ma 42 6 0) 42 7 (-1)) Mc) (ef : Mf = rdL d (nn + 1).toNat Mc) : (RdI d Mc ∧ ClX d Mc ∧ Mc 42 6 = 0) ∧ RdI d Mf ∧ (Mf 42 6 = 0 → Mf 42 7 = -1 ∧ SBU d Mf) ∧ (∀ k : Nat, k ≠ 2 → ¬ (42 ≤ k ∧ k ≤ 49 ∧ k ≠ 44) → ¬ (d ≤ k ∧ k ≤ d + 18) → Mf k = M k) ∧ (Mf 2 1 = 0 ∧ ∀ i : Int, i ≠ 1 → Mf 2 i = M 2 i) := by
  have t9 := h.t9
  have td : d = 4 ∨ d = 23 := by have := h.td; omega
  have e3 : sm M 2 1 0 3 = M 3 := sm_n (by decide)
  have tp := h.2.2.1.2
  have iD : ToI (sm M 2 1 0) d := h.2.2.2.2.2.1.2.2.2.eq (fun k x y => sm_n (by omega))
  obtain ⟨a1, a2, a3, a4⟩ := rd_ini td ⟨hn.1, by omega⟩ iD (by rw [sm_n (show (1 : Nat) ≠ 2 by decide)]; exact h.2.2.2.2.2.2.1.2.1) cl (by rw [e3]; exact cu)
  obtain ⟨b1, b2⟩ := rdL_I td (nn + 1).toNat Mc a1
  have q := Q7.rdl td (nn + 1).toNat Mc
  rw [← ef] at b1 b2 q
  obtain ⟨c1, c2, c3, c4, c5, c6⟩ := cl
  have cx : ClX d Mc := by
    unfold ClX
    rw [a4 d (by omega) (by omega) (by omega), a4 (d + 10) (by omega) (by omega) (by omega), a4 (d + 11) (by omega) (by omega) (by omega), a4 (d + 13) (by omega) (by omega) (by omega), a4 (d + 15) (by omega) (by omega) (by omega), a4 (d + 17) (by omega) (by omega) (by omega)]
    exact ⟨c2, c3, c4, c5⟩
  have sb : SBU d Mc := by
    have z : Mc d 10 = 0 := cx.1.2.2.2.2
    exact ⟨fun j x y => by rw [z] at y; omega, fun i j x y w => by rw [z] at w; omega⟩
  have fr : ∀ k : Nat, ¬ (42 ≤ k ∧ k ≤ 49 ∧ k ≠ 44) → ¬ (d ≤ k ∧ k ≤ d + 18) → Mf k = sm M 2 1 0 k := fun k x y => by rw [b2 k (by omega) (by omega) (by omega) y, a4 k (by omega) (by omega) (by omega), c6 k (by omega) (by omega) (by omega) (by omega) (by omega) (by omega)]
  refine ⟨⟨a1, cx, a2⟩, b1, fun z => ⟨?_, ?_⟩, fun k x y z => ?_, ?_, fun i x => ?_⟩
  · rw [(q z).2]; exact a3
  · rw [ef]; rw [ef] at z; exact SBU.rdl td _ Mc a1 sb z
  · rw [fr k y z, sm_n x]
  · rw [fr 2 (by omega) (by omega), sm_s]
  · rw [fr 2 (by omega) (by omega), sm_k, us_n x]
/-- the reference before it reads -/
def m0T (nn : Int) (M1 : zM) : zM := plM (sm (sm (sm (sm (sm (sm M1 209 2 0) 209 6 nn) 209 1 0) 209 4 0) 209 5 (-1)) 209 7 0)
theorem m0_n (nn : Int) (M1 : zM) {k : Nat} {i : Int} (h9 : k ≠ 209) (h2 : k ≠ 212) (h3 : k = 213 → i < 4) (h4 : k = 223 → i < 3) : m0T nn M1 k i = M1 k i := by
  unfold m0T plM plP
  rw [if_neg (by omega), if_neg (by omega), if_neg (by omega)]
  simp only [sm_n h9]
theorem m0_9 (nn : Int) (M1 : zM) {i : Int} (h : ¬ (i = 1 ∨ i = 2 ∨ (4 ≤ i ∧ i ≤ 7) ∨ (16 ≤ i ∧ i ≤ 19) ∨ i = 42)) : m0T nn M1 209 i = M1 209 i := by
  unfold m0T plM plP
  rw [if_neg (by omega), if_neg (by omega), if_neg (by omega)]
  simp only [sm_k]
  rw [us_n (by omega), us_n (by omega), us_n (by omega), us_n (by omega), us_n (by omega), us_n (by omega), us_n (by omega), us_n (by omega), us_n (by omega), us_n (by omega), us_n (by omega)]
theorem m0_1 (nn : Int) (M1 : zM) : m0T nn M1 209 1 = 0 := by
  unfold m0T plM plP
  rw [if_neg (by omega), if_neg (by omega), if_neg (by omega)]
  simp only [sm_k]
  rw [us_n (by omega), us_n (by omega), us_n (by omega), us_n (by omega), us_n (by omega), us_n (by omega), us_n (by omega), us_n (by omega), us_s]
theorem m0_13 (nn : Int) (M1 : zM) {i : Int} (h : 4 ≤ i ∧ i < 8) : m0T nn M1 213 i = plV (i - 4) := by
  unfold m0T plM plP
  rw [if_neg (by omega), if_pos (by omega)]
theorem m0_rg {nn : Int} {M1 : zM} (h : Rg M1) : Rg (m0T nn M1) := by
  obtain ⟨a, b, c, _⟩ := h
  have e : ∀ k : Nat, 215 ≤ k → k ≤ 222 → m0T nn M1 k = M1 k := fun k x y => funext fun i => m0_n nn M1 (by omega) (by omega) (by omega) (by omega)
  unfold Rg
  rw [e 215 (by omega) (by omega), e 216 (by omega) (by omega), e 217 (by omega) (by omega), e 218 (by omega) (by omega), e 219 (by omega) (by omega), e 220 (by omega) (by omega), e 221 (by omega) (by omega), e 222 (by omega) (by omega), m0_13 nn M1 (i := 4) (by omega), m0_13 nn M1 (i := 5) (by omega), m0_13 nn M1 (i := 6) (by omega), m0_13 nn M1 (i := 7) (by omega)]
  exact ⟨a, b, c, by decide, by decide, by decide, by decide⟩
/-- what a text leaves as it was -/
theorem tx_fr {nn : Int} {M1 M2 : zM} (f : FrT (m0T nn M1) M2) : Hf M1 M2 ∧ (∀ k : Nat, k < 209 ∨ k = 210 ∨ k = 211 ∨ 231 ≤ k → M2 k = M1 k) ∧ (∀ i : Int, ¬ (i = 1 ∨ i = 2 ∨ (4 ≤ i ∧ i ≤ 11) ∨ (16 ≤ i ∧ i ≤ 19) ∨ (39 ≤ i ∧ i ≤ 44)) → M2 209 i = M1 209 i) ∧ M2 209 1 = 0 ∧ (Rg M1 → Rg M2) := by
  refine ⟨fun k i x y z => ?_, fun k hk => funext fun i => ?_, fun i hi => ?_, ?_, fun g => f.2 (m0_rg g)⟩
  · rw [f.1 k i (fun _ _ => z) (by omega) (by omega) (by omega)]
    exact m0_n nn M1 (by omega) (by omega) (fun e => by subst e; exact z) (fun e => by subst e; exact z)
  · rw [f.1 k i (by omega) (by omega) (by omega) (by omega)]
    exact m0_n nn M1 (by omega) (by omega) (by omega) (by omega)
  · rw [f.1 209 i (by omega) (by omega) (by omega) (by omega)]
    exact m0_9 nn M1 (by omega)
  · rw [f.1 209 1 (by omega) (by omega) (by omega) (by omega)]
    exact m0_1 nn M1
/-- a text with a fault -/
theorem f_text1 {t d : Nat} {nn : Int} {M M1 M2 : zM} (h : REL t d M M) (cf : ∀ k : Nat, k ≠ 2 → ¬ (42 ≤ k ∧ k ≤ 49 ∧ k ≠ 44) → ¬ (d ≤ k ∧ k ≤ d + 18) → M1 k = M k) (c2 : M1 2 1 = 0 ∧ ∀ i : Int, i ≠ 1 → M1 2 i = M 2 i) (iD : RdI d M1) (ft : FT M1 M2) (f : FrT (m0T nn M1) M2) : REL t d M2 M2 := by
  have t9 := h.t9
  have td := h.td
  have c0 : ∀ k : Nat, k = 1 ∨ k = 3 ∨ k = 44 ∨ 50 ≤ k ∨ (t ≤ k ∧ k ≤ t + 18) → M1 k = M k := fun k hk => cf k (by omega) (by omega) (by omega)
  have up : Up M M1 := fun k hk => c0 k (by omega)
  have h1 := h.up up
  obtain ⟨hf, r0, r9, r91, rg⟩ := tx_fr f
  refine REL.lo ?_ (fun k hk => r0 k (by omega))
  obtain ⟨⟨a1, a2, a3⟩, ⟨b1, b2⟩, ⟨⟨c1, _⟩, c3⟩, ef, ⟨f1, f2⟩, ⟨g0, ⟨l1, l2, l3⟩, g2, g3⟩, ⟨i1, i2, i3⟩, _⟩ := h1
  have n6 := a1.n6
  have et := c0 t (by omega)
  obtain ⟨k, s, n9, ⟨ii1, ii2⟩, ht, h5⟩ := id a1
  obtain ⟨⟨x1, ⟨x2, x3, x4⟩, x5, x7⟩, x6⟩ := f1
  refine ⟨⟨⟨hf.tk k ii1 ⟨x2, x3, x4⟩ (fun q x y => c0 q (by omega)) (fun i x y => r9 i (by omega)), s.of (by rw [et]) (fun q x y => c0 q (by omega)) (by rw [c0 61 (by omega)]) (fun q x y => r0 q (by omega)) (by rw [r0 238 (by omega)]), by rw [r9 54 (by omega), c0 61 (by omega)]; exact n9, ⟨ii1.eq (fun q x y => c0 q (by omega)), ii2.at9 (fun i x y => c0 _ (by omega)) (by rw [c0 61 (by omega)]) (by rw [c0 61 (by omega)])⟩, ht, by rw [c0 50 (by omega), c0 (t + 10) (by omega)]; exact h5⟩, a2.of n6.2 (by rw [et]) (fun k hk => c0 k (by omega)) (by rw [c0 61 (by omega)]) (by rw [c0 61 (by omega)]) (r0 241 (by omega)) (r9 65 (by omega)), a3.of n6.2 (by rw [et]) (fun k hk => c0 k (by omega)) (c2.2 10 (by decide)) (r0 242 (by omega)) (fun i hi => r9 i (by omega))⟩, ⟨b1.of (fun k x y => c0 k (by omega)) (r0 239 (by omega)) (fun i hi => r9 i (by omega)), b2.of (fun k x y => c0 k (by omega))⟩, ⟨⟨by rw [r0 210 (by omega), c0 3 (by omega)]; exact c1, by rw [r91, c2.1]⟩, by rw [c2.1]; decide⟩, ft, ⟨⟨⟨hf.txi (fun i x y => r9 i (by omega)) x1, ⟨hf.lri (by decide) x2, hf.lri (by decide) x3, hf.lri (by decide) x4⟩, x5.of9 (fun k i hk => by rw [r0 k (by omega)]), by rw [r9 60 (by omega)]; exact x7⟩, by rw [r9 54 (by omega)]; exact x6⟩, rg f2⟩, ⟨by rw [c0 61 (by omega)]; exact g0, ⟨l1.c9 (c0 _ (by omega)) (c0 _ (by omega)), l2.c9 (c0 _ (by omega)) (c0 _ (by omega)), l3.c9 (c0 _ (by omega)) (c0 _ (by omega))⟩, g2.of (by rw [et]) (c0 _ (by omega)) (c0 _ (by omega)) (c0 _ (by omega)) (by rw [et]; exact Int.le_refl _), iD.2.1⟩, ⟨by rw [c0 44 (by omega)]; exact i1, by rw [c0 1 (by omega)]; exact i2, by rw [r0 211 (by omega)]; exact i3⟩, td⟩
end ZTEXT
