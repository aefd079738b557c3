section ZEFF
/-- a frame of the reference's store, as a state -/
def frM (q : Nat) (i0 h : Int) (R : zM) : zM := fun k i => if k = 233 then R q (i0 + i) else if k = 234 then R q (i0 + 6 + i) else if k = 235 then R q (i0 + 12 + i) else if k = 236 then R q (i0 + 18 + i) else if k = 237 then R q (i0 + 54 + i) else if k = 238 then h else R k i
theorem fr_3 (q : Nat) (i0 h : Int) (R : zM) (i : Int) : frM q i0 h R 233 i = R q (i0 + i) ∧ frM q i0 h R 234 i = R q (i0 + 6 + i) ∧ frM q i0 h R 235 i = R q (i0 + 12 + i) ∧ frM q i0 h R 236 i = R q (i0 + 18 + i) ∧ frM q i0 h R 237 i = R q (i0 + 54 + i) ∧ frM q i0 h R 238 i = h := ⟨rfl, rfl, rfl, rfl, rfl, rfl⟩
def FrG (q : Nat) (i0 : Int) (R : zM) : Prop := (∀ j : Int, 0 ≤ j → j < 6 → (0 ≤ R q (i0 + j) ∧ R q (i0 + j) ≤ 99) ∧ (0 ≤ R q (i0 + 6 + j) ∧ R q (i0 + 6 + j) ≤ 9)) ∧ ∀ j : Int, 0 ≤ j → j < 36 → 0 ≤ R q (i0 + 18 + j) ∧ R q (i0 + 18 + j) ≤ 999
/-- the class's slot for the q-th that may be undone -/
def sl (C : zM) (q : Int) : Nat := 81 + 6 * ((C 79 1 + 20 - (C 79 2 - q)) % 20).toNat
def UN (t : Nat) (C R : zM) : Prop := (R 209 65 = C 79 2 ∧ UI C) ∧ ∀ q : Int, 0 ≤ q → q < C 79 2 → (SRl t (sl C q) 0 C (frM 241 (90 * q) (C 61 5) R) ∧ StI C (sl C q) ∧ C (sl C q) 6 = C 61 6) ∧ FrG 241 (90 * q) R
def IM (t : Nat) (C R : zM) : Prop := (R 209 67 ≠ 0 ↔ C 2 10 ≠ 0) ∧ (C 2 10 ≠ 0 → (SRl t 73 0 C (frM 242 0 (R 209 69) R) ∧ StI C 73 ∧ R 209 70 = C 73 6 ∧ C 73 5 ≤ 9000) ∧ FrG 242 0 R)
theorem SRl.fr {t a a' : Nat} {C C' R R' : zM} {q q' : Nat} {i0 i0' h h' : Int} (s : SRl t a 0 C (frM q i0 h R)) (hn : C t 2 ≤ 6) (ht : C' t 2 = C t 2) (hc : ∀ i : Nat, 1 ≤ i → i ≤ 5 → C' (a' + i) = C (a + i)) (h5 : C' a' 5 = C a 5) (hr : ∀ j : Int, 0 ≤ j → j < 90 → R' q' (i0' + j) = R q (i0 + j)) (hh : h' = h) : SRl t a' 0 C' (frM q' i0' h' R') := by
  refine s.mk hn ht (fun j x y => ⟨by rw [hc 1 (by omega) (by omega)], by rw [hc 2 (by omega) (by omega)], by rw [hc 3 (by omega) (by omega)], by rw [hc 4 (by omega) (by omega)]⟩) (fun j x y => by rw [hc 5 (by omega) (by omega)]) h5 (fun j x y => ?_) (fun j x y => ?_) hh
  · show R' q' (i0' + (6 * 0 + j)) = R q (i0 + (6 * 0 + j)) ∧ R' q' (i0' + 6 + (6 * 0 + j)) = R q (i0 + 6 + (6 * 0 + j)) ∧ R' q' (i0' + 12 + (6 * 0 + j)) = R q (i0 + 12 + (6 * 0 + j))
    rw [Int.add_assoc i0', Int.add_assoc i0', Int.add_assoc i0, Int.add_assoc i0]
    exact ⟨hr _ (by omega) (by omega), hr _ (by omega) (by omega), hr _ (by omega) (by omega)⟩
  · show R' q' (i0' + 18 + (36 * 0 + j)) = R q (i0 + 18 + (36 * 0 + j)) ∧ R' q' (i0' + 54 + (36 * 0 + j)) = R q (i0 + 54 + (36 * 0 + j))
    rw [Int.add_assoc i0', Int.add_assoc i0', Int.add_assoc i0, Int.add_assoc i0]
    exact ⟨hr _ (by omega) (by omega), hr _ (by omega) (by omega)⟩
theorem FrG.fr {q q' : Nat} {i0 i0' : Int} {R R' : zM} (h : FrG q i0 R) (hr : ∀ j : Int, 0 ≤ j → j < 90 → R' q' (i0' + j) = R q (i0 + j)) : FrG q' i0' R' := by
  refine ⟨fun j a b => ?_, fun j a b => ?_⟩
  · rw [Int.add_assoc i0', hr j a (by omega), hr (6 + j) (by omega) (by omega), ← Int.add_assoc i0]; exact h.1 j a b
  · rw [Int.add_assoc i0', hr (18 + j) (by omega) (by omega), ← Int.add_assoc i0]; exact h.2 j a b
theorem StI.at9 {C C' : zM} {a a' : Nat} (h : StI C a) (hc : ∀ i : Nat, 1 ≤ i → i ≤ 5 → C' (a' + i) = C (a + i)) (h5 : C' a' 5 = C a 5) (h6 : C' a' 6 = C a 6) : StI C' a' := by
  unfold StI at *
  rw [hc 1 (by omega) (by omega), hc 2 (by omega) (by omega), hc 3 (by omega) (by omega), hc 4 (by omega) (by omega), hc 5 (by omega) (by omega), h5, h6]
  exact h
theorem RN.of {t : Nat} {C C' R R' : zM} (h : RN t C R) (hc : ∀ k : Nat, (t ≤ k ∧ k ≤ t + 18) ∨ (61 ≤ k ∧ k ≤ 66) → C' k = C k) (h50 : C' 50 1 = C 50 1) (hr : ∀ k : Nat, (213 ≤ k ∧ k ≤ 228) ∨ (233 ≤ k ∧ k ≤ 238) → R' k = R k) (h9 : ∀ i : Int, (12 ≤ i ∧ i ≤ 15) ∨ i = 54 → R' 209 i = R 209 i) : RN t C' R' := by
  obtain ⟨k, s, n, ⟨i1, i2⟩, ht, h5⟩ := h
  refine ⟨k.of (fun q x y => hc q (by omega)) (fun q x y => hr q (by omega)) (fun i x y => h9 i (by omega)), s.of (by rw [hc t (by omega)]) (fun q x y => hc q (by omega)) (by rw [hc 61 (by omega)]) (fun q x y => hr q (by omega)) (by rw [hr 238 (by omega)]), by rw [h9 54 (by omega), hc 61 (by omega)]; exact n, ⟨i1.eq (fun q x y => hc q (by omega)), i2.at9 (fun i x y => hc _ (by omega)) (by rw [hc 61 (by omega)]) (by rw [hc 61 (by omega)])⟩, ht, by rw [h50, hc (t + 10) (by omega)]; exact h5⟩
theorem UN.of {t : Nat} {C C' R R' : zM} (h : UN t C R) (n : C t 2 ≤ 6) (ht : C' t 2 = C t 2) (hc : ∀ k : Nat, (79 ≤ k ∧ k ≤ 200) → C' k = C k) (h5 : C' 61 5 = C 61 5) (h6 : C' 61 6 = C 61 6) (h1 : R' 241 = R 241) (h65 : R' 209 65 = R 209 65) : UN t C' R' := by
  obtain ⟨⟨a1, a2⟩, b⟩ := h
  have e9 := hc 79 (by omega)
  have es : ∀ q, sl C' q = sl C q := fun q => by unfold sl; rw [e9]
  refine ⟨⟨by rw [h65, e9]; exact a1, by unfold UI at *; rw [e9]; exact a2⟩, fun q q0 q1 => ?_⟩
  rw [e9] at q1
  obtain ⟨⟨s1, s2, s3⟩, s4⟩ := b q q0 q1
  have sr : 81 ≤ sl C q ∧ sl C q ≤ 195 := by unfold sl; omega
  rw [es q]
  exact ⟨⟨s1.fr n ht (fun i x y => hc _ (by omega)) (by rw [hc _ (by omega)]) (fun j x y => by rw [h1]) h5, s2.at9 (fun i x y => hc _ (by omega)) (by rw [hc _ (by omega)]) (by rw [hc _ (by omega)]), by rw [hc _ (by omega), h6]; exact s3⟩, s4.fr (fun j x y => by rw [h1])⟩
theorem IM.of {t : Nat} {C C' R R' : zM} (h : IM t C R) (n : C t 2 ≤ 6) (ht : C' t 2 = C t 2) (hc : ∀ k : Nat, (73 ≤ k ∧ k ≤ 78) → C' k = C k) (h2 : C' 2 10 = C 2 10) (h1 : R' 242 = R 242) (h9 : ∀ i : Int, i = 67 ∨ i = 69 ∨ i = 70 → R' 209 i = R 209 i) : IM t C' R' := by
  obtain ⟨a, b⟩ := h
  refine ⟨by rw [h9 67 (by omega), h2]; exact a, fun z => ?_⟩
  rw [h2] at z
  obtain ⟨⟨s1, s2, s3, s4⟩, s5⟩ := b z
  exact ⟨⟨s1.fr n ht (fun i x y => hc _ (by omega)) (by rw [hc _ (by omega)]) (fun j x y => by rw [h1]) (h9 69 (by omega)), s2.at9 (fun i x y => hc _ (by omega)) (by rw [hc _ (by omega)]) (by rw [hc _ (by omega)]), by rw [h9 70 (by omega), hc _ (by omega)]; exact s3, by rw [hc _ (by omega)]; exact s4⟩, s5.fr (fun j x y => by rw [h1])⟩
/-- what is now is remembered -/
theorem UN.push {t : Nat} {C C1 R R1 : zM} (h : UN t C R) (rn : RN t C R) (sm9 : SmI R 0) (hp : PsR C C1) (hm : RmR R R1) : UN t C1 R1 ∧ (∀ k : Nat, k ≤ 78 ∨ 201 ≤ k → C1 k = C k) ∧ (∀ (k : Nat) (i : Int), k ≠ 241 → ¬ (k = 209 ∧ i = 65) → R1 k i = R k i) := by
  obtain ⟨⟨a1, u1, u2⟩, b⟩ := h
  have hfr : ∀ k : Nat, k ≤ 78 ∨ 201 ≤ k → C1 k = C k := fun k hk => hp.fr ⟨u1, u2⟩ hk
  obtain ⟨C0, cy, e⟩ := hp
  obtain ⟨m1, m2, m3, m4, m5⟩ := hm
  obtain ⟨k9, s9, n9, ⟨i1, i2⟩, ht, h50⟩ := rn
  have tm := Int.tmod_eq_emod_of_nonneg (a := C 79 1 + 1) (b := 20) (by omega)
  have x1 : C1 79 1 = (C 79 1 + 1) % 20 := by rw [e, sm_k, us_n (by decide), sm_s, tm]
  have s1 : C1 79 2 = if C 79 2 + 1 < 20 then C 79 2 + 1 else 20 := by rw [e, sm_s]
  have c1 : ∀ k : Nat, k ≠ 79 → C1 k = C0 k := fun k hk => by rw [e, sm_n hk, sm_n hk]
  have us9 : usl R = if C 79 2 = 20 then 19 else C 79 2 := by unfold usl; rw [a1]
  have c61 : C1 61 = C 61 := hfr 61 (by omega)
  have et : C1 t = C t := hfr t (by omega)
  refine ⟨⟨⟨by rw [m4, us9, s1]; split <;> split <;> omega, by unfold UI; rw [x1, s1]; refine ⟨by omega, ?_⟩; split <;> omega⟩, fun q q0 q1 => ?_⟩, hfr, m5⟩
  have sN : C1 79 2 = usl R + 1 := by rw [s1, us9]; split <;> split <;> omega
  by_cases new : q = usl R
  · have slq : sl C1 q = 81 + 6 * (C 79 1).toNat := by unfold sl; rw [sN, x1, new]; omega
    rw [slq]
    have st : StI C1 (81 + 6 * (C 79 1).toNat) := (cy.sti i2).at9 (fun i x y => c1 _ (by omega)) (by rw [c1 _ (by omega)]) (by rw [c1 _ (by omega)])
    refine ⟨⟨?_, st, by rw [c1 _ (by omega), cy.2.2.2.1, c61]⟩, ?_⟩
    · refine s9.mk i1.1.2 (by rw [et]) (fun j x y => ?_) (fun j x y => ?_) ?_ (fun j x y => ?_) (fun j x y => ?_) ?_
      · have z := cy.1 j x y
        rw [c1 _ (by omega), c1 _ (by omega), c1 _ (by omega), c1 _ (by omega)]; exact z
      · rw [c1 _ (by omega)]; exact cy.2.1 j x y
      · rw [c1 _ (by omega)]; exact cy.2.2.1
      · have z := m1 j x y
        show R1 241 (90 * q + (6 * 0 + j)) = _ ∧ R1 241 (90 * q + 6 + (6 * 0 + j)) = _ ∧ R1 241 (90 * q + 12 + (6 * 0 + j)) = _
        rw [new, show 6 * (0 : Int) + j = j by omega]; exact z
      · have z := m2 j x y
        show R1 241 (90 * q + 18 + (36 * 0 + j)) = _ ∧ R1 241 (90 * q + 54 + (36 * 0 + j)) = _
        rw [new, show 36 * (0 : Int) + j = j by omega]; exact z
      · show C1 61 5 = R 238 0
        rw [c61]; exact s9.2.2.2.2.symm
    · obtain ⟨g1, g2, g3, g4⟩ := sm9
      refine ⟨fun j x y => ?_, fun j x y => ?_⟩
      · have z := m1 j x y
        have w1 := g1 j x y
        have w2 := g2 j x y
        rw [show 6 * (0 : Int) + j = j by omega] at w1 w2
        rw [new, z.1, z.2.1]; exact ⟨w1, w2⟩
      · have z := m2 j x y
        have w := g3 j x y
        rw [show 36 * (0 : Int) + j = j by omega] at w
        rw [new, z.1]; exact w
  · have hq : ∃ q' : Int, 0 ≤ q' ∧ q' < C 79 2 ∧ sl C1 q = sl C q' ∧ sl C q' ≠ 81 + 6 * (C 79 1).toNat ∧ ∀ j : Int, 0 ≤ j → j < 90 → R1 241 (90 * q + j) = R 241 (90 * q' + j) := by
      by_cases f : C 79 2 = 20
      · rw [if_pos f] at us9
        rw [us9] at sN new
        refine ⟨q + 1, by omega, by omega, ?_, ?_, fun j x y => ?_⟩
        · unfold sl; rw [sN, x1, f]; omega
        · unfold sl; rw [f]; omega
        · rw [m3 (90 * q + j) (by omega) (by rw [us9]; omega), if_pos (by rw [a1]; exact f), show 90 * q + j + 90 = 90 * (q + 1) + j by omega]
      · rw [if_neg f] at us9
        rw [us9] at sN new
        refine ⟨q, q0, by omega, ?_, ?_, fun j x y => ?_⟩
        · unfold sl; rw [sN, x1]; omega
        · unfold sl; omega
        · rw [m3 (90 * q + j) (by omega) (by rw [us9]; omega), if_neg (by rw [a1]; exact f)]
    obtain ⟨q', p0, p1, es, ne, er⟩ := hq
    obtain ⟨⟨r1, r2, r3⟩, r4⟩ := b q' p0 p1
    have sr : 81 ≤ sl C q' ∧ sl C q' ≤ 195 ∧ ∃ z : Nat, sl C q' = 81 + 6 * z := ⟨by unfold sl; omega, by unfold sl; omega, _, rfl⟩
    obtain ⟨_, _, z, ez⟩ := sr
    have cs : ∀ i : Nat, i ≤ 5 → C1 (sl C q' + i) = C (sl C q' + i) := fun i hi => by rw [c1 _ (by omega), cy.2.2.2.2 _ (by omega)]
    have cs0 : C1 (sl C q') = C (sl C q') := cs 0 (by omega)
    rw [es]
    exact ⟨⟨r1.fr i1.1.2 (by rw [et]) (fun i x y => cs i y) (by rw [cs0]) er (by rw [c61]), r2.at9 (fun i x y => cs i y) (by rw [cs0]) (by rw [cs0]), by rw [cs0, c61]; exact r3⟩, r4.fr er⟩
end ZEFF
