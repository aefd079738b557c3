section ZBS
/-- a row of noughts -/
def z0r (M : zM) (k : Nat) : Prop := ∀ i, M k i = 0
theorem z0r.cp {M : zM} {k q : Nat} {nn i9 : Int} (h : z0r M k) : z0r (cpP q nn i9 M) k := fun i => by
  unfold cpP
  split
  · rename_i c; rw [← c.1]; exact h _
  · exact h i
theorem z0r.sm {M : zM} {k q : Nat} {i v : Int} (h : z0r M k) (hq : k ≠ q) : z0r (sm M q i v) k := fun j => by
  rw [sm_n hq]; exact h j
/-- the start: the script, the ranks, noughts -/
def M0S (M : zM) : Prop := (∀ k, 2 ≤ k → ∀ i, M k i = 0) ∧ ∀ i : Int, 0 ≤ i → i < 14 → M 1 i = rnk i
/-- the class as it is made -/
def CK (C : zM) : Prop := (Tz C 4 ∧ Tz C 23) ∧ (z0r C 2 ∧ z0r C 3 ∧ z0r C 79) ∧ (C 42 6 = 0 ∧ C 42 7 = -1) ∧ ((∀ k : Int, 0 ≤ k → k < 21 → C 44 k = lngF k) ∧ ∀ i : Int, 0 ≤ i → i < 14 → C 1 i = rnk i) ∧ C 50 1 = 3 ∧ ((∀ j : Int, 0 ≤ j → j < 6 → C 62 j = 0 ∧ C 63 j = 0 ∧ C 64 j = 0 ∧ C 65 j = 0) ∧ (∀ j : Int, 0 ≤ j → j < 36 → C 66 j = 0) ∧ C 61 5 = 0 ∧ C 61 6 = 0) ∧ (C 201 6 = 0 ∧ C 201 7 = -1)
theorem CK.of {C C' : zM} (h : CK C) (e : ∀ k, k < 209 → C' k = C k) : CK C' := by
  obtain ⟨⟨a1, a2⟩, ⟨b1, b2, b3⟩, c, ⟨d1, d2⟩, f, g, i⟩ := h
  refine ⟨⟨a1.of (fun k x y => e k (by omega)), a2.of (fun k x y => e k (by omega))⟩, ⟨fun j => by rw [e 2 (by decide)]; exact b1 j, fun j => by rw [e 3 (by decide)]; exact b2 j, fun j => by rw [e 79 (by decide)]; exact b3 j⟩, ?_, ⟨?_, ?_⟩, ?_, ?_, ?_⟩
  · rw [e 42 (by decide)]; exact c
  · rw [e 44 (by decide)]; exact d1
  · rw [e 1 (by decide)]; exact d2
  · rw [e 50 (by decide)]; exact f
  · rw [e 61 (by decide), e 62 (by decide), e 63 (by decide), e 64 (by decide), e 65 (by decide), e 66 (by decide)]; exact g
  · rw [e 201 (by decide)]; exact i
theorem ck_made {M M1 M2 M' : zM} {P : zP} (hs : M0S M) (hF : FR M P 3) (h1 : clT 4 M M1) (h2 : clT 23 M1 M2) (h3 : BgR (asG (ntM M2)) 61 4 M') : CK M' ∧ ∀ k, 209 ≤ k → z0r M' k := by
  obtain ⟨z4, z23⟩ := tz2 hF h1 h2
  obtain ⟨g1, g2, g3, g4, g5⟩ := h3
  have o2 : ∀ k, ¬ (4 ≤ k ∧ k ≤ 40) → M2 k = M k := fun k hk => (h2.2.2.2.2.2 k (by omega) (by omega) (by omega) (by omega) (by omega) (by omega)).trans (h1.2.2.2.2.2 k (by omega) (by omega) (by omega) (by omega) (by omega) (by omega))
  have r : ∀ k, ¬ (61 ≤ k ∧ k ≤ 66) → M' k = asG (ntM M2) k := fun k hk => g5 k (by omega)
  have r2 : ∀ k, ¬ (61 ≤ k ∧ k ≤ 66) → k ≠ 50 → k ≠ 44 → k ≠ 42 → k ≠ 201 → M' k = M2 k := fun k a b c d e => (r k a).trans ((asG_n b).trans (ntM_n c d e))
  have zz : ∀ k, 41 ≤ k → ¬ (61 ≤ k ∧ k ≤ 66) → k ≠ 50 → k ≠ 44 → k ≠ 42 → k ≠ 201 → z0r M' k := fun k a b c d e f i => by rw [r2 k b c d e f, o2 k (by omega)]; exact hs.1 k (by omega) i
  have ea : asG (ntM M2) 4 = M2 4 := (asG_n (by decide)).trans (ntM_n (by decide) (by decide) (by decide))
  have ea14 : asG (ntM M2) (4 + 10) = M2 14 := (asG_n (by decide)).trans (ntM_n (by decide) (by decide) (by decide))
  have e42 : ∀ i, ntM M2 42 i = us (M 42) 7 (-1) i := fun i => by
    unfold ntM
    rw [sm_n (by decide), sm_k, lgM_n (by decide), o2 42 (by omega)]
  have e201 : ∀ i, ntM M2 201 i = us (M 201) 7 (-1) i := fun i => by
    unfold ntM
    rw [sm_k, sm_n (by decide), lgM_n (by decide), o2 201 (by omega)]
  have h42 := hs.1 42 (by decide)
  have h201 := hs.1 201 (by decide)
  refine ⟨⟨⟨z4.of (fun k a b => r2 k (by omega) (by omega) (by omega) (by omega) (by omega)), z23.of (fun k a b => r2 k (by omega) (by omega) (by omega) (by omega) (by omega))⟩, ⟨fun i => ?_, fun i => ?_, zz 79 (by decide) (by decide) (by decide) (by decide) (by decide) (by decide)⟩, ⟨?_, ?_⟩, ⟨fun k a b => ?_, fun i a b => ?_⟩, ?_, ⟨fun j a b => ?_, g2, g3, ?_⟩, ?_, ?_⟩, fun k hk => zz k (by omega) (by omega) (by omega) (by omega) (by omega) (by omega)⟩
  · rw [r2 2 (by decide) (by decide) (by decide) (by decide) (by decide), o2 2 (by decide)]; exact hs.1 2 (by decide) i
  · rw [r2 3 (by decide) (by decide) (by decide) (by decide) (by decide), o2 3 (by decide)]; exact hs.1 3 (by decide) i
  · rw [r 42 (by decide), asG_n (by decide), e42, us_n (by decide)]; exact h42 6
  · rw [r 42 (by decide), asG_n (by decide), e42, us_s]
  · rw [r 44 (by decide), asG_n (by decide)]
    unfold ntM
    rw [sm_n (by decide), sm_n (by decide)]
    unfold lgM
    rw [if_pos ⟨rfl, a, b⟩]
  · rw [r2 1 (by decide) (by decide) (by decide) (by decide) (by decide), o2 1 (by decide)]; exact hs.2 i a b
  · rw [r 50 (by decide)]
    unfold asG
    rw [sm_k, us_n (by decide), sm_k, us_n (by decide), sm_k, us_n (by decide), sm_k, us_n (by decide), sm_s, ntM_n (by decide) (by decide) (by decide)]
    exact z4.2.1.1
  · have q := g1 j a b
    rw [ea, z4.1.2.2.1, if_neg (by omega), if_neg (by omega)] at q
    exact q
  · rw [g4, ea14]; exact z4.2.1.2.2.2
  · rw [r 201 (by decide), asG_n (by decide), e201, us_n (by decide)]; exact h201 6
  · rw [r 201 (by decide), asG_n (by decide), e201, us_s]
/-- the reference as it is made -/
def RK (R : zM) : Prop := (∀ k, 210 ≤ k → k ≠ 211 → k ≠ 213 → z0r R k) ∧ (∀ i : Int, i ≠ 5 → i ≠ 59 → i ≠ 60 → i ≠ 62 → R 209 i = 0) ∧ (R 209 5 = -1 ∧ R 209 60 = 3 ∧ R 209 62 = -1) ∧ (R 213 0 = 3 ∧ R 213 1 = 2 ∧ R 213 2 = 0 ∧ R 213 3 = 0) ∧ (R 213 4 = 3 ∧ R 213 5 = 2 ∧ R 213 6 = 0 ∧ R 213 7 = 0) ∧ ∀ i : Int, 0 ≤ i → i < 107 → R 211 i = wrd i
theorem wd_211 {M : zM} {i : Int} (a : 0 ≤ i) (b : i < 107) : wdM M 211 i = wrd i := by
  rw [wdM_L, smL_k, if_pos ⟨a, by rw [show (wrdL.length : Int) = 107 by decide]; omega⟩]
  unfold wrd
  rw [Int.sub_zero]
/-- the memory behind plain: its rows -/
theorem q_pl {M : zM} (hz : ∀ k, 209 ≤ k → z0r M k) : (∀ k, 210 ≤ k → k ≠ 211 → k ≠ 213 → z0r (plM (xM M)) k) ∧ (∀ i : Int, plM (xM M) 209 i = if i = 5 ∨ i = 62 then -1 else 0) ∧ (∀ i : Int, 0 ≤ i → i < 107 → plM (xM M) 211 i = wrd i) ∧ (plM (xM M) 213 4 = 3 ∧ plM (xM M) 213 5 = 2 ∧ plM (xM M) 213 6 = 0 ∧ plM (xM M) 213 7 = 0) ∧ ∀ k, k < 209 → plM (xM M) k = M k := by
  have e0 : ∀ k, k ≠ 209 → k ≠ 211 → xM M k = M k := fun k a b => by unfold xM; rw [sm_n a, sm_n a, wdM_L, smL_n b]
  have e9 : ∀ k, k ≠ 209 → sm (sm (sm (sm (sm (xM M) 209 16 0) 209 17 0) 209 18 0) 209 19 0) 209 42 0 k = xM M k := fun k a => by rw [sm_n a, sm_n a, sm_n a, sm_n a, sm_n a]
  refine ⟨fun k a b c i => ?_, fun i => ?_, fun i a b => ?_, ⟨?_, ?_, ?_, ?_⟩, fun k a => ?_⟩
  · unfold plM
    by_cases d : k = 212
    · subst d; rw [plP_12]; split
      · rfl
      · rw [e9 212 (by decide), e0 212 (by decide) (by decide)]; exact hz 212 (by decide) i
    · by_cases f : k = 223
      · subst f; rw [plP_23]; split
        · rfl
        · rw [e9 223 (by decide), e0 223 (by decide) (by decide)]; exact hz 223 (by decide) i
      · rw [plP_n d c f, e9 k (by omega), e0 k (by omega) b]; exact hz k (by omega) i
  · unfold plM
    rw [plP_n (by decide) (by decide) (by decide)]
    have q : ∀ j, wdM M 209 j = 0 := fun j => by rw [wdM_L, smL_n (by decide)]; exact hz 209 (by decide) j
    simp only [sm_k, us, xM]
    repeat' split
    all_goals first | rfl | (rw [q]; done) | omega | (exfalso; omega)
  · unfold plM
    rw [plP_n (by decide) (by decide) (by decide), e9 211 (by decide)]
    unfold xM
    rw [sm_n (by decide), sm_n (by decide)]
    exact wd_211 a b
  · unfold plM; rw [plP_13, if_pos ⟨by decide, by decide⟩]; decide
  · unfold plM; rw [plP_13, if_pos ⟨by decide, by decide⟩]; decide
  · unfold plM; rw [plP_13, if_pos ⟨by decide, by decide⟩]; decide
  · unfold plM; rw [plP_13, if_pos ⟨by decide, by decide⟩]; decide
  · unfold plM; rw [plP_n (by omega) (by omega) (by omega), e9 k (by omega), e0 k (by omega) (by omega)]
end ZBS
