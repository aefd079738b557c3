section ZPQ
abbrev PS : Type := Int × (Int → Int) × (Int → Int)
/-- the chosen dials -/
def chL (T : Int → Int) : Nat → Int → (Int → Int) → (Int → Int)
  | 0, _, C => C
  | n + 1, i, C => chL T n (i + 1) (us C i (T i * 11))
/-- the house h goes through its ten dials -/
def plL (ap fr : Int → Int) (h stp : Int) (rc : Int → PS → PS) : Nat → Int → PS → PS
  | 0, _, S => S
  | n + 1, i, S => plL ap fr h stp rc n (i + 1) (if zall (fun j => ap ((j * 10 + us S.2.1 h i j) * 40 + h * 10 + us S.2.1 h i h)) h.toNat 0 = 0 then (S.1, us S.2.1 h i, S.2.2) else rc (stp + iabs (i * 11 - fr h)) (S.1, us S.2.1 h i, S.2.2))
def plF (ap fr : Int → Int) (hs : Int) : Nat → Int → Int → PS → PS
  | 0, _, stp, S => if S.1 ≤ stp then S else (stp, S.2.1, chL S.2.1 hs.toNat 0 S.2.2)
  | n + 1, h, stp, S => if S.1 ≤ stp then S else plL ap fr h stp (plF ap fr hs n (h + 1)) 10 0 S
/-- a place's own numbers laid into a memory -/
def putS (M : zM) (S : PS) : zM := ur (ur (sm M 54 8 S.1) 59 S.2.1) 60 S.2.2
theorem putS_f (M : zM) (S : PS) : putS M S 54 8 = S.1 := by unfold putS; rw [ur_n (by decide), ur_n (by decide), sm_s]
theorem putS_6 (M : zM) (S : PS) : putS M S 54 6 = M 54 6 := by unfold putS; rw [ur_n (by decide), ur_n (by decide), sm_k, us_n (by decide)]
theorem putS_t (M : zM) (S : PS) : putS M S 59 = S.2.1 := by unfold putS; rw [ur_n (by decide), ur_s]
theorem putS_c (M : zM) (S : PS) : putS M S 60 = S.2.2 := by unfold putS; rw [ur_s]
theorem putS_n (M : zM) (S : PS) {k : Nat} (h : k ≠ 54) (h2 : k ≠ 59) (h3 : k ≠ 60) : putS M S k = M k := by unfold putS; rw [ur_n h3, ur_n h2, sm_n h]
theorem putS_st (M : zM) (S : PS) (i v : Int) : sm (putS M S) 59 i v = putS M (S.1, us S.2.1 i v, S.2.2) := by
  funext k
  unfold putS sm ur
  by_cases h1 : k = 59
  · subst h1; simp
  · by_cases h2 : k = 60
    · subst h2; simp
    · simp [h1, h2]
theorem putS_sc (M : zM) (S : PS) (i v : Int) : sm (putS M S) 60 i v = putS M (S.1, S.2.1, us S.2.2 i v) := by
  funext k
  unfold putS sm ur
  by_cases h1 : k = 60
  · subst h1; simp
  · simp [h1]
theorem putS_sf (M : zM) (S : PS) (v : Int) : sm (putS M S) 54 8 v = putS M (v, S.2.1, S.2.2) := by
  funext k
  unfold putS sm ur
  by_cases h1 : k = 54
  · subst h1
    funext j
    simp [us]
    by_cases e : j = 8
    · rw [if_pos e, if_pos e]
    · rw [if_neg e, if_neg e, if_neg e]
  · simp [h1]
theorem putS_id (M : zM) : putS M (M 54 8, M 59, M 60) = M := by
  funext k
  unfold putS sm ur
  by_cases h1 : k = 60
  · subst h1; simp
  · by_cases h2 : k = 59
    · subst h2; simp
    · by_cases h3 : k = 54
      · subst h3
        funext j
        simp [us]
        intro e
        rw [e]
      · simp [h1, h2, h3]
theorem plL_inv (ap fr : Int → Int) {h stp : Int} (rc : Int → PS → PS) (b : Int) (hr : ∀ s S, s ≤ b → 0 ≤ s → inR S.1 → inR (rc s S).1 ∧ ∀ j, j < h + 1 → (rc s S).2.1 j = S.2.1 j) (hfr : 0 ≤ fr h ∧ fr h ≤ 99) (hs : 0 ≤ stp ∧ stp + 99 ≤ b) : ∀ (n : Nat) (i : Int) (S : PS), 0 ≤ i → i + n ≤ 10 → inR S.1 → inR (plL ap fr h stp rc n i S).1 ∧ ∀ j, j < h → (plL ap fr h stp rc n i S).2.1 j = S.2.1 j
  | 0, i, S, _, _, hf => ⟨hf, fun _ _ => rfl⟩
  | n + 1, i, S, i0, i1, hf => by
    unfold plL
    have ha := iabs_99 (x := i * 11) (y := fr h) ⟨by omega, by omega⟩ hfr
    split
    · have := plL_inv ap fr rc b hr hfr hs n (i + 1) (S.1, us S.2.1 h i, S.2.2) (by omega) (by omega) hf
      exact ⟨this.1, fun j hj => (this.2 j hj).trans (us_n (by omega))⟩
    · have hc := hr (stp + iabs (i * 11 - fr h)) (S.1, us S.2.1 h i, S.2.2) (by omega) (by omega) hf
      have := plL_inv ap fr rc b hr hfr hs n (i + 1) _ (by omega) (by omega) hc.1
      exact ⟨this.1, fun j hj => (this.2 j hj).trans ((hc.2 j (by omega)).trans (us_n (by omega)))⟩
theorem plF_inv (ap fr : Int → Int) {hs : Int} (hfr : ∀ j, 0 ≤ j → j < hs → 0 ≤ fr j ∧ fr j ≤ 99) : ∀ (n : Nat) (h stp : Int) (S : PS), 0 ≤ h → h + n = hs → 0 ≤ stp → stp + 99 * n ≤ 1000000 → inR S.1 → inR (plF ap fr hs n h stp S).1 ∧ ∀ j, j < h → (plF ap fr hs n h stp S).2.1 j = S.2.1 j
  | 0, h, stp, S, _, _, s0, s1, hf => by
    unfold plF
    split
    · exact ⟨hf, fun _ _ => rfl⟩
    · exact ⟨⟨by omega, by omega⟩, fun _ _ => rfl⟩
  | n + 1, h, stp, S, h0, h1, s0, s1, hf => by
    unfold plF
    split
    · exact ⟨hf, fun _ _ => rfl⟩
    · exact plL_inv ap fr _ (1000000 - 99 * n) (fun s S hs1 hs0 hS => plF_inv ap fr hfr n (h + 1) s S (by omega) (by omega) hs0 (by omega) hS) (hfr h h0 (by omega)) ⟨s0, by omega⟩ 10 0 S (by omega) (by omega) hf
/-- the pairs of a and b are marked -/
def Ap (M0 M : zM) (t : Nat) (a b : Int) : Prop := ∀ i k : Int, 0 ≤ i → i < 10 → 0 ≤ k → k < 10 → M 57 ((a * 10 + i) * 40 + b * 10 + k) = apV M0 t a b i k
end ZPQ
abbrev mdP0 : zMd := (RX3, "place", cX3_place, 4, none, rmd 5)
abbrev mdP1 : zMd := (RX3, "place", cX3_place, 4, none, rmd 6)
abbrev mdP2 : zMd := (RX3, "place", cX3_place, 4, none, rmd 7)
abbrev mdP3 : zMd := (RX3, "place", cX3_place, 4, none, rmd 8)
abbrev mdP4 : zMd := (RX3, "place", cX3_place, 4, none, rmd 9)
theorem mvP0 : MV RX3 95 RX3 yX3_place mdP0 2 := mvX3_95
theorem mvP1 : MV RX3 95 RX3 yX3_place mdP1 2 := mvX3_95
theorem mvP2 : MV RX3 95 RX3 yX3_place mdP2 2 := mvX3_95
theorem mvP3 : MV RX3 95 RX3 yX3_place mdP3 2 := mvX3_95
