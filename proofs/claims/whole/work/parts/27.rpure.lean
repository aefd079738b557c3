section ZRP
/-- the class's number of a sign that the reference numbers k -/
def sgn (k : Int) : Int := if k = 3 then 1 else if k = 4 then 0 else k - 2
/-- the error behind the knot i; the value of it -/
def vE (kn pt ot V : Int → Int) (err i : Int) : Int := if err ≠ 0 ∨ (11 ≤ kn i ∧ ¬ lim (jn (sgn (kn i)) (V (pt i)) (V (ot i)))) then 1 else 0
def vV (nm kn pt ot V : Int → Int) (err i : Int) : Int :=
  if kn i = 0 then pt i else if kn i = 1 then nm (pt i) else if kn i = 2 then (if V (pt i) = 0 then 1 else 0)
  else if 11 ≤ kn i ∧ vE kn pt ot V err i ≠ 0 then 0 else jn (sgn (kn i)) (V (pt i)) (V (ot i))
/-- the reference's row of values, and its error, over n knots from i on -/
def rV (nm kn pt ot : Int → Int) : Nat → Int → (Int → Int) → Int → (Int → Int) × Int
  | 0, _, V, e => (V, e)
  | n + 1, i, V, e => rV nm kn pt ot n (i + 1) (us V i (vV nm kn pt ot V e i)) (if kn i < 11 then e else vE kn pt ot V e i)
/-- the reference's value of a law with n knots from f on; none: ERROR -/
def rLaw (nm kn pt ot : Int → Int) (f : Int) (n : Nat) : Option Int := if (rV nm kn pt ot n f (fun _ => 0) 0).2 = 0 then some ((rV nm kn pt ot n f (fun _ => 0) 0).1 (f + n - 1)) else none
/-- the reference's knots from f to g -/
def KnI (M : zM) (f g : Int) : Prop := ∀ i : Int, f ≤ i → i < g → (0 ≤ M 226 i ∧ M 226 i ≤ 14) ∧ (M 226 i = 0 → 0 ≤ M 227 i ∧ M 227 i ≤ 9999) ∧ (M 226 i = 1 → 0 ≤ M 227 i ∧ M 227 i ≤ 6) ∧ (2 ≤ M 226 i → f ≤ M 227 i ∧ M 227 i < i) ∧ (3 ≤ M 226 i → f ≤ M 228 i ∧ M 228 i < i)
/-- a law of the reference's text -/
def LrI (M : zM) (w : Int) : Prop := M 223 w ≠ 0 → (0 ≤ M 224 w ∧ M 224 w ≤ M 225 w ∧ M 225 w ≤ 64) ∧ (M 224 w < M 225 w ∧ KnI M (M 224 w) (M 225 w))
/-- all but the reference's values and its error -/
def Er (M0 M : zM) : Prop := ∀ (k : Nat) (i : Int), k ≠ 232 → ¬ (k = 209 ∧ i = 47) → M k i = M0 k i
theorem Er.rf (M : zM) : Er M M := fun _ _ _ _ => rfl
theorem Er.tr {M0 M1 M2 : zM} (h1 : Er M0 M1) (h2 : Er M1 M2) : Er M0 M2 := fun k i a b => (h2 k i a b).trans (h1 k i a b)
theorem Er.e {M0 M : zM} (h : Er M0 M) (v : Int) : Er M0 (sm M 209 47 v) := fun k j h1 h2 => by
  by_cases e : k = 209
  · subst e
    rw [sm_k, us_n (fun z => h2 ⟨rfl, z⟩)]
    exact h 209 j h1 h2
  · rw [sm_n e]; exact h k j h1 h2
theorem Er.v {M0 M : zM} (h : Er M0 M) (i v : Int) : Er M0 (sm M 232 i v) := fun k j h1 h2 => by rw [sm_n h1]; exact h k j h1 h2
def NrI (M : zM) : Prop := ∀ i : Int, 0 ≤ i → i < 7 → lim (M 231 i)
theorem lim01 (c : Prop) [Decidable c] : lim (if c then (1 : Int) else 0) := by
  by_cases h : c
  · rw [if_pos h]; exact ⟨by decide, by decide⟩
  · rw [if_neg h]; exact ⟨by decide, by decide⟩
theorem jn_cmp {s a b : Int} (hs : s ≤ 8) (h2 : s ≠ 2) (h3 : 0 ≤ s) : jn s a b = 0 ∨ jn s a b = 1 := by
  unfold jn
  by_cases h0 : s = 0
  · rw [if_pos h0]; have := ite01 (a ≠ 0 ∨ b ≠ 0); omega
  rw [if_neg h0]
  by_cases h1 : s = 1
  · rw [if_pos h1]; have := ite01 (a ≠ 0 ∧ b ≠ 0); omega
  rw [if_neg h1]
  by_cases h3 : s = 3
  · rw [if_pos h3]; have := ite01 (a < b); omega
  rw [if_neg h3]
  by_cases h4 : s = 4
  · rw [if_pos h4]; have := ite01 (a ≤ b); omega
  rw [if_neg h4]
  by_cases h5 : s = 5
  · rw [if_pos h5]; have := ite01 (a = b); omega
  rw [if_neg h5]
  by_cases h6 : s = 6
  · rw [if_pos h6]; have := ite01 (a ≠ b); omega
  rw [if_neg h6]
  by_cases h7 : s = 7
  · rw [if_pos h7]; have := ite01 (b ≤ a); omega
  rw [if_neg h7]
  by_cases h8 : s = 8
  · rw [if_pos h8]; have := ite01 (b < a); omega
  omega
theorem jn_mul (a b : Int) : jn 11 a b = if a ≠ 0 ∧ (1000000000000 : Int).tdiv (labs a) < labs b then 1000000000001 else a * b := rfl
theorem jn_div (a b : Int) : jn 12 a b = if b = 0 then 1000000000001 else a.tdiv b := rfl
theorem labs0 : labs 0 = 0 := rfl
theorem tdiv_nn (a : Int) : 0 ≤ (1000000000000 : Int).tdiv (labs a) := by
  have : 0 ≤ labs a := by unfold labs; split <;> omega
  exact Int.tdiv_nonneg (by decide) this
theorem mul_much {a b : Int} : (a ≠ 0 ∧ b ≠ 0 ∧ (1000000000000 : Int).tdiv (labs a) < labs b) ↔ ¬ lim (jn 11 a b) := by
  rw [jn_mul]
  constructor
  · rintro ⟨h1, h2, h3⟩
    rw [if_pos ⟨h1, h3⟩]
    omega
  · intro h
    by_cases c : a ≠ 0 ∧ (1000000000000 : Int).tdiv (labs a) < labs b
    · refine ⟨c.1, fun e => ?_, c.2⟩
      have := c.2
      rw [e, labs0] at this
      have := tdiv_nn a
      omega
    · rw [if_neg c] at h
      exact absurd (mul_lim c) h
theorem div_bad {a b : Int} (ha : lim a) : b = 0 ↔ ¬ lim (jn 12 a b) := by
  rw [jn_div]
  constructor
  · intro h
    rw [if_pos h]; omega
  · intro h
    by_cases c : b = 0
    · exact c
    · rw [if_neg c] at h
      exact absurd (tdiv_lim ha) h
end ZRP
