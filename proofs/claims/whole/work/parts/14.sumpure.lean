section ZSU
variable {G : zG} {l : Launch} {md : zMd} {Z : zZ} {pc : Nat} {ls : List (Option av)} {st : List av} {lay : List zKd} {P : zP} {M : zM} {k n : Nat}
theorem c_lcmp {x y : Int} (d : decode md.2.2.1 pc = .ok (.lcmp, 1)) (hx : inL x) (hy : inL y) (kk : ∀ r : Int, ((x < y ∧ r = -1) ∨ (x = y ∧ r = 0) ∨ (y < x ∧ r = 1)) → AW G l md Z (pc + 1) ls (aI r :: st) lay P M k n) : AW G l md Z pc ls (aL y :: aL x :: st) lay P M k n := by
  refine a_lcmp d hx hy (kk _ ?_)
  unfold b_lcmp
  split
  · left; exact ⟨by assumption, rfl⟩
  · split
    · right; left; exact ⟨by assumption, rfl⟩
    · right; right; exact ⟨by omega, rfl⟩
def labs (x : Int) : Int := if x < 0 then -x else x
/-- what a sign makes of two values -/
def jn (s a b : Int) : Int :=
  if s = 0 then (if a ≠ 0 ∨ b ≠ 0 then 1 else 0)
  else if s = 1 then (if a ≠ 0 ∧ b ≠ 0 then 1 else 0)
  else if s = 3 then (if a < b then 1 else 0)
  else if s = 4 then (if a ≤ b then 1 else 0)
  else if s = 5 then (if a = b then 1 else 0)
  else if s = 6 then (if a ≠ b then 1 else 0)
  else if s = 7 then (if b ≤ a then 1 else 0)
  else if s = 8 then (if b < a then 1 else 0)
  else if s = 9 then a + b
  else if s = 10 then a - b
  else if s = 11 then (if a ≠ 0 ∧ (1000000000000 : Int).tdiv (labs a) < labs b then 1000000000001 else a * b)
  else (if b = 0 then 1000000000001 else a.tdiv b)
/-- a value within the limit -/
abbrev lim (x : Int) : Prop := -1000000000000 ≤ x ∧ x ≤ 1000000000000
theorem mul_lim {a b : Int} (h : ¬ (a ≠ 0 ∧ (1000000000000 : Int).tdiv (labs a) < labs b)) : lim (a * b) := by
  by_cases ha : a = 0
  · subst ha
    rw [Int.zero_mul]
    exact ⟨by decide, by decide⟩
  · have h1 : labs b ≤ (1000000000000 : Int).tdiv (labs a) := by
      rcases Int.lt_or_le ((1000000000000 : Int).tdiv (labs a)) (labs b) with q | q
      · exact absurd ⟨ha, q⟩ h
      · exact q
    have e1 : labs a = (a.natAbs : Int) := by unfold labs; split <;> omega
    have e2 : labs b = (b.natAbs : Int) := by unfold labs; split <;> omega
    rw [e1, e2] at h1
    have e3 : (1000000000000 : Int).tdiv (a.natAbs : Int) = ((1000000000000 / a.natAbs : Nat) : Int) := by
      rw [Int.tdiv_eq_ediv_of_nonneg (by decide)]
      rfl
    rw [e3] at h1
    have h2 : b.natAbs ≤ 1000000000000 / a.natAbs := by omega
    have h3 : b.natAbs * a.natAbs ≤ 1000000000000 := (Nat.le_div_iff_mul_le (by omega)).mp h2
    have h4 : (a * b).natAbs = a.natAbs * b.natAbs := Int.natAbs_mul a b
    rw [Nat.mul_comm] at h3
    constructor <;> omega
theorem tdiv_lim {a b : Int} (ha : lim a) : lim (a.tdiv b) := by
  have h1 : (a.tdiv b).natAbs = a.natAbs / b.natAbs := Int.natAbs_tdiv a b
  have h2 : a.natAbs / b.natAbs ≤ a.natAbs := Nat.div_le_self _ _
  constructor <;> omega
theorem ite01 (c : Prop) [Decidable c] : 0 ≤ (if c then (1 : Int) else 0) ∧ (if c then (1 : Int) else 0) ≤ 1 := by
  by_cases h : c
  · rw [if_pos h]; omega
  · rw [if_neg h]; omega
theorem jn_in {s a b : Int} (ha : lim a) (hb : lim b) : -3000000000000 ≤ jn s a b ∧ jn s a b ≤ 3000000000000 := by
  unfold jn
  by_cases h0 : s = 0
  · rw [if_pos h0]
    have := ite01 (a ≠ 0 ∨ b ≠ 0)
    omega
  rw [if_neg h0]
  by_cases h1 : s = 1
  · rw [if_pos h1]
    have := ite01 (a ≠ 0 ∧ b ≠ 0)
    omega
  rw [if_neg h1]
  by_cases h3 : s = 3
  · rw [if_pos h3]
    have := ite01 (a < b)
    omega
  rw [if_neg h3]
  by_cases h4 : s = 4
  · rw [if_pos h4]
    have := ite01 (a ≤ b)
    omega
  rw [if_neg h4]
  by_cases h5 : s = 5
  · rw [if_pos h5]
    have := ite01 (a = b)
    omega
  rw [if_neg h5]
  by_cases h6 : s = 6
  · rw [if_pos h6]
    have := ite01 (a ≠ b)
    omega
  rw [if_neg h6]
  by_cases h7 : s = 7
  · rw [if_pos h7]
    have := ite01 (b ≤ a)
    omega
  rw [if_neg h7]
  by_cases h8 : s = 8
  · rw [if_pos h8]
    have := ite01 (b < a)
    omega
  rw [if_neg h8]
  by_cases h9 : s = 9
  · rw [if_pos h9]; omega
  rw [if_neg h9]
  by_cases h10 : s = 10
  · rw [if_pos h10]; omega
  rw [if_neg h10]
  by_cases h11 : s = 11
  · rw [if_pos h11]
    by_cases h : a ≠ 0 ∧ (1000000000000 : Int).tdiv (labs a) < labs b
    · rw [if_pos h]; omega
    · rw [if_neg h]
      have := mul_lim h
      omega
  rw [if_neg h11]
  by_cases h : b = 0
  · rw [if_pos h]; omega
  · rw [if_neg h]
    have := tdiv_lim (b := b) ha
    omega
/-- a knot that a law may hold -/
def kok (x : Int) : Prop := (0 ≤ x ∧ x ≤ 9999) ∨ (10000 ≤ x ∧ x ≤ 10006) ∨ (20000 ≤ x ∧ x ≤ 20012)
/-- one knot over the values so far (the top first); none: an error -/
def stS (nm : Int → Int) (x : Int) (st : List Int) : Option (List Int) :=
  if x < 20000 then some ((if x < 10000 then x else nm (x - 10000)) :: st)
  else match st with
    | [] => none
    | a :: r => if x = 20002 then some ((if a = 0 then 1 else 0) :: r)
      else match r with
        | [] => none
        | b :: r' => if 1000000000000 < jn (x - 20000) b a ∨ jn (x - 20000) b a < -1000000000000 then none else some (jn (x - 20000) b a :: r')
def evS (nm kn : Int → Int) : Nat → Int → List Int → Option (List Int)
  | 0, _, st => some st
  | n + 1, i, st => match stS nm (kn i) st with
    | none => none
    | some st' => evS nm kn n (i + 1) st'
def one (r : Option (List Int)) : Option Int := match r with
  | some [v] => some v
  | _ => none
/-- a law's value: none is ERROR, or that it isn't told -/
def lawS (nm kn : Int → Int) (n : Nat) : Option Int := one (evS nm kn n 0 [])
end ZSU
