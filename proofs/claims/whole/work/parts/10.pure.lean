section ZPU
theorem ir (x : Int32) : inR x.toInt := ⟨by have := Int32.le_toInt x; simpa using this, by have := Int32.toInt_lt x; simpa using this⟩
theorem il (x : Int64) : inL x.toInt := ⟨by have := Int64.le_toInt x; simpa using this, by have := Int64.toInt_lt x; simpa using this⟩
/-- the sum that a loop makes -/
def zsm (f : Int → Int) : Nat → Int → Int → Int
  | 0, _, acc => acc
  | n + 1, i, acc => zsm f n (i + 1) (acc + f i)
/-- the bit h of x -/
def kbit (x h : Int) : Int := if b_iand (b_ishr x h) 1 = 1 then 1 else 0
def kset (x h : Int) : Int := b_ior x (b_ishl 1 h)
theorem kbit_1 {x h : Int} (e : b_iand (b_ishr x h) 1 = 1) : kbit x h = 1 := by unfold kbit; rw [if_pos e]
theorem kbit_0 {x h : Int} (e : b_iand (b_ishr x h) 1 ≠ 1) : kbit x h = 0 := by unfold kbit; rw [if_neg e]
theorem kbit01 (x h : Int) : kbit x h = 0 ∨ kbit x h = 1 := by unfold kbit; split <;> simp
/-- the houses i, from i on, whose f holds, as bits -/
def zbits (f : Int → Int) : Nat → Int → Int → Int
  | 0, _, acc => acc
  | n + 1, i, acc => zbits f n (i + 1) (if f i = 0 then acc else kset acc i)
/-- a state's numbers are within their ranges -/
def StI (M : zM) (a : Nat) : Prop := (∀ i : Int, 0 ≤ i → i < 6 → 0 ≤ M (a + 1) i ∧ M (a + 1) i ≤ 99) ∧ (∀ i : Int, 0 ≤ i → i < 6 → 0 ≤ M (a + 2) i ∧ M (a + 2) i ≤ 9) ∧ (∀ i : Int, 0 ≤ i → i < 6 → 0 ≤ M (a + 3) i ∧ M (a + 3) i ≤ 63) ∧ (∀ i : Int, 0 ≤ i → i < 6 → 0 ≤ M (a + 4) i ∧ M (a + 4) i ≤ 9) ∧ (∀ i : Int, 0 ≤ i → i < 36 → 0 ≤ M (a + 5) i ∧ M (a + 5) i ≤ 999) ∧ (0 ≤ M a 5 ∧ M a 5 ≤ 9999) ∧ (0 ≤ M a 6 ∧ M a 6 ≤ 2147483647)
/-- the first two who know one another: the inner and the outer loop -/
def z2in (f : Int → Int) (one : Int) : Nat → Int → Option Int
  | 0, _ => none
  | n + 1, j => if kbit (f one) j = 1 ∧ kbit (f j) one = 1 then some (10 * one + j) else z2in f one n (j + 1)
def z2out (f : Int → Int) (N : Int) : Nat → Int → Int
  | 0, _ => -1
  | n + 1, i => match z2in f i (N - (i + 1)).toNat (i + 1) with
    | some r => r
    | none => z2out f N n (i + 1)
def nxt (x : Int) : Int := b_iand (x * 1103515245 + 12345) 2147483647
end ZPU
section ZPU2
/-- the first place from i on where f is x; -1 if there is none -/
def zfind (f : Int → Int) (x : Int) : Nat → Int → Int
  | 0, _ => -1
  | n + 1, i => if f i = x then i else zfind f x n (i + 1)
/-- the kind of the first sound of h at t -/
def zsnd (hs ts ks : Int → Int) (h t : Int) : Nat → Int → Int
  | 0, _ => 0
  | n + 1, i => if hs i = h ∧ ts i = t then ks i else zsnd hs ts ks h t n (i + 1)
/-- the most over the kinds, as a loop makes it -/
def zmx (f : Int → Int) : Nat → Int → Int → Int
  | 0, _, acc => acc
  | n + 1, i, acc => zmx f n (i + 1) (if acc < f i then f i else acc)
/-- a text's numbers are within their ranges -/
def ToI (M : zM) (t : Nat) : Prop := (0 ≤ M t 2 ∧ M t 2 ≤ 6) ∧ (0 ≤ M t 6 ∧ M t 6 ≤ 10) ∧ (0 ≤ M t 10 ∧ M t 10 ≤ 12) ∧
  (∀ i : Int, 0 ≤ i → i < 6 → 0 ≤ M (t + 2) i ∧ M (t + 2) i ≤ 99) ∧ (∀ i : Int, 0 ≤ i → i < 6 → 0 ≤ M (t + 3) i ∧ M (t + 3) i ≤ 9) ∧
  (∀ i : Int, 0 ≤ i → i < 10 → (0 ≤ M (t + 4) i ∧ M (t + 4) i ≤ 5) ∧ (0 ≤ M (t + 5) i ∧ M (t + 5) i ≤ 99) ∧ (0 ≤ M (t + 6) i ∧ M (t + 6) i ≤ 99)) ∧
  (∀ i : Int, 0 ≤ i → i < 12 → (0 ≤ M (t + 7) i ∧ M (t + 7) i ≤ 5) ∧ (0 ≤ M (t + 8) i ∧ M (t + 8) i ≤ 99) ∧ (0 ≤ M (t + 9) i ∧ M (t + 9) i ≤ 9)) ∧
  (0 ≤ M (t + 10) 0 ∧ M (t + 10) 0 ≤ 20) ∧ (1 ≤ M (t + 10) 1 ∧ M (t + 10) 1 ≤ 9) ∧ (0 ≤ M (t + 10) 2 ∧ M (t + 10) 2 ≤ 100) ∧ (0 ≤ M (t + 10) 3 ∧ M (t + 10) 3 ≤ 99999)
end ZPU2
/-- how many bits, as the library counts them -/
def bcnt (x : Int) : Int :=
  let i1 := x - b_iand (b_iushr x 1) 1431655765
  let i2 := b_iand i1 858993459 + b_iand (b_iushr i1 2) 858993459
  let i3 := b_iand (i2 + b_iushr i2 4) 252645135
  let i4 := i3 + b_iushr i3 8
  let i5 := i4 + b_iushr i4 16
  b_iand i5 63
