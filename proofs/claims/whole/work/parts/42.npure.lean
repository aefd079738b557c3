section ZNP
/-- how many of what was told count as known -/
def cnd (M : zM) : Int := if M 201 7 = -1 then M 201 6 else M 201 7
/-- strikes taken from the last on -/
def stl (so at9 : Int → Int) : Nat → (Int → Int) → (Int → Int)
  | 0, f => f
  | n + 1, f => stl so at9 n (if f (n : Int) ≠ 0 ∧ so (n : Int) = 2 then us f (at9 (n : Int)) 0 else f)
/-- 1 if no place from i on has 0 -/
def zall (f : Int → Int) : Nat → Int → Int
  | 0, _ => 1
  | n + 1, i => if f i = 0 then 0 else zall f n (i + 1)
theorem zall01 (f : Int → Int) : ∀ (n : Nat) (i : Int), zall f n i = 0 ∨ zall f n i = 1
  | 0, i => Or.inr rfl
  | n + 1, i => by
    unfold zall
    split
    · exact Or.inl rfl
    · exact zall01 f n (i + 1)
/-- the notes' numbers -/
def NI (M : zM) : Prop := (0 ≤ M 201 6 ∧ M 201 6 ≤ 24) ∧ (-1 ≤ M 201 7 ∧ M 201 7 ≤ M 201 6) ∧ ∀ i : Int, 0 ≤ i → i < M 201 6 → (0 ≤ M 202 i ∧ M 202 i ≤ 2) ∧ (0 ≤ M 203 i ∧ M 203 i ≤ 99) ∧ (M 202 i = 2 → M 203 i < i) ∧ (M 202 i = 1 → (0 ≤ M 204 i ∧ M 204 i < 6) ∧ (0 ≤ M 205 i ∧ M 205 i < 6))
theorem cnd_in {M : zM} (h : NI M) : 0 ≤ cnd M ∧ cnd M ≤ M 201 6 := by
  have h1 := h.1
  have h2 := h.2.1
  unfold cnd
  split <;> omega
/-- the notes that count, as a row of 0 and 1 -/
def cntF (M : zM) : Int → Int := stl (M 202) (M 203) (cnd M).toNat (fun j => if j < cnd M then 1 else 0)
/-- a note does not speak against a house -/
def nok (M : zM) (t : Nat) (h i : Int) : Int := if M 207 i ≠ 0 ∧ M 202 i = 0 ∧ (if zsnd (M (t + 7)) (M (t + 8)) (M (t + 9)) h (M 203 i) (M t 10).toNat 0 = M 204 i then 1 else 0) ≠ M 206 i then 0 else 1
/-- a sight does not speak against a state -/
def sok (M : zM) (a : Nat) (n i : Int) : Int := if M 207 i ≠ 0 ∧ M 202 i = 1 ∧ M 203 i = n ∧ kbit (M (a + 3) (M 204 i)) (M 205 i) ≠ M 206 i then 0 else 1
/-- the last hour of a sight that counts -/
def lsF (M : zM) : Nat → Int → Int → Int
  | 0, _, acc => acc
  | n + 1, i, acc => lsF M n (i + 1) (if M 207 i ≠ 0 ∧ M 202 i = 1 then (if acc < M 203 i then M 203 i else acc) else acc)
/-- what is undone: its numbers -/
def UI (M : zM) : Prop := (0 ≤ M 79 1 ∧ M 79 1 < 20) ∧ (0 ≤ M 79 2 ∧ M 79 2 ≤ 20)
theorem un_at (L : Nat) {P : zP} (hP : PFok P) {x : Int} (h : 0 ≤ x ∧ x < 20) : P 80 x = some (81 + 6 * x.toNat) ∧ StA L P (81 + 6 * x.toNat) := by
  rcases (show x = 0 ∨ x = 1 ∨ x = 2 ∨ x = 3 ∨ x = 4 ∨ x = 5 ∨ x = 6 ∨ x = 7 ∨ x = 8 ∨ x = 9 ∨ x = 10 ∨ x = 11 ∨ x = 12 ∨ x = 13 ∨ x = 14 ∨ x = 15 ∨ x = 16 ∨ x = 17 ∨ x = 18 ∨ x = 19 by omega) with e | e | e | e | e | e | e | e | e | e | e | e | e | e | e | e | e | e | e | e <;> subst e
  · exact ⟨p80_0 hP, st_undo0 L hP⟩
  · exact ⟨p80_1 hP, st_undo1 L hP⟩
  · exact ⟨p80_2 hP, st_undo2 L hP⟩
  · exact ⟨p80_3 hP, st_undo3 L hP⟩
  · exact ⟨p80_4 hP, st_undo4 L hP⟩
  · exact ⟨p80_5 hP, st_undo5 L hP⟩
  · exact ⟨p80_6 hP, st_undo6 L hP⟩
  · exact ⟨p80_7 hP, st_undo7 L hP⟩
  · exact ⟨p80_8 hP, st_undo8 L hP⟩
  · exact ⟨p80_9 hP, st_undo9 L hP⟩
  · exact ⟨p80_10 hP, st_undo10 L hP⟩
  · exact ⟨p80_11 hP, st_undo11 L hP⟩
  · exact ⟨p80_12 hP, st_undo12 L hP⟩
  · exact ⟨p80_13 hP, st_undo13 L hP⟩
  · exact ⟨p80_14 hP, st_undo14 L hP⟩
  · exact ⟨p80_15 hP, st_undo15 L hP⟩
  · exact ⟨p80_16 hP, st_undo16 L hP⟩
  · exact ⟨p80_17 hP, st_undo17 L hP⟩
  · exact ⟨p80_18 hP, st_undo18 L hP⟩
  · exact ⟨p80_19 hP, st_undo19 L hP⟩
theorem un_in {L : Nat} {x : Int} (h : 0 ≤ x ∧ x < 20) : 81 ≤ 81 + 6 * x.toNat ∧ 81 + 6 * x.toNat ≤ 195 := by omega
end ZNP
