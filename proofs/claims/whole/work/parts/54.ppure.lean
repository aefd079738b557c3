section ZPP
/-- all but scratch and the guess's dials -/
def Pq (M0 M : zM) : Prop := ∀ k : Nat, ¬ ((51 ≤ k ∧ k ≤ 60) ∨ k = 68) → M k = M0 k
theorem Pq.rf (M : zM) : Pq M M := fun _ _ => rfl
theorem Pq.tr {M0 M1 M2 : zM} (h1 : Pq M0 M1) (h2 : Pq M1 M2) : Pq M0 M2 := fun k h => (h2 k h).trans (h1 k h)
theorem Pq.ec {M0 M1 M2 : zM} (h1 : Pq M0 M1) (h2 : Ec M1 M2) : Pq M0 M2 := fun k h => (h2.row (by omega) (by omega) (by omega)).trans (h1 k h)
theorem Pq.sm {M0 M : zM} (h : Pq M0 M) {k : Nat} (hk : (51 ≤ k ∧ k ≤ 60) ∨ k = 68) (i v : Int) : Pq M0 (sm M k i v) := fun q hq => by rw [sm_n (by omega)]; exact h q hq
/-- the guess's dials are dials -/
def Dk (M : zM) : Prop := ∀ j : Int, 0 ≤ j → j < 6 → 0 ≤ M 68 j ∧ M 68 j ≤ 99
theorem Dk.ec {M0 M : zM} (h : Dk M0) (hE : Ec M0 M) : Dk M := fun j j0 j1 => by rw [hE 68 j (by decide) (by decide) (by omega)]; exact h j j0 j1
theorem Dk.d {M : zM} (h : Dk M) {i v : Int} (hv : 0 ≤ v ∧ v ≤ 99) : Dk (sm M 68 i v) := fun j j0 j1 => by
  rw [sm_k]
  unfold us
  split
  · exact hv
  · exact h j j0 j1
theorem Dk.o {M : zM} (h : Dk M) {k : Nat} (hk : k ≠ 68) (i v : Int) : Dk (sm M k i v) := fun j j0 j1 => by rw [sm_n (fun e => hk e.symm)]; exact h j j0 j1
theorem Pq.ci {M0 M : zM} {t : Nat} (h : Pq M0 M) (hI : CI M0 t 67) (ht : t ≤ 25) (hd : Dk M) : CI M t 67 := by
  obtain ⟨h1, h2, h3, h4⟩ := hI
  unfold CI ToI LwI StI at *
  rw [h t (by omega), h (t + 2) (by omega), h (t + 3) (by omega), h (t + 4) (by omega), h (t + 5) (by omega), h (t + 6) (by omega), h (t + 7) (by omega), h (t + 8) (by omega), h (t + 9) (by omega), h (t + 10) (by omega), h (t + 13) (by omega), h (t + 13 + 1) (by omega), h (t + 15) (by omega), h (t + 15 + 1) (by omega), h (t + 17) (by omega), h (t + 17 + 1) (by omega), h 67 (by omega), h (67 + 2) (by omega), h (67 + 3) (by omega), h (67 + 4) (by omega), h (67 + 5) (by omega), h 50 (by omega)]
  exact ⟨h1, h2, ⟨hd, h3.2⟩, h4⟩
/-- does h hear o when their dials are x and y -/
def hd (M : zM) (t : Nat) (h o x y : Int) : Int := hrv (lwf M (t + 13)) (M 50 1) x y (M (67 + 2) h) (M (67 + 5) (h * 6 + o)) (bcnt (M (67 + 3) h)) (M 67 5)
theorem hd01 (M : zM) (t : Nat) (h o x y : Int) : hd M t h o x y = 0 ∨ hd M t h o x y = 1 := hrv01 _ _ _ _ _ _ _ _
theorem Pq.hr {M0 M : zM} {t : Nat} (h : Pq M0 M) (ht : t ≤ 25) (x y : Int) : hrM M t 67 x y = hd M0 t x y (M 68 x) (M 68 y) := by
  unfold hrM hd lwf
  rw [h (t + 13) (by omega), h (t + 13 + 1) (by omega), h 50 (by omega), h 67 (by omega), h (67 + 2) (by omega), h (67 + 3) (by omega), h (67 + 5) (by omega)]
/-- 1 if some place has not 0 -/
def zex (f : Int → Int) : Nat → Int → Int
  | 0, _ => 0
  | n + 1, i => if f i = 0 then zex f n (i + 1) else 1
theorem zex01 (f : Int → Int) : ∀ (n : Nat) (i : Int), zex f n i = 0 ∨ zex f n i = 1
  | 0, i => Or.inl rfl
  | n + 1, i => by
    unfold zex
    split
    · exact zex01 f n (i + 1)
    · exact Or.inr rfl
/-- has h at the dial x to do with any but b -/
def mtf (M : zM) (t : Nat) (h b x i : Int) : Int := if i = h ∨ i = b then 0 else if hd M t h i x (M 68 i) ≠ 0 ∨ hd M t i h (M 68 i) x ≠ 0 then 1 else 0
def mtV (M : zM) (t : Nat) (h b x : Int) : Int := zex (mtf M t h b x) (M t 2).toNat 0
/-- hidden at x -/
def hidV (M : zM) (t : Nat) (h x : Int) : Int := if 0 ≤ x ∧ x ≤ 99 ∧ mtV M t h h x = 0 then 1 else 0
def fhF (f : Int → Int) (d : Int) : Nat → Int → Int
  | 0, _ => -2
  | n + 1, s => if f (d - s) ≠ 0 then d - s else if f (d + s) ≠ 0 then d + s else fhF f d n (s + 1)
/-- lured to x -/
def luB (M : zM) (t : Nat) (h x : Int) : Int := zbits (fun i => if i = h then 0 else hd M t i h (M 68 i) x) (M t 2).toNat 0 0
def luV (M : zM) (t : Nat) (h o x : Int) : Int := if 0 ≤ x ∧ x ≤ 99 then (if kbit (luB M t h x) o = 1 then bcnt (luB M t h x) else 7) else 7
def flF (f : Int → Int) (d : Int) : Nat → Int → Int → Int → Int
  | 0, _, best, _ => best
  | n + 1, s, best, least => if least ≤ 1 then best else
      flF f d n (s + 1) (if f (d + s) < (if f (d - s) < least then f (d - s) else least) then d + s else if f (d - s) < least then d - s else best) (if f (d + s) < (if f (d - s) < least then f (d - s) else least) then f (d + s) else if f (d - s) < least then f (d - s) else least)
/-- private at x and y -/
def prV (M : zM) (t : Nat) (h o x y : Int) : Int := if 0 ≤ y ∧ y ≤ 99 ∧ mtV M t o h y = 0 ∧ hd M t h o x y ≠ 0 ∧ hd M t o h y x ≠ 0 then 1 else 0
/-- the first dial from x on that goes with s steps, and the other's -/
def fpI (M : zM) (t : Nat) (h o d e s : Int) : Nat → Int → Option (Int × Int)
  | 0, _ => none
  | n + 1, x => if mtV M t h o x = 0 ∧ prV M t h o x (e - (s - iabs (x - d))) ≠ 0 then some (x, e - (s - iabs (x - d)))
      else if mtV M t h o x = 0 ∧ prV M t h o x (e + (s - iabs (x - d))) ≠ 0 then some (x, e + (s - iabs (x - d)))
      else fpI M t h o d e s n (x + 1)
def fpO (M : zM) (t : Nat) (h o d e : Int) : Nat → Int → Option (Int × Int × Int)
  | 0, _ => none
  | n + 1, s => match fpI M t h o d e s ((if d + s < 99 then d + s else 99) - (if 0 < d - s then d - s else 0) + 1).toNat (if 0 < d - s then d - s else 0) with
    | some p => some (p.1, p.2, s)
    | none => fpO M t h o d e n (s + 1)
/-- apart at the dials 11 i and 11 k -/
def apV (M : zM) (t : Nat) (a b i k : Int) : Int := if hd M t a b (i * 11) (k * 11) = 0 ∧ hd M t b a (k * 11) (i * 11) = 0 then 1 else 0
end ZPP
