section ZR6
/-- a state is laid into a row -/
def PutR (q : Nat) (i0 : Int) (M M' : zM) : Prop := (∀ j : Int, 0 ≤ j → j < 6 → M' q (i0 + j) = M 233 j ∧ M' q (i0 + 6 + j) = M 234 j ∧ M' q (i0 + 12 + j) = M 235 j) ∧ (∀ j : Int, 0 ≤ j → j < 36 → M' q (i0 + 18 + j) = M 236 j ∧ M' q (i0 + 54 + j) = M 237 j) ∧ ∀ (k : Nat) (i : Int), ¬ (k = q ∧ i0 ≤ i ∧ i < i0 + 90) → M' k i = M k i
/-- a state is taken from a row -/
def TakR (q : Nat) (i0 : Int) (M M' : zM) : Prop := (∀ j : Int, 0 ≤ j → j < 6 → M' 233 j = M q (i0 + j) ∧ M' 234 j = M q (i0 + 6 + j) ∧ M' 235 j = M q (i0 + 12 + j)) ∧ (∀ j : Int, 0 ≤ j → j < 36 → M' 236 j = M q (i0 + 18 + j) ∧ M' 237 j = if M q (i0 + 54 + j) = 1 then 1 else 0) ∧ ∀ (k : Nat) (i : Int), ¬ ((k = 233 ∨ k = 234 ∨ k = 235) ∧ 0 ≤ i ∧ i < 6) → ¬ ((k = 236 ∨ k = 237) ∧ 0 ≤ i ∧ i < 36) → M' k i = M k i
/-- the slot where the next is remembered -/
def usl (M : zM) : Int := if M 209 65 = 20 then 19 else M 209 65
/-- what is now is remembered -/
def RmR (M M' : zM) : Prop := (∀ j : Int, 0 ≤ j → j < 6 → M' 241 (90 * usl M + j) = M 233 j ∧ M' 241 (90 * usl M + 6 + j) = M 234 j ∧ M' 241 (90 * usl M + 12 + j) = M 235 j) ∧ (∀ j : Int, 0 ≤ j → j < 36 → M' 241 (90 * usl M + 18 + j) = M 236 j ∧ M' 241 (90 * usl M + 54 + j) = M 237 j) ∧ (∀ j : Int, 0 ≤ j → j < 90 * usl M → M' 241 j = if M 209 65 = 20 then M 241 (j + 90) else M 241 j) ∧ M' 209 65 = usl M + 1 ∧ ∀ (k : Nat) (i : Int), k ≠ 241 → ¬ (k = 209 ∧ i = 65) → M' k i = M k i
/-- the first two of the second state -/
def z2iR (M : zM) (a : Int) : Nat → Int → Option Int
  | 0, _ => none
  | n + 1, c => if M 237 (36 + 6 * a + c) ≠ 0 ∧ M 237 (36 + 6 * c + a) ≠ 0 then some (10 * a + c) else z2iR M a n (c + 1)
def z2oR (M : zM) : Nat → Int → Option Int
  | 0, _ => none
  | n + 1, a => match z2iR M a (M 209 12 - (a + 1)).toNat (a + 1) with
    | some r => some r
    | none => z2oR M n (a + 1)
def fsG (w : Int) : Nat → Int → zM → Int
  | 0, _, _ => -2
  | n + 1, k, Mp => match z2oR Mp (Mp 209 12).toNat 0 with
    | some r => if w = 0 then k else r
    | none => fsG w n (k + 1) (hourR 1 Mp)
def nhG (b i : Int) : Nat → Int → zM → Int
  | 0, _, _ => -2
  | n + 1, k, Mp => if b < hourR 1 Mp 236 i then k else nhG b i n (k + 1) (hourR 1 Mp)
/-- law, as the reference answers -/
def lwR (M : zM) (w h o : Int) : Int := if ¬ (0 ≤ w ∧ w ≤ 2 ∧ M 223 w ≠ 0 ∧ 0 ≤ h ∧ h < M 209 12 ∧ (w = 2 ∨ two (M 209 12) h o)) then -9223372036854775808 else if w = 2 then lval (rlf M w (nmf (M 233 (6 * 0 + h)) (M 234 (6 * 0 + h)) 0 0 0 (kmM M 0 h) (M 238 0))) else lval (rlf M w (nmf (M 233 (6 * 0 + h)) (M 234 (6 * 0 + h)) (iabs (M 233 (6 * 0 + h) - M 233 (6 * 0 + o))) 0 (M 236 (36 * 0 + 6 * h + o)) (kmM M 0 h) (M 238 0)))
/-- plainly tried -/
def Pb (M M' : zM) : Prop := Pf M M' ∧ Rq M M'
theorem ptM_pb {M Mt : zM} (h : Rn M Mt) : Pb M (ptM Mt) := ⟨by have z := ptM_f Mt; rw [h.1 213 0 (by omega)] at z; exact z, h.1.tr (fun k i hk => ptM_n Mt k i (by omega))⟩
theorem Pb.rn {P : zP} {M M' : zM} (hv : RV P M) (h : Pb M M') : Rn M M' := ⟨h.2, by rw [h.1.2.2.2.2.2]; exact hv.2.1.1.1.2.2.2.2.2.2.2.1⟩
def hsR (Mb : zM) (w h : Int) : Int := if w = 0 then Mb 233 h else if w = 1 then Mb 234 h else if w = 2 then hbR Mb 0 h else if w = 3 then hoR Mb 0 h else if w = 4 then knR Mb 0 h else if w = 5 then kwR Mb 0 h else Mb 235 h
/-- the reference's undos and image -/
def UR (M : zM) : Prop := (0 ≤ M 209 65 ∧ M 209 65 ≤ 20)
end ZR6
