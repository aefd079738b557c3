section ZQP
def pairsC (M : zM) (a : Nat) : Int := zsm (fun j => bcnt (M (a + 3) j)) 6 0 0
def heardC (M : zM) (a : Nat) : Int := zsm (M (a + 5)) 36 0 0
/-- ahead: what is asked, of now in M and of the guess in Mp -/
def ahv (M Mp : zM) (w h : Int) : Int := if w = 0 then pairsC Mp 67 - pairsC M 61 else if w = 1 then heardC Mp 67 - heardC M 61 else if w = 2 then Mp 68 h else Mp 69 h
theorem z2in_in (f : Int → Int) (one : Int) : ∀ (n : Nat) (j r : Int), 0 ≤ one → one ≤ 5 → 0 ≤ j → j + n ≤ 6 → z2in f one n j = some r → 0 ≤ r ∧ r ≤ 55
  | 0, j, r, _, _, _, _, h => by simp [z2in] at h
  | n + 1, j, r, o0, o1, h0, h1, h => by
    unfold z2in at h
    split at h
    · simp only [Option.some.injEq] at h
      omega
    · exact z2in_in f one n (j + 1) r o0 o1 (by omega) (by omega) h
theorem z2out_in (f : Int → Int) {N : Int} (hN : N ≤ 6) : ∀ (n : Nat) (i : Int), 0 ≤ i → i + n ≤ N → -1 ≤ z2out f N n i ∧ z2out f N n i ≤ 55
  | 0, i, _, _ => by simp [z2out]
  | n + 1, i, h0, h1 => by
    unfold z2out
    split
    · rename_i r e
      have := z2in_in f i _ _ r (by omega) (by omega) (by omega) (by omega) e
      omega
    · exact z2out_in f hN n (i + 1) (by omega) (by omega)
/-- the first two of the guess -/
def ftC (M : zM) (t : Nat) : Int := z2out (M (67 + 3)) (M t 2) (M t 2).toNat 0
def fsF (t : Nat) : Nat → Int → zM → Int × Int
  | 0, k, Mp => (k, ftC Mp t)
  | n + 1, k, Mp => if ftC Mp t = -1 then fsF t n (k + 1) (hourM t 67 Mp) else (k, ftC Mp t)
def fsR (w : Int) (p : Int × Int) : Int := if p.2 = -1 then -2 else if w = 0 then p.1 else p.2
def nhF (t : Nat) (b i : Int) : Nat → Int → zM → Int
  | 0, _, _ => -2
  | n + 1, k, Mp => if b < hourM t 67 Mp (67 + 5) i then k else nhF t b i n (k + 1) (hourM t 67 Mp)
/-- the guess is as now, but for the number; hours are drawn -/
def DgR (t : Nat) (M : zM) (x : Int) (M' : zM) : Prop := (∀ j : Int, 0 ≤ j → j < 6 → M' 68 j = M 62 j ∧ M' 69 j = M 63 j ∧ M' 70 j = M 64 j ∧ M' 71 j = M 65 j) ∧ (∀ j : Int, 0 ≤ j → j < 36 → M' 72 j = M 66 j) ∧ M' 67 5 = M 61 5 ∧ M' 67 6 = x ∧ Cn t M M' ∧ (M' 50 2 = (if M (t + 10) 2 = 0 then 0 else if M (t + 10) 2 = 100 then 1 else 2) ∧ M' 50 3 = 1 ∧ M' 50 4 = 1 ∧ M' 50 5 = -1)
/-- chance, as rounds -/
def chP (t : Nat) (M : zM) (nn : Nat) (h o : Int) : Nat → Int → Int → Int → Prop
  | 0, _, acc, r => r = acc
  | n + 1, x, acc, r => ∃ M1, DgR t M x M1 ∧ chP t M nn h o n (passM t 67 nn M1 67 6) (if kbit (passM t 67 nn M1 (67 + 3) h) o = 0 then acc else acc + 1) r
/-- how a guess is tried -/
def trM (w i hs : Int) (M : zM) : zM := if w = 0 then sm M 50 2 0 else if w = 1 then sm M 50 3 0 else if w = 2 then sm M 50 5 i else if w = 3 then sgM 67 hs.toNat 0 M else sm M 50 4 0
def kwC (M : zM) (a : Nat) (h : Int) : Int := zbits (fun j => kbit (M (a + 3) j) h) 6 0 0
def cdF (t : Nat) (h wd : Int) : Nat → Int → zM → Int
  | 0, _, _ => -2
  | n + 1, k, Mp => if kwC Mp 67 h = wd then k else cdF t h wd n (k + 1) (sdM t 67 h 1 (Mp t 2).toNat 0 Mp 0).1
theorem zbits_in (f : Int → Int) : ∀ (n : Nat) (i acc : Int), 0 ≤ i → i + n ≤ 6 → 0 ≤ acc ∧ acc ≤ 63 → 0 ≤ zbits f n i acc ∧ zbits f n i acc ≤ 63
  | 0, i, acc, _, _, h => h
  | n + 1, i, acc, h0, h1, h => by
    unfold zbits
    refine zbits_in f n (i + 1) _ (by omega) (by omega) ?_
    split
    · exact h
    · exact kset_in h ⟨by omega, by omega⟩
end ZQP
