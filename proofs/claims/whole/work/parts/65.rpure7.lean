section ZR7
theorem RmR.rv {P : zP} {M M' : zM} (hv : RV P M) (h : RmR M M') : RV P M' := by
  obtain ⟨h1, ⟨⟨h2, h3, h4, h5⟩, h6⟩, h7⟩ := hv
  have e := h.2.2.2.2
  have r : ∀ k : Nat, k ≠ 209 → k ≠ 241 → M' k = M k := fun k k1 k2 => funext fun i => e k i k2 (by omega)
  refine ⟨h1, ⟨⟨?_, ⟨LrI_of (r _ (by decide) (by decide)) (r _ (by decide) (by decide)) (r _ (by decide) (by decide)) (r _ (by decide) (by decide)) (r _ (by decide) (by decide)) (r _ (by decide) (by decide)) h3.1, LrI_of (r _ (by decide) (by decide)) (r _ (by decide) (by decide)) (r _ (by decide) (by decide)) (r _ (by decide) (by decide)) (r _ (by decide) (by decide)) (r _ (by decide) (by decide)) h3.2.1, LrI_of (r _ (by decide) (by decide)) (r _ (by decide) (by decide)) (r _ (by decide) (by decide)) (r _ (by decide) (by decide)) (r _ (by decide) (by decide)) (r _ (by decide) (by decide)) h3.2.2⟩, ?_, ?_⟩, ?_⟩, ?_⟩
  · unfold TxI at h2 ⊢
    rw [e 209 12 (by decide) (by omega), e 209 13 (by decide) (by omega), e 209 14 (by decide) (by omega), r 213 (by decide) (by decide), r 215 (by decide) (by decide), r 216 (by decide) (by decide), r 217 (by decide) (by decide), r 218 (by decide) (by decide), r 219 (by decide) (by decide), r 220 (by decide) (by decide), r 221 (by decide) (by decide), r 222 (by decide) (by decide)]
    exact h2
  · unfold SmI at h4 ⊢
    rw [r 233 (by decide) (by decide), r 234 (by decide) (by decide), r 236 (by decide) (by decide), r 238 (by decide) (by decide)]
    exact h4
  · rw [e 209 60 (by decide) (by omega)]; exact h5
  · rw [e 209 54 (by decide) (by omega)]; exact h6
  · rw [r 238 (by decide) (by decide)]; exact h7
/-- the reference's notes -/
def NRI (M : zM) : Prop := (0 ≤ M 209 61 ∧ M 209 61 ≤ 24) ∧ (-1 ≤ M 209 62 ∧ M 209 62 ≤ M 209 61) ∧ ∀ i : Int, 0 ≤ i → i < M 209 61 → (0 ≤ M 239 (4 * i) ∧ M 239 (4 * i) ≤ 2) ∧ (0 ≤ M 239 (4 * i + 1) ∧ M 239 (4 * i + 1) ≤ 99) ∧ (M 239 (4 * i) = 2 → M 239 (4 * i + 1) < i) ∧ (M 239 (4 * i) = 1 → 0 ≤ M 239 (4 * i + 2) ∧ M 239 (4 * i + 2) < 36)
def knb (M : zM) : Int := if M 209 62 < 0 then M 209 61 else M 209 62
theorem knb_in {M : zM} (h : NRI M) : 0 ≤ knb M ∧ knb M ≤ M 209 61 := by
  have h1 := h.1
  have h2 := h.2.1
  unfold knb
  split <;> omega
def lyM (M : zM) (w x y b : Int) : zM := sm (sm (sm (sm (sm M 239 (4 * M 209 61) w) 239 (4 * M 209 61 + 1) x) 239 (4 * M 209 61 + 2) y) 239 (4 * M 209 61 + 3) b) 209 61 (M 209 61 + 1)
/-- the notes that count, in the reference -/
def cntR (M : zM) : Int → Int := stl (fun i => M 239 (4 * i)) (fun i => M 239 (4 * i + 1)) (knb M).toNat (fun _ => 1)
theorem NRI_of {M0 M : zM} (h1 : M 209 61 = M0 209 61) (h2 : M 209 62 = M0 209 62) (h3 : M 239 = M0 239) (hn : NRI M0) : NRI M := by
  unfold NRI at *
  rw [h1, h2, h3]
  exact hn
/-- a note as the reference holds it against a house -/
def nokR (c : Int → Int) (M : zM) (h i : Int) : Int := if c i ≠ 0 ∧ M 239 (4 * i) = 0 ∧ ¬ (zsnd (M 220) (M 221) (M 222) h (M 239 (4 * i + 1)) (M 209 14).toNat 0 = M 239 (4 * i + 2) ↔ M 239 (4 * i + 3) = 1) then 0 else 1
def andF (f : Int → Int) : Nat → Int → Int → Int
  | 0, _, acc => acc
  | n + 1, i, acc => andF f n (i + 1) (if acc ≠ 0 ∧ f i ≠ 0 then 1 else if f i ≠ 0 then acc else 0)
theorem andF_zall (f : Int → Int) : ∀ (n : Nat) (i : Int), andF f n i 1 = zall f n i ∧ andF f n i 0 = 0
  | 0, i => ⟨rfl, rfl⟩
  | n + 1, i => by
    have ih := andF_zall f n (i + 1)
    unfold andF zall
    by_cases c : f i = 0
    · rw [if_neg (by omega), if_neg (by omega), if_pos c, if_neg (by omega), if_neg (by omega)]
      exact ⟨ih.2, ih.2⟩
    · rw [if_pos (by omega), if_neg c, if_neg (by omega), if_pos c]
      exact ih
def whR (M : zM) : Int := zbits (fun h => zall (nokR (cntR M) M h) (knb M).toNat 0) (M 209 12).toNat 0 0
def maR (M : zM) (st9 x : Int) : Int := zmx (fun kd => zsm (fun j => if kbit st9 j = 1 ∧ zsnd (M 220) (M 221) (M 222) j x (M 209 14).toNat 0 = kd then 1 else 0) (M 209 12).toNat 0 0) 10 0 0
theorem maR_in {M : zM} (hI : TxI M) (st9 x : Int) : 0 ≤ maR M st9 x ∧ maR M st9 x ≤ 6 := by
  have q := hI.1
  refine zmx_in (b := 6) (fun kd => ?_) 10 0 0 (by omega)
  have := zsm01 (fun j => kbit st9 j = 1 ∧ zsnd (M 220) (M 221) (M 222) j x (M 209 14).toNat 0 = kd) (M 209 12).toNat 0 0
  omega
def akR (f : Int → Int) : Nat → Int → Int → Int
  | 0, _, best => best
  | n + 1, x, best => akR f n (x + 1) (if f x < f best then x else best)
def ctR (M : zM) (w : Int) : Int := if w = 0 then M 209 12 else if w = 1 then M 209 13 else if w = 2 then M 209 14 else if w = 3 then M 209 15 else if w = 4 then M 238 0 else if w = 5 then pairsR M 0 else if w = 6 then heardR M 0 else if w = 7 then zsm (M 234) (M 209 12).toNat 0 0 else if w = 8 then M 209 61 else if w = 9 then knb M else if w = 10 then M 209 65 else -1
/-- the bytes of five numbers, in the reference -/
def fdR (a b c d e : Int) : Nat → Int → zM → zM
  | 0, _, M => M
  | n + 1, k, M => fdR a b c d e n (k + 1) (sm M 210 (M 209 1 + k) (b_iand (b_ishr (if k < 4 then a else if k < 8 then b else if k < 12 then c else if k < 16 then d else e) (24 - 8 * k.tmod 4)) 255))
theorem fdR_n (a b c d e : Int) : ∀ (n : Nat) (k : Int) (M : zM) {q : Nat}, q ≠ 210 → fdR a b c d e n k M q = M q
  | 0, k, M, q, _ => rfl
  | n + 1, k, M, q, h => by
    unfold fdR
    rw [fdR_n a b c d e n (k + 1) _ h, sm_n h]
end ZR7
