section ZQ3
theorem NI_of {M0 M : zM} (h : ∀ k : Nat, 201 ≤ k → k ≤ 205 → M k = M0 k) (hn : NI M0) : NI M := by
  unfold NI at *
  rw [h 201 (by omega) (by omega), h 202 (by omega) (by omega), h 203 (by omega) (by omega), h 204 (by omega) (by omega), h 205 (by omega) (by omega)]
  exact hn
theorem nok_eq {M0 M : zM} {t : Nat} (ht : t ≤ 25) (h : ∀ k : Nat, k ≤ 45 ∨ (201 ≤ k ∧ k ≤ 206) → M k = M0 k) {c : Int → Int} {x i : Int} (hi : M 207 i = c i) : nok M t x i = nokF c M0 t x i := by
  unfold nok nokF
  rw [hi, h 202 (by omega), h 203 (by omega), h 204 (by omega), h 206 (by omega), h t (by omega), h (t + 7) (by omega), h (t + 8) (by omega), h (t + 9) (by omega)]
theorem sok_eq {M0 M Mp : zM} (h : ∀ k : Nat, 201 ≤ k ∧ k ≤ 206 → M k = M0 k) {c : Int → Int} {a : Nat} {x i : Int} (hi : M 207 i = c i) (hp : M (a + 3) = Mp (a + 3)) : sok M a x i = sokF c M0 Mp a x i := by
  unfold sok sokF
  rw [hi, h 202 (by omega), h 203 (by omega), h 204 (by omega), h 205 (by omega), h 206 (by omega), hp]
theorem lsF_eq {M0 M : zM} (h : ∀ k : Nat, 201 ≤ k ∧ k ≤ 206 → M k = M0 k) {c : Int → Int} : ∀ (n : Nat) (i acc : Int), (∀ j, i ≤ j → j < i + n → M 207 j = c j) → lsF M n i acc = lsG c M0 n i acc
  | 0, i, acc, _ => rfl
  | n + 1, i, acc, hc => by
    unfold lsF lsG
    rw [hc i (by omega) (by omega), h 202 (by omega), h 203 (by omega)]
    exact lsF_eq h n (i + 1) _ (fun j j0 j1 => hc j (by omega) (by omega))
/-- the guess begins as the text tells, with near k; hours as they go -/
def NbR (t : Nat) (M0 : zM) (k : Int) (Mb : zM) : Prop := (∀ j : Int, 0 ≤ j → j < 6 → Mb 68 j = (if j < M0 t 2 then M0 (t + 2) j else 0) ∧ Mb 69 j = (if j < M0 t 2 then M0 (t + 3) j else 0) ∧ Mb 70 j = 0 ∧ Mb 71 j = 0) ∧ (∀ j : Int, 0 ≤ j → j < 36 → Mb 72 j = 0) ∧ Mb 67 5 = 0 ∧ Cq M0 Mb ∧ (Mb 50 1 = k ∧ Mb 50 2 = (if 50 ≤ M0 (t + 10) 2 then 1 else 0) ∧ Mb 50 3 = 1 ∧ Mb 50 4 = 1 ∧ Mb 50 5 = -1 ∧ Mb 67 6 = M0 (t + 10) 3)
def niF (c : Int → Int) (M0 : zM) (t : Nat) : Nat → Int → Int → zM → Int
  | 0, _, so, _ => so
  | n + 1, i, so, Mp => if so = 0 then so else niF c M0 t n (i + 1) (zall (sokF c M0 (hourM t 67 Mp) 67 i) (M0 201 6).toNat 0) (hourM t 67 Mp)
def nrP (c : Int → Int) (t : Nat) (M0 : zM) (last : Int) : Nat → Int → Int → Int → Prop
  | 0, _, acc, r => r = acc
  | n + 1, k, acc, r => ∃ Mb, NbR t M0 k Mb ∧ nrP c t M0 last n (k + 1) (if niF c M0 t last.toNat 1 1 Mb = 0 then acc else kset acc k) r
/-- between the rounds of nears -/
def NdR (c : Int → Int) (t : Nat) (M0 M : zM) : Prop := Cq M0 M ∧ (∀ j : Int, 0 ≤ j → j < M0 201 6 → M 207 j = c j) ∧ (M 50 2 = (if 50 ≤ M0 (t + 10) 2 then 1 else 0) ∧ M 50 3 = 1 ∧ M 50 4 = 1 ∧ M 50 5 = -1)
end ZQ3
