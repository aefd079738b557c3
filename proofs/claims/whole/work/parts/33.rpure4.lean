section ZRS
def nxL (d : Int) : Int := b_land (d * 1103515245 + 12345) 2147483647
theorem nxL_in (d : Int) : 0 ≤ nxL d ∧ nxL d ≤ 2147483647 := by
  unfold nxL b_land
  have h2 : (Int64.ofInt (d * 1103515245 + 12345) &&& Int64.ofInt 2147483647).toInt = ((Int64.ofInt (d * 1103515245 + 12345)).toBitVec &&& (Int64.ofInt 2147483647).toBitVec).toInt := rfl
  rw [h2, BitVec.toInt_eq_toNat_of_msb]
  · rw [BitVec.toNat_and, show (Int64.ofInt 2147483647).toBitVec.toNat = 2147483647 from by decide]
    have := @Nat.and_le_right ((Int64.ofInt (d * 1103515245 + 12345)).toBitVec.toNat) 2147483647
    omega
  · rw [BitVec.msb_and, show (Int64.ofInt 2147483647).toBitVec.msb = false from by decide, Bool.and_false]
theorem nxL_r (d : Int) : inR (((nxL d).tdiv 65536).tmod 100) := by
  have qn := nxL_in d
  have qd : 0 ≤ (nxL d).tdiv 65536 := by rw [Int.tdiv_eq_ediv_of_nonneg qn.1]; omega
  rw [Int.tmod_eq_emod_of_nonneg qd]
  exact ⟨by omega, by omega⟩
/-- the reference's draw: what is drawn, and whether a valve fades -/
def fmR (M : zM) : zM := if M 209 56 = 0 ∧ M 213 2 ≠ 0 ∧ M 213 2 ≠ 100 ∧ M 209 55 ≠ 0 then sm M 209 54 (nxL (M 209 54)) else M
def fcR (M : zM) : Int := if M 209 56 ≠ 0 ∨ M 213 2 = 0 then 0 else if M 213 2 = 100 then 1 else if M 209 55 ≠ 0 then (if ((nxL (M 209 54)).tdiv 65536).tmod 100 < M 213 2 then 1 else 0) else (if 50 ≤ M 213 2 then 1 else 0)
def hearR (M : zM) (b h y kd : Int) : zM := sm (sm M 236 (36 * b + 6 * h + y) (if M 236 (36 * b + 6 * h + y) < 999 then M 236 (36 * b + 6 * h + y) + 1 else 999)) 235 (6 * b + h) kd
def learnR (M : zM) (b h y kd : Int) : zM := if ndR (hearR M b h y kd) b h y kd ≤ hearR M b h y kd 236 (36 * b + 6 * h + y) then sm (hearR M b h y kd) 237 (36 * b + 6 * h + y) 1 else hearR M b h y kd
def sdR (b y kd : Int) : Nat → Int → zM → Int → zM × Int
  | 0, _, M, acc => (M, acc)
  | n + 1, i, M, acc => if hrR M b i y = 0 then sdR b y kd n (i + 1) M acc else sdR b y kd n (i + 1) (learnR M b i y kd) (kset acc i)
/-- only the state b of the reference, and what is drawn, are changed -/
def Fb (b : Int) (M0 M : zM) : Prop := ∀ (k : Nat) (i : Int), ¬ (k = 209 ∧ i = 54) → ¬ ((k = 233 ∨ k = 234 ∨ k = 235) ∧ 6 * b ≤ i ∧ i < 6 * b + 6) → ¬ ((k = 236 ∨ k = 237) ∧ 36 * b ≤ i ∧ i < 36 * b + 36) → ¬ (k = 238 ∧ i = b) → M k i = M0 k i
theorem Fb.rf (b : Int) (M : zM) : Fb b M M := fun _ _ _ _ _ _ => rfl
theorem Fb.tr {b : Int} {M0 M1 M2 : zM} (h1 : Fb b M0 M1) (h2 : Fb b M1 M2) : Fb b M0 M2 := fun k i a c d e => (h2 k i a c d e).trans (h1 k i a c d e)
theorem Fb.sm {b : Int} {M0 M : zM} (h : Fb b M0 M) {k : Nat} {i : Int} (v : Int) (hk : (k = 209 ∧ i = 54) ∨ ((k = 233 ∨ k = 234 ∨ k = 235) ∧ 6 * b ≤ i ∧ i < 6 * b + 6) ∨ ((k = 236 ∨ k = 237) ∧ 36 * b ≤ i ∧ i < 36 * b + 36) ∨ (k = 238 ∧ i = b)) : Fb b M0 (sm M k i v) := fun q j a c d e => by
  by_cases e1 : q = k
  · subst e1
    rw [sm_k]
    unfold us
    split
    · rename_i e2
      subst e2
      omega
    · exact h q j a c d e
  · rw [sm_n e1]; exact h q j a c d e
theorem Fb.row {b : Int} {M0 M : zM} (h : Fb b M0 M) {k : Nat} (hk : k ≠ 209 ∧ k < 233 ∨ 238 < k) : M k = M0 k := funext fun i => h k i (by omega) (by omega) (by omega) (by omega)
theorem Fb.c {b : Int} {M0 M : zM} (h : Fb b M0 M) {i : Int} (hi : i ≠ 54) : M 209 i = M0 209 i := h 209 i (by omega) (by omega) (by omega) (by omega)
theorem Fb.lri {b : Int} {M0 M : zM} (h : Fb b M0 M) {w : Int} (hI : LrI M0 w) : LrI M w := LrI_of (h.row (by omega)) (h.row (by omega)) (h.row (by omega)) (h.row (by omega)) (h.row (by omega)) (h.row (by omega)) hI
theorem Fb.txi {b : Int} {M0 M : zM} (h : Fb b M0 M) (hI : TxI M0) : TxI M := by
  unfold TxI at hI ⊢
  rw [h.c (i := 12) (by decide), h.c (i := 13) (by decide), h.c (i := 14) (by decide), h.row (k := 213) (by omega), h.row (k := 215) (by omega), h.row (k := 216) (by omega), h.row (k := 217) (by omega), h.row (k := 218) (by omega), h.row (k := 219) (by omega), h.row (k := 220) (by omega), h.row (k := 221) (by omega), h.row (k := 222) (by omega)]
  exact hI
theorem Fb.ri {b : Int} {M0 M : zM} (h : Fb b M0 M) (hI : RI M0 b) (hs : SmI M b) : RI M b := ⟨h.txi hI.1, ⟨h.lri hI.2.1.1, h.lri hI.2.1.2.1, h.lri hI.2.1.2.2⟩, hs, by rw [h.c (by decide)]; exact hI.2.2.2⟩
theorem SmI.d {M : zM} {b : Int} (h : SmI M b) {i v : Int} (hv : 0 ≤ v ∧ v ≤ 99) : SmI (sm M 233 i v) b := by
  refine ⟨fun j j0 j1 => ?_, fun j j0 j1 => by rw [sm_n (by decide)]; exact h.2.1 j j0 j1, fun j j0 j1 => by rw [sm_n (by decide)]; exact h.2.2.1 j j0 j1, by rw [sm_n (by decide)]; exact h.2.2.2⟩
  rw [sm_k]; unfold us; split
  · exact hv
  · exact h.1 j j0 j1
theorem SmI.g {M : zM} {b : Int} (h : SmI M b) {i v : Int} (hv : 0 ≤ v ∧ v ≤ 9) : SmI (sm M 234 i v) b := by
  refine ⟨fun j j0 j1 => by rw [sm_n (by decide)]; exact h.1 j j0 j1, fun j j0 j1 => ?_, fun j j0 j1 => by rw [sm_n (by decide)]; exact h.2.2.1 j j0 j1, by rw [sm_n (by decide)]; exact h.2.2.2⟩
  rw [sm_k]; unfold us; split
  · exact hv
  · exact h.2.1 j j0 j1
theorem SmI.t {M : zM} {b : Int} (h : SmI M b) {i v : Int} (hv : 0 ≤ v ∧ v ≤ 999) : SmI (sm M 236 i v) b := by
  refine ⟨fun j j0 j1 => by rw [sm_n (by decide)]; exact h.1 j j0 j1, fun j j0 j1 => by rw [sm_n (by decide)]; exact h.2.1 j j0 j1, fun j j0 j1 => ?_, by rw [sm_n (by decide)]; exact h.2.2.2⟩
  rw [sm_k]; unfold us; split
  · exact hv
  · exact h.2.2.1 j j0 j1
theorem SmI.o {M : zM} {b : Int} (h : SmI M b) {k : Nat} {i v : Int} (hk : k ≠ 233 ∧ k ≠ 234 ∧ k ≠ 236 ∧ k ≠ 238) : SmI (sm M k i v) b := by
  refine ⟨fun j j0 j1 => by rw [sm_n (by omega)]; exact h.1 j j0 j1, fun j j0 j1 => by rw [sm_n (by omega)]; exact h.2.1 j j0 j1, fun j j0 j1 => by rw [sm_n (by omega)]; exact h.2.2.1 j j0 j1, by rw [sm_n (by omega)]; exact h.2.2.2⟩
theorem SmI.hh {M : zM} {b : Int} (h : SmI M b) {v : Int} (hv : 0 ≤ v ∧ v ≤ 9999) : SmI (sm M 238 b v) b := by
  refine ⟨fun j j0 j1 => by rw [sm_n (by decide)]; exact h.1 j j0 j1, fun j j0 j1 => by rw [sm_n (by decide)]; exact h.2.1 j j0 j1, fun j j0 j1 => by rw [sm_n (by decide)]; exact h.2.2.1 j j0 j1, by rw [sm_s]; exact hv⟩
theorem hearR_Fb (M : zM) {b h y : Int} (kd : Int) (hh : 0 ≤ h ∧ h < 6) (hy : 0 ≤ y ∧ y < 6) : Fb b M (hearR M b h y kd) := ((Fb.rf b M).sm _ (by omega)).sm _ (by omega)
theorem hearR_I {M : zM} {b h y kd : Int} (hI : SmI M b) (hh : 0 ≤ h ∧ h < 6) (hy : 0 ≤ y ∧ y < 6) : SmI (hearR M b h y kd) b := by
  unfold hearR
  refine (hI.t ?_).o (by omega)
  have q := hI.2.2.1 (6 * h + y) (by omega) (by omega)
  rw [show 36 * b + (6 * h + y) = 36 * b + 6 * h + y by omega] at q
  split <;> omega
theorem learnR_Fb (M : zM) {b h y : Int} (kd : Int) (hh : 0 ≤ h ∧ h < 6) (hy : 0 ≤ y ∧ y < 6) : Fb b M (learnR M b h y kd) := by
  unfold learnR
  split
  · exact (hearR_Fb M kd hh hy).sm _ (by omega)
  · exact hearR_Fb M kd hh hy
theorem learnR_I {M : zM} {b h y kd : Int} (hI : SmI M b) (hh : 0 ≤ h ∧ h < 6) (hy : 0 ≤ y ∧ y < 6) : SmI (learnR M b h y kd) b := by
  unfold learnR
  split
  · exact (hearR_I hI hh hy).o (by omega)
  · exact hearR_I hI hh hy
theorem sdR_Fb {b y : Int} (kd : Int) (hy : 0 ≤ y ∧ y < 6) : ∀ (n : Nat) (i : Int) (M : zM) (acc : Int), 0 ≤ i → i + n ≤ 6 → Fb b M (sdR b y kd n i M acc).1
  | 0, i, M, acc, _, _ => Fb.rf b M
  | n + 1, i, M, acc, h0, h1 => by
    unfold sdR
    split
    · exact sdR_Fb kd hy n (i + 1) M acc (by omega) (by omega)
    · exact (learnR_Fb M kd ⟨by omega, by omega⟩ hy).tr (sdR_Fb kd hy n (i + 1) _ _ (by omega) (by omega))
theorem sdR_I {b y : Int} (kd : Int) (hy : 0 ≤ y ∧ y < 6) : ∀ (n : Nat) (i : Int) (M : zM) (acc : Int), SmI M b → 0 ≤ i → i + n ≤ 6 → SmI (sdR b y kd n i M acc).1 b
  | 0, i, M, acc, h, _, _ => h
  | n + 1, i, M, acc, h, h0, h1 => by
    unfold sdR
    split
    · exact sdR_I kd hy n (i + 1) M acc h (by omega) (by omega)
    · exact sdR_I kd hy n (i + 1) _ _ (learnR_I h ⟨by omega, by omega⟩ hy) (by omega) (by omega)
theorem Es.hear {M0 M : zM} (h : Es M0 M) (b x y kd : Int) : Es (hearR M0 b x y kd) (hearR M b x y kd) := by
  unfold hearR
  rw [h.row (k := 236) (by decide) (by decide) (by decide)]
  exact (h.sm2 _ _ _).sm2 _ _ _
theorem sdR_cong (b y kd : Int) : ∀ (n : Nat) (i : Int) (Ma M : zM) (acc : Int), Es Ma M → Es (sdR b y kd n i Ma acc).1 (sdR b y kd n i M acc).1 ∧ (sdR b y kd n i M acc).2 = (sdR b y kd n i Ma acc).2
  | 0, i, Ma, M, acc, h => ⟨h, rfl⟩
  | n + 1, i, Ma, M, acc, h => by
    unfold sdR
    rw [h.hrr]
    split
    · exact sdR_cong b y kd n (i + 1) Ma M acc h
    · refine sdR_cong b y kd n (i + 1) _ _ _ ?_
      have h1 := h.hear b i y kd
      unfold learnR
      rw [h1.ndr, h1.row (k := 236) (by decide) (by decide) (by decide)]
      split
      · exact h1.sm2 _ _ _
      · exact h1
end ZRS
