section ZRT
def tdR (b : Int) : Nat → Int → zM → zM
  | 0, _, M => M
  | n + 1, i, M => tdR b n (i + 1) (if M 218 i = M 238 b then sm M 233 (6 * b + M 217 i) (M 219 i) else M)
def srR (b : Int) : Nat → Int → zM → zM
  | 0, _, M => M
  | n + 1, i, M => srR b n (i + 1) (if M 221 i = M 238 b ∧ M 220 i ≠ M 209 59 then (sdR b (M 220 i) (M 222 i) (M 209 12).toNat 0 M 0).1 else M)
def drvR (M : zM) (b i : Int) : Int := ct (M 233 (6 * b + i) + lawE (rlf M 2 (nmf (M 233 (6 * b + i)) (M 234 (6 * b + i)) 0 0 0 (kmM M b i) (M 238 b))) 0 (-9) 9) 0 99
def drR (b : Int) : Nat → Int → zM → zM
  | 0, _, M => M
  | n + 1, i, M => drR b n (i + 1) (sm M 233 (6 * b + i) (drvR M b i))
def fvR (b : Int) : Nat → Int → zM → zM
  | 0, _, M => M
  | n + 1, i, M => fvR b n (i + 1) (if fcR M ≠ 0 ∧ 0 < M 234 (6 * b + i) then sm (fmR M) 234 (6 * b + i) (M 234 (6 * b + i) - 1) else fmR M)
def hrR1 (b : Int) (M : zM) : zM := if M 209 58 = 0 then tdR b (M 209 13).toNat 0 M else M
def hrR2 (b : Int) (M : zM) : zM := srR b (M 209 14).toNat 0 (hrR1 b M)
def hrR3 (b : Int) (M : zM) : zM := if M 209 57 = 0 then drR b (M 209 12).toNat 0 (hrR2 b M) else hrR2 b M
def hrR4 (b : Int) (M : zM) : zM := fvR b (M 209 12).toNat 0 (hrR3 b M)
def hourR (b : Int) (M : zM) : zM := sm (hrR4 b M) 238 b (M 238 b + 1)
def goR (b : Int) : Nat → zM → zM
  | 0, M => M
  | n + 1, M => goR b n (hourR b M)
/-- with what is drawn within its range -/
def RJ (M : zM) (b : Int) : Prop := RI M b ∧ (0 ≤ M 209 54 ∧ M 209 54 ≤ 2147483647)
theorem Es.rj {M0 M : zM} (h : Es M0 M) {b : Int} (hI : RJ M0 b) : RJ M b := ⟨h.ri hI.1, by rw [h 209 54 (by decide) (by decide) (by omega)]; exact hI.2⟩
theorem tdR_Fb {b : Int} : ∀ (n : Nat) (i : Int) (M : zM), TxI M → 0 ≤ i → i + n ≤ 10 → Fb b M (tdR b n i M)
  | 0, i, M, _, _, _ => Fb.rf b M
  | n + 1, i, M, h, h0, h1 => by
    unfold tdR
    have q := h.2.2.2.2.2.1 i h0 (by omega)
    split
    · have f := (Fb.rf b M).sm (k := 233) (i := 6 * b + M 217 i) (M 219 i) (by omega)
      exact f.tr (tdR_Fb n (i + 1) _ (f.txi h) (by omega) (by omega))
    · exact tdR_Fb n (i + 1) M h (by omega) (by omega)
theorem tdR_I {b : Int} : ∀ (n : Nat) (i : Int) (M : zM), TxI M → SmI M b → 0 ≤ i → i + n ≤ 10 → SmI (tdR b n i M) b ∧ (tdR b n i M) 238 = M 238 ∧ (tdR b n i M) 209 = M 209
  | 0, i, M, _, h, _, _ => ⟨h, rfl, rfl⟩
  | n + 1, i, M, h, hs, h0, h1 => by
    unfold tdR
    have q := h.2.2.2.2.2.1 i h0 (by omega)
    split
    · have f := (Fb.rf b M).sm (k := 233) (i := 6 * b + M 217 i) (M 219 i) (by omega)
      have := tdR_I n (i + 1) _ (f.txi h) (hs.d q.2.2) (by omega) (by omega)
      rw [sm_n (by decide), sm_n (by decide)] at this
      exact this
    · exact tdR_I n (i + 1) M h hs (by omega) (by omega)
theorem tdR_cong (b : Int) : ∀ (n : Nat) (i : Int) (Ma M : zM), Es Ma M → Es (tdR b n i Ma) (tdR b n i M)
  | 0, i, Ma, M, h => h
  | n + 1, i, Ma, M, h => by
    unfold tdR
    rw [h.row (k := 218) (by decide) (by decide) (by decide), h.row (k := 238) (by decide) (by decide) (by decide), h.row (k := 217) (by decide) (by decide) (by decide), h.row (k := 219) (by decide) (by decide) (by decide)]
    split
    · exact tdR_cong b n (i + 1) _ _ (h.sm2 _ _ _)
    · exact tdR_cong b n (i + 1) _ _ h
theorem hearR_c (M : zM) (b h y kd : Int) : hearR M b h y kd 238 = M 238 ∧ hearR M b h y kd 209 = M 209 := by unfold hearR; exact ⟨by rw [sm_n (by decide), sm_n (by decide)], by rw [sm_n (by decide), sm_n (by decide)]⟩
theorem learnR_c (M : zM) (b h y kd : Int) : learnR M b h y kd 238 = M 238 ∧ learnR M b h y kd 209 = M 209 := by
  have := hearR_c M b h y kd
  unfold learnR
  split
  · exact ⟨by rw [sm_n (by decide)]; exact this.1, by rw [sm_n (by decide)]; exact this.2⟩
  · exact this
theorem sdR_c (b y kd : Int) : ∀ (n : Nat) (i : Int) (M : zM) (acc : Int), (sdR b y kd n i M acc).1 238 = M 238 ∧ (sdR b y kd n i M acc).1 209 = M 209
  | 0, i, M, acc => ⟨rfl, rfl⟩
  | n + 1, i, M, acc => by
    unfold sdR
    split
    · exact sdR_c b y kd n (i + 1) M acc
    · have h1 := sdR_c b y kd n (i + 1) (learnR M b i y kd) (kset acc i)
      have h2 := learnR_c M b i y kd
      exact ⟨h1.1.trans h2.1, h1.2.trans h2.2⟩
theorem srR_all {b : Int} : ∀ (n : Nat) (i : Int) (M : zM), RI M b → 0 ≤ i → i + n ≤ 12 → Fb b M (srR b n i M) ∧ RI (srR b n i M) b ∧ (srR b n i M) 238 = M 238 ∧ (srR b n i M) 209 = M 209
  | 0, i, M, h, _, _ => ⟨Fb.rf b M, h, rfl, rfl⟩
  | n + 1, i, M, h, h0, h1 => by
    unfold srR
    have q := h.1.2.2.2.2.2.2.1 i h0 (by omega)
    have q1 := h.1.1
    split
    · have f := sdR_Fb (b := b) (y := M 220 i) (M 222 i) ⟨by omega, by omega⟩ (M 209 12).toNat 0 M 0 (by omega) (by omega)
      have s := sdR_I (b := b) (y := M 220 i) (M 222 i) ⟨by omega, by omega⟩ (M 209 12).toNat 0 M 0 h.2.2.1 (by omega) (by omega)
      have c := sdR_c b (M 220 i) (M 222 i) (M 209 12).toNat 0 M 0
      obtain ⟨a1, a2, a3, a4⟩ := srR_all n (i + 1) _ (f.ri h s) (by omega) (by omega)
      exact ⟨f.tr a1, a2, a3.trans c.1, a4.trans c.2⟩
    · exact srR_all n (i + 1) M h (by omega) (by omega)
theorem srR_cong (b : Int) : ∀ (n : Nat) (i : Int) (Ma M : zM), Es Ma M → Es (srR b n i Ma) (srR b n i M)
  | 0, i, Ma, M, h => h
  | n + 1, i, Ma, M, h => by
    unfold srR
    rw [h.row (k := 221) (by decide) (by decide) (by decide), h.row (k := 238) (by decide) (by decide) (by decide), h.row (k := 220) (by decide) (by decide) (by decide), h.row (k := 222) (by decide) (by decide) (by decide), h 209 59 (by decide) (by decide) (by omega), h 209 12 (by decide) (by decide) (by omega)]
    split
    · exact srR_cong b n (i + 1) _ _ (sdR_cong b _ _ _ _ _ _ _ h).1
    · exact srR_cong b n (i + 1) _ _ h
theorem drR_all {b : Int} : ∀ (n : Nat) (i : Int) (M : zM), RI M b → 0 ≤ i → i + n ≤ 6 → Fb b M (drR b n i M) ∧ RI (drR b n i M) b ∧ (drR b n i M) 238 = M 238 ∧ (drR b n i M) 209 = M 209
  | 0, i, M, h, _, _ => ⟨Fb.rf b M, h, rfl, rfl⟩
  | n + 1, i, M, h, h0, h1 => by
    unfold drR
    have f := (Fb.rf b M).sm (k := 233) (i := 6 * b + i) (drvR M b i) (by omega)
    obtain ⟨a1, a2, a3, a4⟩ := drR_all n (i + 1) _ (f.ri h (h.2.2.1.d (ct_in (by decide)))) (by omega) (by omega)
    exact ⟨f.tr a1, a2, a3.trans (sm_n (by decide)), a4.trans (sm_n (by decide))⟩
theorem drvR_cong {Ma M : zM} (h : Es Ma M) (b i : Int) : drvR M b i = drvR Ma b i := by
  unfold drvR
  rw [h.rlq, h.km, h.row (k := 233) (by decide) (by decide) (by decide), h.row (k := 234) (by decide) (by decide) (by decide), h.row (k := 238) (by decide) (by decide) (by decide)]
theorem fmR_all {b : Int} {M : zM} (h : RJ M b) : Fb b M (fmR M) ∧ RJ (fmR M) b ∧ (fmR M) 238 = M 238 ∧ (∀ i, i ≠ 54 → (fmR M) 209 i = M 209 i) ∧ fmR M 234 = M 234 := by
  unfold fmR
  split
  · have f := (Fb.rf b M).sm (k := 209) (i := 54) (nxL (M 209 54)) (by omega)
    refine ⟨f, ⟨f.ri h.1 (h.1.2.2.1.o (by omega)), by rw [sm_s]; exact nxL_in _⟩, sm_n (by decide), fun i hi => by rw [sm_k, us_n hi], sm_n (by decide)⟩
  · exact ⟨Fb.rf b M, h, rfl, fun _ _ => rfl, rfl⟩
theorem fvR_all {b : Int} : ∀ (n : Nat) (i : Int) (M : zM), RJ M b → 0 ≤ i → i + n ≤ 6 → Fb b M (fvR b n i M) ∧ RJ (fvR b n i M) b ∧ (fvR b n i M) 238 = M 238 ∧ (∀ j, j ≠ 54 → (fvR b n i M) 209 j = M 209 j)
  | 0, i, M, h, _, _ => ⟨Fb.rf b M, h, rfl, fun _ _ => rfl⟩
  | n + 1, i, M, h, h0, h1 => by
    obtain ⟨f1, f2, f3, f4, f5⟩ := fmR_all h
    unfold fvR
    split
    · rename_i c
      have q := h.1.2.2.1.2.1 i h0 (by omega)
      have f := f1.sm (k := 234) (i := 6 * b + i) (M 234 (6 * b + i) - 1) (by omega)
      obtain ⟨a1, a2, a3, a4⟩ := fvR_all n (i + 1) (sm (fmR M) 234 (6 * b + i) (M 234 (6 * b + i) - 1)) ⟨f.ri h.1 (f2.1.2.2.1.g ⟨by omega, by omega⟩), by rw [sm_n (by decide)]; exact f2.2⟩ (by omega) (by omega)
      exact ⟨f.tr a1, a2, a3.trans ((sm_n (by decide)).trans f3), fun j hj => (a4 j hj).trans (by rw [sm_n (by decide)]; exact f4 j hj)⟩
    · obtain ⟨a1, a2, a3, a4⟩ := fvR_all n (i + 1) (fmR M) f2 (by omega) (by omega)
      exact ⟨f1.tr a1, a2, a3.trans f3, fun j hj => (a4 j hj).trans (f4 j hj)⟩
theorem fR_cong {Ma M : zM} (h : Es Ma M) : Es (fmR Ma) (fmR M) ∧ fcR M = fcR Ma := by
  unfold fmR fcR
  rw [h.row (k := 213) (by decide) (by decide) (by decide), h 209 54 (by decide) (by decide) (by omega), h 209 55 (by decide) (by decide) (by omega), h 209 56 (by decide) (by decide) (by omega)]
  refine ⟨?_, rfl⟩
  split
  · exact h.sm2 _ _ _
  · exact h
theorem hrR1_all {b : Int} {M : zM} (h : RJ M b) : Fb b M (hrR1 b M) ∧ RJ (hrR1 b M) b ∧ (hrR1 b M) 238 = M 238 ∧ (hrR1 b M) 209 = M 209 := by
  unfold hrR1
  have q := h.1.1.2.1
  split
  · have f := tdR_Fb (b := b) (M 209 13).toNat 0 M h.1.1 (by omega) (by omega)
    have s := tdR_I (b := b) (M 209 13).toNat 0 M h.1.1 h.1.2.2.1 (by omega) (by omega)
    exact ⟨f, ⟨f.ri h.1 s.1, by rw [s.2.2]; exact h.2⟩, s.2.1, s.2.2⟩
  · exact ⟨Fb.rf b M, h, rfl, rfl⟩
theorem hrR2_all {b : Int} {M : zM} (h : RJ M b) : Fb b M (hrR2 b M) ∧ RJ (hrR2 b M) b ∧ (hrR2 b M) 238 = M 238 ∧ (hrR2 b M) 209 = M 209 := by
  obtain ⟨a1, a2, a3, a4⟩ := hrR1_all h
  have q := h.1.1.2.2.1
  obtain ⟨b1, b2, b3, b4⟩ := srR_all (b := b) (M 209 14).toNat 0 _ a2.1 (by omega) (by omega)
  exact ⟨a1.tr b1, ⟨b2, by unfold hrR2; rw [b4, a4]; exact h.2⟩, b3.trans a3, b4.trans a4⟩
theorem hrR3_all {b : Int} {M : zM} (h : RJ M b) : Fb b M (hrR3 b M) ∧ RJ (hrR3 b M) b ∧ (hrR3 b M) 238 = M 238 ∧ (hrR3 b M) 209 = M 209 := by
  obtain ⟨a1, a2, a3, a4⟩ := hrR2_all h
  have q := h.1.1.1
  unfold hrR3
  split
  · obtain ⟨b1, b2, b3, b4⟩ := drR_all (b := b) (M 209 12).toNat 0 _ a2.1 (by omega) (by omega)
    exact ⟨a1.tr b1, ⟨b2, by rw [b4, a4]; exact h.2⟩, b3.trans a3, b4.trans a4⟩
  · exact ⟨a1, a2, a3, a4⟩
theorem hrR4_all {b : Int} {M : zM} (h : RJ M b) : Fb b M (hrR4 b M) ∧ RJ (hrR4 b M) b ∧ (hrR4 b M) 238 = M 238 ∧ (∀ j, j ≠ 54 → (hrR4 b M) 209 j = M 209 j) := by
  obtain ⟨a1, a2, a3, a4⟩ := hrR3_all h
  have q := h.1.1.1
  obtain ⟨b1, b2, b3, b4⟩ := fvR_all (b := b) (M 209 12).toNat 0 _ a2 (by omega) (by omega)
  exact ⟨a1.tr b1, b2, b3.trans a3, fun j hj => (b4 j hj).trans (by rw [a4])⟩
theorem hourR_all {b : Int} {M : zM} (h : RJ M b) (hh : M 238 b + 1 ≤ 9999) : Fb b M (hourR b M) ∧ RJ (hourR b M) b ∧ hourR b M 238 b = M 238 b + 1 ∧ (∀ j, j ≠ 54 → (hourR b M) 209 j = M 209 j) := by
  obtain ⟨a1, a2, a3, a4⟩ := hrR4_all h
  have q := h.1.2.2.1.2.2.2
  have f := a1.sm (k := 238) (i := b) (M 238 b + 1) (by omega)
  exact ⟨f, ⟨f.ri h.1 (a2.1.2.2.1.hh ⟨by omega, hh⟩), by unfold hourR; rw [sm_n (by decide)]; exact a2.2⟩, by unfold hourR; rw [sm_s], fun j hj => by unfold hourR; rw [sm_n (by decide)]; exact a4 j hj⟩
theorem goR_all {b : Int} : ∀ (n : Nat) (M : zM), RJ M b → M 238 b + n ≤ 9999 → Fb b M (goR b n M) ∧ RJ (goR b n M) b ∧ goR b n M 238 b = M 238 b + n ∧ (∀ j, j ≠ 54 → (goR b n M) 209 j = M 209 j)
  | 0, M, h, _ => ⟨Fb.rf b M, h, by simp [goR], fun _ _ => rfl⟩
  | n + 1, M, h, hh => by
    obtain ⟨a1, a2, a3, a4⟩ := hourR_all h (by omega)
    obtain ⟨b1, b2, b3, b4⟩ := goR_all n (hourR b M) a2 (by rw [a3]; omega)
    exact ⟨a1.tr b1, b2, by unfold goR; rw [b3, a3]; omega, fun j hj => (b4 j hj).trans (a4 j hj)⟩
end ZRT
