section ZFEED
theorem by_g (x : BitVec 32) (s : Nat) (hs : s ≤ 24) : (x >>> s) &&& 255#32 = x.sshiftRight s &&& 255#32 := by
  ext i hi
  simp only [BitVec.getElem_and, BitVec.getElem_sshiftRight, BitVec.getElem_ushiftRight]
  by_cases h : i < 8
  · rw [dif_pos (by omega), BitVec.getLsbD_eq_getElem]
  · have : (255#32)[i] = false := by
      rw [BitVec.getElem_eq_testBit_toNat]
      show Nat.testBit (2 ^ 8 - 1) i = false
      rw [Nat.testBit_two_pow_sub_one]; simp [h]
    rw [this]; simp
theorem by_24 (x : Int) : b_iand (b_iushr x 24) 255 = b_iand (b_ishr x 24) 255 := by
  unfold b_iand b_iushr b_ishr
  rw [Int32.ofInt_toInt, Int32.ofInt_toInt]
  congr 1
  apply Int32.toBitVec_inj.mp
  rw [Int32.toBitVec_and, Int32.toBitVec_and, Int32.toBitVec_shiftRight]
  exact by_g (Int32.ofInt x).toBitVec 24 (by decide)
theorem by_16 (x : Int) : b_iand (b_iushr x 16) 255 = b_iand (b_ishr x 16) 255 := by
  unfold b_iand b_iushr b_ishr
  rw [Int32.ofInt_toInt, Int32.ofInt_toInt]
  congr 1
  apply Int32.toBitVec_inj.mp
  rw [Int32.toBitVec_and, Int32.toBitVec_and, Int32.toBitVec_shiftRight]
  exact by_g (Int32.ofInt x).toBitVec 16 (by decide)
theorem by_8 (x : Int) : b_iand (b_iushr x 8) 255 = b_iand (b_ishr x 8) 255 := by
  unfold b_iand b_iushr b_ishr
  rw [Int32.ofInt_toInt, Int32.ofInt_toInt]
  congr 1
  apply Int32.toBitVec_inj.mp
  rw [Int32.toBitVec_and, Int32.toBitVec_and, Int32.toBitVec_shiftRight]
  exact by_g (Int32.ofInt x).toBitVec 8 (by decide)
theorem by_0 (x : Int) : b_iand (b_iushr x 0) 255 = b_iand (b_ishr x 0) 255 := by
  unfold b_iand b_iushr b_ishr
  rw [Int32.ofInt_toInt, Int32.ofInt_toInt]
  congr 1
  apply Int32.toBitVec_inj.mp
  rw [Int32.toBitVec_and, Int32.toBitVec_and, Int32.toBitVec_shiftRight]
  exact by_g (Int32.ofInt x).toBitVec 0 (by decide)
/-- four bytes laid -/
def w4 (x T : Int) (r : Int → Int) : Int → Int := us (us (us (us r T (b_iand (b_ishr x 24) 255)) (T + 1) (b_iand (b_ishr x 16) 255)) (T + 2) (b_iand (b_ishr x 8) 255)) (T + 3) (b_iand (b_ishr x 0) 255)
theorem tp_4 (x : Int) (M : zM) : tpM x 4 24 M 3 = w4 x (M 2 1) (M 3) ∧ tpM x 4 24 M 2 1 = M 2 1 + 4 ∧ (∀ k : Nat, k ≠ 2 → k ≠ 3 → tpM x 4 24 M k = M k) ∧ ∀ i : Int, i ≠ 1 → tpM x 4 24 M 2 i = M 2 i := by
  refine ⟨?_, tpM_1 x 4 24 M, fun k h2 h3 => ?_, fun i hi => ?_⟩
  · unfold w4
    rw [← by_24, ← by_16, ← by_8, ← by_0]
    simp (disch := decide) only [tpM, sm_n, sm_k, us_s]
    rw [show M 2 1 + 1 + 1 = M 2 1 + 2 by omega, show M 2 1 + 2 + 1 = M 2 1 + 3 by omega]
    rfl
  · simp only [tpM, sm_n h2, sm_n h3]
  · simp (disch := decide) only [tpM, sm_n, sm_k]
    rw [us_n hi, us_n hi, us_n hi, us_n hi]
theorem fd_20 (a b c d e : Int) (M : zM) : fdR a b c d e 20 0 M 210 = w4 e (M 209 1 + 16) (w4 d (M 209 1 + 12) (w4 c (M 209 1 + 8) (w4 b (M 209 1 + 4) (w4 a (M 209 1) (M 210))))) := by
  unfold w4
  simp only [Int.add_assoc]
  simp (disch := decide) only [fdR, sm_n, sm_k]
  simp only [Int.zero_add, Int.add_zero, Int.reduceAdd, Int.reduceLT, Int.reduceTMod, Int.reduceMul, Int.reduceSub, reduceIte, Int.sub_zero]
theorem fc_5 (a b c d e : Int) (M : zM) : fdC a b c d e M 3 = w4 e (M 2 1 + 16) (w4 d (M 2 1 + 12) (w4 c (M 2 1 + 8) (w4 b (M 2 1 + 4) (w4 a (M 2 1) (M 3))))) ∧ fdC a b c d e M 2 1 = M 2 1 + 20 ∧ (∀ k : Nat, k ≠ 2 → k ≠ 3 → fdC a b c d e M k = M k) ∧ ∀ i : Int, i ≠ 1 → fdC a b c d e M 2 i = M 2 i := by
  unfold fdC
  obtain ⟨a1, a2, a3, a4⟩ := tp_4 a M
  obtain ⟨b1, b2, b3, b4⟩ := tp_4 b (tpM a 4 24 M)
  obtain ⟨c1, c2, c3, c4⟩ := tp_4 c (tpM b 4 24 (tpM a 4 24 M))
  obtain ⟨d1, d2, d3, d4⟩ := tp_4 d (tpM c 4 24 (tpM b 4 24 (tpM a 4 24 M)))
  obtain ⟨e1, e2, e3, e4⟩ := tp_4 e (tpM d 4 24 (tpM c 4 24 (tpM b 4 24 (tpM a 4 24 M))))
  refine ⟨?_, by omega, fun k x y => by rw [e3 k x y, d3 k x y, c3 k x y, b3 k x y, a3 k x y], fun i x => by rw [e4 i x, d4 i x, c4 i x, b4 i x, a4 i x]⟩
  rw [e1, d1, c1, b1, a1, d2, c2, b2, a2, show M 2 1 + 4 + 4 = M 2 1 + 8 by omega, show M 2 1 + 8 + 4 = M 2 1 + 12 by omega, show M 2 1 + 12 + 4 = M 2 1 + 16 by omega]
end ZFEED
