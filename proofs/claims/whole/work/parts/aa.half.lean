section ZHALF
theorem vV_k {nm kn pt ot kn' pt' ot' : Int → Int} {i : Int} (h : kn' i = kn i ∧ pt' i = pt i ∧ ot' i = ot i) (V : Int → Int) (e : Int) : vV nm kn' pt' ot' V e i = vV nm kn pt ot V e i ∧ vE kn' pt' ot' V e i = vE kn pt ot V e i := by
  unfold vV vE
  rw [h.1, h.2.1, h.2.2]
  exact ⟨rfl, rfl⟩
theorem rV_k {nm kn pt ot kn' pt' ot' : Int → Int} : ∀ (n : Nat) (i : Int) (V : Int → Int) (e : Int), (∀ j : Int, i ≤ j → j < i + n → kn' j = kn j ∧ pt' j = pt j ∧ ot' j = ot j) → rV nm kn' pt' ot' n i V e = rV nm kn pt ot n i V e
  | 0, i, V, e, h => rfl
  | n + 1, i, V, e, h => by
    have z := h i (by omega) (by omega)
    have w := vV_k (nm := nm) z V e
    unfold rV
    rw [w.1, w.2, z.1]
    exact rV_k n (i + 1) _ _ (fun j x y => h j (by omega) (by omega))
/-- the first halves of the told rows are the same -/
def Hf (R R' : zM) : Prop := ∀ (k : Nat) (i : Int), 213 ≤ k → k ≤ 228 → i < hlf k → R' k i = R k i
theorem Hf.rlf {R R' : zM} (h : Hf R R') {w : Int} (hw : 0 ≤ w ∧ w < 3) (l : LrI R w) : rlf R' w = rlf R w := by
  funext nm
  unfold Jvm.Pilot.@@N@@.rlf
  rw [h 223 w (by decide) (by decide) (by unfold hlf; simp; omega), h 224 w (by decide) (by decide) (by unfold hlf; simp; omega), h 225 w (by decide) (by decide) (by unfold hlf; simp; omega)]
  by_cases c : R 223 w = 0
  · rw [if_pos c, if_pos c]
  · rw [if_neg c, if_neg c]
    have z := l c
    unfold rLaw
    rw [rV_k _ _ _ _ (fun j x y => ⟨h 226 j (by decide) (by decide) (by unfold hlf; simp; omega), h 227 j (by decide) (by decide) (by unfold hlf; simp; omega), h 228 j (by decide) (by decide) (by unfold hlf; simp; omega)⟩)]
theorem Hf.lri {R R' : zM} (h : Hf R R') {w : Int} (hw : 0 ≤ w ∧ w < 3) (l : LrI R w) : LrI R' w := by
  unfold LrI at *
  rw [h 223 w (by decide) (by decide) (by unfold hlf; simp; omega), h 224 w (by decide) (by decide) (by unfold hlf; simp; omega), h 225 w (by decide) (by decide) (by unfold hlf; simp; omega)]
  intro c
  obtain ⟨z1, z2, z3⟩ := l c
  refine ⟨z1, z2, fun i x y => ?_⟩
  rw [h 226 i (by decide) (by decide) (by unfold hlf; simp; omega), h 227 i (by decide) (by decide) (by unfold hlf; simp; omega), h 228 i (by decide) (by decide) (by unfold hlf; simp; omega)]
  exact z3 i x y
theorem Hf.txi {R R' : zM} (h : Hf R R') (h9 : ∀ i : Int, 12 ≤ i → i ≤ 14 → R' 209 i = R 209 i) (l : TxI R) : TxI R' := by
  obtain ⟨a, b, c, d, e, f, g, h1, h2, h3, h4⟩ := l
  refine ⟨by rw [h9 12 (by omega) (by omega)]; exact a, by rw [h9 13 (by omega) (by omega)]; exact b, by rw [h9 14 (by omega) (by omega)]; exact c, fun i x y => ?_, fun i x y => ?_, fun i x y => ?_, fun i x y => ?_, ?_, ?_, ?_, ?_⟩
  · rw [h 215 i (by decide) (by decide) (by unfold hlf; simp; omega)]; exact d i x y
  · rw [h 216 i (by decide) (by decide) (by unfold hlf; simp; omega)]; exact e i x y
  · rw [h 217 i (by decide) (by decide) (by unfold hlf; simp; omega), h 218 i (by decide) (by decide) (by unfold hlf; simp; omega), h 219 i (by decide) (by decide) (by unfold hlf; simp; omega)]; exact f i x y
  · rw [h 220 i (by decide) (by decide) (by unfold hlf; simp; omega), h 221 i (by decide) (by decide) (by unfold hlf; simp; omega), h 222 i (by decide) (by decide) (by unfold hlf; simp; omega)]; exact g i x y
  · rw [h 213 0 (by decide) (by decide) (by decide)]; exact h1
  · rw [h 213 1 (by decide) (by decide) (by decide)]; exact h2
  · rw [h 213 2 (by decide) (by decide) (by decide)]; exact h3
  · rw [h 213 3 (by decide) (by decide) (by decide)]; exact h4
theorem Hf.tk {t : Nat} {C C' R R' : zM} (h : Hf R R') (k : TKp t C R) (i : ToI C t) (l : LrI R 0 ∧ LrI R 1 ∧ LrI R 2) (hc : ∀ k : Nat, t ≤ k → k ≤ t + 18 → C' k = C k) (h9 : ∀ i : Int, 12 ≤ i → i ≤ 15 → R' 209 i = R 209 i) : TKp t C' R' := by
  refine TKp.of (C := C) (R := R') ?_ hc (fun _ _ _ => rfl) (fun _ _ _ => rfl)
  obtain ⟨⟨a1, a2, a3, a4⟩, b, c, d, e, f⟩ := k
  obtain ⟨i1, i2, i3, _⟩ := i
  refine ⟨⟨by rw [h9 12 (by omega) (by omega)]; exact a1, by rw [h9 13 (by omega) (by omega)]; exact a2, by rw [h9 14 (by omega) (by omega)]; exact a3, by rw [h9 15 (by omega) (by omega)]; exact a4⟩, fun j x y => ?_, fun j x y => ?_, fun j x y => ?_, fun j x y => ?_, fun u hu => ?_⟩
  · rw [h 214 j (by decide) (by decide) (by unfold hlf; simp; omega), h 215 j (by decide) (by decide) (by unfold hlf; simp; omega), h 216 j (by decide) (by decide) (by unfold hlf; simp; omega)]; exact b j x y
  · rw [h 217 j (by decide) (by decide) (by unfold hlf; simp; omega), h 218 j (by decide) (by decide) (by unfold hlf; simp; omega), h 219 j (by decide) (by decide) (by unfold hlf; simp; omega)]; exact c j x y
  · rw [h 220 j (by decide) (by decide) (by unfold hlf; simp; omega), h 221 j (by decide) (by decide) (by unfold hlf; simp; omega), h 222 j (by decide) (by decide) (by unfold hlf; simp; omega)]; exact d j x y
  · rw [h 213 j (by decide) (by decide) (by unfold hlf; simp; omega)]; exact e j x y
  · have lu : LrI R (u : Int) := by
      have : u = 0 ∨ u = 1 ∨ u = 2 := by omega
      rcases this with e | e | e <;> subst e
      · exact l.1
      · exact l.2.1
      · exact l.2.2
    rw [h.rlf ⟨by omega, by omega⟩ lu, h 223 (u : Int) (by decide) (by decide) (by unfold hlf; simp; omega)]
    exact f u hu
theorem hdm1 : ∀ (l : List Int), 1 ≤ l.length → l.headD 0 ∈ l
  | [], h => absurd h (by simp)
  | a :: l, _ => List.mem_cons_self
theorem hdm2 : ∀ (l : List Int), 2 ≤ l.length → (l.drop 1).headD 0 ∈ l
  | [], h => absurd h (by simp)
  | [a], h => absurd h (by simp)
  | a :: b :: l, _ => List.mem_cons_of_mem _ List.mem_cons_self
/-- the knots of what is kept -/
theorem kt_lr {t u : Nat} {C M1 R : zM} (hu : u ≤ 2) (fu : LaX t u C M1) (lw : LwI C (t + 13 + 2 * u)) (k1 : M1 209 19 ≤ 64) (hr : ∀ k : Nat, 213 ≤ k → k ≤ 228 → R k = ktM M1 k) : LrI R (u : Int) := by
  have e3 : R 223 (u : Int) = M1 223 (3 + (u : Int)) := by rw [hr 223 (by omega) (by omega), kt_223 M1 ⟨by omega, by omega⟩]
  have e4 : R 224 (u : Int) = M1 224 (3 + (u : Int)) := by rw [hr 224 (by omega) (by omega), kt_224 M1 ⟨by omega, by omega⟩]
  have e5 : R 225 (u : Int) = M1 225 (3 + (u : Int)) := by rw [hr 225 (by omega) (by omega), kt_225 M1 ⟨by omega, by omega⟩]
  intro c
  rw [e3] at c
  have z := fu.1.1 c
  obtain ⟨k2, k3, k4, k5, k6⟩ := fu.2 z
  rw [e4, e5, k3]
  refine ⟨⟨k4, by omega, by omega⟩, by omega, fun i x y => ?_⟩
  obtain ⟨q, eq⟩ : ∃ q : Nat, i = M1 224 (3 + (u : Int)) + q := ⟨(i - M1 224 (3 + (u : Int))).toNat, by omega⟩
  have w := k2 q (by omega)
  have ko := lw.2 (q : Int) (by omega) (by omega)
  have hin := pst_in (C (t + 13 + 2 * u + 1)) (M1 224 (3 + (u : Int))) q
  rw [hr 226 (by omega) (by omega), hr 227 (by omega) (by omega), hr 228 (by omega) (by omega), kt_226 M1 ⟨by omega, by omega⟩, kt_227 M1 ⟨by omega, by omega⟩, kt_228 M1 ⟨by omega, by omega⟩]
  have e6 : (64 : Int) + i = 64 + M1 224 (3 + (u : Int)) + q := by omega
  rw [e6]
  unfold KnA at w
  split at w
  · rw [w.1, w.2]; unfold kok at ko; omega
  · split at w
    · rw [w.1, w.2]; unfold kok at ko; omega
    · split at w
      · have m := hin _ (hdm1 _ w.2.2)
        rw [← w.2.1] at m
        rw [w.1]; omega
      · have m1 := hin _ (hdm1 _ (by omega))
        have m2 := hin _ (hdm2 _ w.2.2.2)
        rw [← w.2.1] at m2
        rw [← w.2.2.1] at m1
        unfold kok at ko
        have kr := kc_r (C (t + 13 + 2 * u + 1) (q : Int) - 20000) (by omega) (by omega)
        have k3 : 3 ≤ kc (C (t + 13 + 2 * u + 1) (q : Int) - 20000) := by
          unfold kc
          rw [if_neg (by omega), if_neg (by omega)]
          split
          · omega
          · split <;> omega
        rw [w.1]
        omega
end ZHALF
