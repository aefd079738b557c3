section ZEFF3
theorem RJ.of9 {R R' : zM} (h : RJ R 0) (e : ∀ k : Nat, k ≠ 209 → R' k = R k) (e9 : ∀ i : Int, (12 ≤ i ∧ i ≤ 14) ∨ i = 54 → R' 209 i = R 209 i) (h60 : 0 ≤ R' 209 60 ∧ R' 209 60 ≤ 20) : RJ R' 0 := by
  obtain ⟨⟨a, ⟨b0, b1, b2⟩, c, _⟩, d⟩ := h
  have lr : ∀ w : Int, LrI R w → LrI R' w := fun w q => LrI_of (e _ (by decide)) (e _ (by decide)) (e _ (by decide)) (e _ (by decide)) (e _ (by decide)) (e _ (by decide)) q
  refine ⟨⟨?_, ⟨lr 0 b0, lr 1 b1, lr 2 b2⟩, c.of9 (fun k i hk => by rw [e k (by omega)]), h60⟩, by rw [e9 54 (by omega)]; exact d⟩
  unfold TxI at *
  rw [e9 12 (by omega), e9 13 (by omega), e9 14 (by omega), e 213 (by decide), e 215 (by decide), e 216 (by decide), e 217 (by decide), e 218 (by decide), e 219 (by decide), e 220 (by decide), e 221 (by decide), e 222 (by decide)]
  exact a
/-- hours go by -/
theorem e_go {t n : Nat} {C C' R R1 R' : zM} (rn : RN t C R) (un : UN t C R) (im : IM t C R) (rj : RJ R 0) (h5 : C 61 5 + n ≤ 9999) (ec : Ec (passM t 61 n (adM t (sm C 79 2 0))) C') (es : Es (goR 0 n (sm (ptM (sm R 209 2 0)) 209 55 1)) R1) (e' : R' = sm (sm R1 209 55 0) 209 65 0) : RN t C' R' ∧ UN t C' R' ∧ IM t C' R' := by
  have n6 := rn.n6
  obtain ⟨k, s, nn, ⟨i1, i2⟩, ht, h50⟩ := id rn
  obtain ⟨A, eA⟩ : ∃ A, A = adM t (sm C 79 2 0) := ⟨_, rfl⟩
  obtain ⟨B, eB⟩ : ∃ B, B = sm (ptM (sm R 209 2 0)) 209 55 1 := ⟨_, rfl⟩
  rw [← eA] at ec
  rw [← eB] at es
  have a0 : ∀ q : Nat, q ≠ 50 → q ≠ 79 → A q = C q := fun q x y => by rw [eA, adM_n t _ x, sm_n y]
  have a79 : A 79 2 = 0 ∧ A 79 1 = C 79 1 := by rw [eA, adM_n t _ (by decide)]; exact ⟨by rw [sm_s], by rw [sm_k, us_n (by decide)]⟩
  have af := adM_f t (sm C 79 2 0)
  rw [← eA, sm_n (show t + 10 ≠ 79 by omega)] at af
  have b0 : ∀ q : Nat, q ≠ 209 → B q = R q := fun q x => by rw [eB]; unfold ptM; simp only [sm_n x]
  have b9 : ∀ i : Int, i ≠ 2 → ¬ (55 ≤ i ∧ i ≤ 60) → B 209 i = R 209 i := fun i x y => by rw [eB]; unfold ptM; rw [sm_k, us_n (by omega), sm_k, us_n (by omega), sm_k, us_n (by omega), sm_k, us_n (by omega), sm_k, us_n (by omega), sm_k, us_n (by omega), sm_k, us_n (by omega), sm_k, us_n x]
  have b55 : B 209 55 = 1 := by rw [eB, sm_s]
  have b56 : B 209 56 = 0 ∧ B 209 57 = 0 ∧ B 209 58 = 0 ∧ B 209 59 = -1 ∧ B 209 60 = R 213 0 := by
    rw [eB]; unfold ptM
    refine ⟨?_, ?_, ?_, ?_, ?_⟩ <;> simp (disch := decide) only [sm_k, sm_n, us_s, us_n]
  have e0 := k.2.2.2.2.1 0 (by decide) (by decide)
  have e2 := k.2.2.2.2.1 2 (by decide) (by decide)
  have rb : RB True t 61 0 A B := by
    refine ⟨k.of (fun q x y => a0 q (by omega) (by omega)) (fun q x y => b0 q (by omega)) (fun i x y => b9 i (by omega) (by omega)), s.of (by rw [a0 t (by omega) (by omega)]) (fun q x y => a0 q (by omega) (by omega)) (by rw [a0 61 (by decide) (by decide)]) (fun q x y => b0 q (by omega)) (by rw [b0 238 (by decide)]), ⟨?_, ?_, ?_, ?_, ?_⟩, ⟨i1.eq (fun q x y => a0 q (by omega) (by omega)), i2.at9 (fun i x y => a0 _ (by omega) (by omega)) (by rw [a0 61 (by decide) (by decide)]) (by rw [a0 61 (by decide) (by decide)])⟩, fun _ => by rw [b9 54 (by decide) (by omega), a0 61 (by decide) (by decide)]; exact nn, fun _ => trivial, ht, by decide, Or.inl rfl⟩
    · rw [b56.2.2.2.2, af.1, e0]
    · rw [b56.2.2.2.1, af.2.2.2.2]
    · rw [b56.2.2.1, af.2.2.2.1]; decide
    · rw [b56.2.1, af.2.2.1]; decide
    · rw [af.2.1, b55, b56.1, b0 213 (by decide), e2]
      by_cases c : C (t + 10) 2 = 0
      · rw [if_pos c]; exact Or.inl ⟨rfl, Or.inr (Or.inl c)⟩
      · rw [if_neg c]
        by_cases d : C (t + 10) 2 = 100
        · rw [if_pos d]; exact Or.inr (Or.inl ⟨rfl, rfl, Or.inl d⟩)
        · rw [if_neg d]; exact Or.inr (Or.inr ⟨rfl, rfl, by decide, c, d⟩)
  have rjB : RJ B 0 := rj.of9 b0 (fun i hi => b9 i (by omega) (by omega)) (by rw [b56.2.2.2.2, e0]; exact i1.2.2.2.2.2.2.2.1)
  have hB : B 238 0 + n ≤ 9999 := by rw [b0 238 (by decide), s.2.2.2.2]; exact h5
  obtain ⟨fb, _, _, g9⟩ := goR_all n B rjB hB
  have rp := rb.pass n A B (by rw [a0 61 (by decide) (by decide)]; exact h5)
  have fa := passM_Fa t 61 n A
  obtain ⟨D, eD⟩ : ∃ D, D = passM t 61 n A := ⟨_, rfl⟩
  obtain ⟨S, eS⟩ : ∃ S, S = goR 0 n B := ⟨_, rfl⟩
  rw [← eD] at ec rp fa
  rw [← eS] at es rp fb g9
  have cD : ∀ q : Nat, q ≠ 51 → q ≠ 52 → q ≠ 53 → C' q = D q := fun q x y z => ec.row x y z
  have dA : ∀ q : Nat, ¬ (61 ≤ q ∧ q ≤ 66) → D q = A q := fun q hq => fa q (by omega)
  have r0 : ∀ q : Nat, q ≠ 209 → q ≠ 231 → q ≠ 232 → R' q = S q := fun q x y z => by rw [e', sm_n x, sm_n x]; exact es.row x y z
  have r9 : ∀ i : Int, i ≠ 47 → i ≠ 55 → i ≠ 65 → R' 209 i = S 209 i := fun i x y z => by rw [e', sm_k, us_n z, sm_k, us_n y]; exact es 209 i (by decide) (by decide) (by omega)
  have r65 : R' 209 65 = 0 := by rw [e', sm_s]
  obtain ⟨k8, s8, m8, ⟨j1, j2⟩, n8, _, _⟩ := rp
  have c50 : C' 50 1 = C (t + 10) 0 := by rw [ec 50 1 (by decide) (by decide) (by omega), dA 50 (by omega), af.1]
  refine ⟨⟨k8.of (fun q x y => cD q (by omega) (by omega) (by omega)) (fun q x y => r0 q (by omega) (by omega) (by omega)) (fun i x y => r9 i (by omega) (by omega) (by omega)), s8.of (by rw [cD t (by omega) (by omega) (by omega)]) (fun q x y => cD q (by omega) (by omega) (by omega)) (by rw [cD 61 (by decide) (by decide) (by decide)]) (fun q x y => r0 q (by omega) (by omega) (by omega)) (by rw [r0 238 (by decide) (by decide) (by decide)]), by rw [r9 54 (by decide) (by decide) (by decide), cD 61 (by decide) (by decide) (by decide)]; exact n8 trivial, ⟨j1.eq (fun q x y => cD q (by omega) (by omega) (by omega)), j2.at9 (fun i x y => cD _ (by omega) (by omega) (by omega)) (by rw [cD 61 (by decide) (by decide) (by decide)]) (by rw [cD 61 (by decide) (by decide) (by decide)])⟩, ht, ?_⟩, ⟨⟨?_, ?_⟩, fun q q0 q1 => ?_⟩, ?_⟩
  · rw [c50, cD (t + 10) (by omega) (by omega) (by omega), dA (t + 10) (by omega), a0 (t + 10) (by omega) (by omega)]
  · rw [r65, cD 79 (by decide) (by decide) (by decide), dA 79 (by omega), a79.1]
  · have u := un.1.2
    unfold UI at *
    rw [cD 79 (by decide) (by decide) (by decide), dA 79 (by omega), a79.1, a79.2]
    omega
  · rw [cD 79 (by decide) (by decide) (by decide), dA 79 (by omega), a79.1] at q1; omega
  · refine im.of n6.2 (by rw [cD t (by omega) (by omega) (by omega), dA t (by omega), a0 t (by omega) (by omega)]) (fun q hq => by rw [cD q (by omega) (by omega) (by omega), dA q (by omega), a0 q (by omega) (by omega)]) (by rw [cD 2 (by decide) (by decide) (by decide), dA 2 (by omega), a0 2 (by decide) (by decide)]) ?_ (fun i hi => by rw [r9 i (by omega) (by omega) (by omega), g9 i (by omega), b9 i (by omega) (by omega)])
    rw [r0 242 (by decide) (by decide) (by decide), fb.row (by omega), b0 242 (by decide)]
/-- a frame taken, against a state copied -/
theorem tak_sr {t a : Nat} {q : Nat} {i0 h : Int} {C C' R R2 R' : zM} (s : SRl t a 0 C (frM q i0 h R)) (n : C t 2 ≤ 6) (ht : C' t 2 = C t 2) (hc : ∀ j : Int, 0 ≤ j → j < 6 → C' (61 + 1) j = C (a + 1) j ∧ C' (61 + 2) j = C (a + 2) j ∧ C' (61 + 3) j = C (a + 3) j ∧ C' (61 + 4) j = C (a + 4) j) (hc5 : ∀ j : Int, 0 ≤ j → j < 36 → C' (61 + 5) j = C (a + 5) j) (h5 : C' 61 5 = C a 5) (t1 : ∀ j : Int, 0 ≤ j → j < 6 → R' 233 j = R2 q (i0 + j) ∧ R' 234 j = R2 q (i0 + 6 + j) ∧ R' 235 j = R2 q (i0 + 12 + j)) (t2 : ∀ j : Int, 0 ≤ j → j < 36 → R' 236 j = R2 q (i0 + 18 + j) ∧ R' 237 j = if R2 q (i0 + 54 + j) = 1 then 1 else 0) (hr : ∀ j : Int, R2 q j = R q j) (h8 : R' 238 0 = h) : SRl t 61 0 C' R' := by
  refine s.mk n ht hc hc5 h5 (fun j x y => ?_) (fun j x y => ?_) h8
  · have z := t1 j x y
    rw [hr, hr, hr] at z
    show R' 233 (6 * 0 + j) = R q (i0 + (6 * 0 + j)) ∧ R' 234 (6 * 0 + j) = R q (i0 + 6 + (6 * 0 + j)) ∧ R' 235 (6 * 0 + j) = R q (i0 + 12 + (6 * 0 + j))
    rw [show 6 * (0 : Int) + j = j by omega]; exact z
  · have z := t2 j x y
    rw [hr, hr] at z
    show R' 236 (36 * 0 + j) = R q (i0 + 18 + (36 * 0 + j)) ∧ R' 237 (36 * 0 + j) = R q (i0 + 54 + (36 * 0 + j))
    rw [show 36 * (0 : Int) + j = j by omega]
    refine ⟨z.1, ?_⟩
    rw [z.2]
    have w := (s.2.2.2.1 (j / 6) (j % 6) (by omega) (by omega) (by omega) (by omega)).1
    have e : R q (i0 + 54 + j) = kbit (C (a + 3) (j / 6)) (j % 6) := by
      rw [← w]
      show _ = R q (i0 + 54 + (36 * 0 + 6 * (j / 6) + j % 6))
      rw [show 36 * (0 : Int) + 6 * (j / 6) + j % 6 = j by omega]
    rcases kbit01 (C (a + 3) (j / 6)) (j % 6) with g | g
    · rw [e, g]; rfl
    · rw [e, g]; rfl
theorem tak_sm {q : Nat} {i0 : Int} {R R2 R' : zM} (g : FrG q i0 R) (t1 : ∀ j : Int, 0 ≤ j → j < 6 → R' 233 j = R2 q (i0 + j) ∧ R' 234 j = R2 q (i0 + 6 + j) ∧ R' 235 j = R2 q (i0 + 12 + j)) (t2 : ∀ j : Int, 0 ≤ j → j < 36 → R' 236 j = R2 q (i0 + 18 + j) ∧ R' 237 j = if R2 q (i0 + 54 + j) = 1 then 1 else 0) (hr : ∀ j : Int, R2 q j = R q j) (h8 : 0 ≤ R' 238 0 ∧ R' 238 0 ≤ 9999) : SmI R' 0 := by
  refine ⟨fun i x y => ?_, fun i x y => ?_, fun i x y => ?_, h8⟩
  · rw [show 6 * (0 : Int) + i = i by omega, (t1 i x y).1, hr]; exact (g.1 i x y).1
  · rw [show 6 * (0 : Int) + i = i by omega, (t1 i x y).2.1, hr]; exact (g.1 i x y).2
  · rw [show 36 * (0 : Int) + i = i by omega, (t2 i x y).1, hr]; exact g.2 i x y
/-- undone -/
theorem e_undo {t : Nat} {C C' R R' : zM} (rn : RN t C R) (un : UN t C R) (im : IM t C R) (h0 : C 79 2 ≠ 0) (cy : CyR (sm (sm C 79 1 ((C 79 1 + 20 - 1).tmod 20)) 79 2 (C 79 2 - 1)) 61 (81 + 6 * ((C 79 1 + 20 - 1).tmod 20).toNat) C') (tk : TakR 241 (90 * (R 209 65 - 1)) (sm (sm R 209 2 0) 209 65 (R 209 65 - 1)) R') : (RN t C' R' ∧ UN t C' R' ∧ IM t C' R') ∧ SmI R' 0 := by
  have n6 := rn.n6
  obtain ⟨k, s, nn, ⟨i1, i2⟩, ht, h50⟩ := id rn
  obtain ⟨⟨u1, u2, u3⟩, ub⟩ := id un
  have tm := Int.tmod_eq_emod_of_nonneg (a := C 79 1 + 20 - 1) (b := 20) (by omega)
  rw [tm] at cy
  obtain ⟨C2, e2⟩ : ∃ C2, C2 = sm (sm C 79 1 ((C 79 1 + 20 - 1) % 20)) 79 2 (C 79 2 - 1) := ⟨_, rfl⟩
  rw [← e2] at cy
  have c2 : ∀ q : Nat, q ≠ 79 → C2 q = C q := fun q x => by rw [e2, sm_n x, sm_n x]
  have c79 : C2 79 1 = (C 79 1 + 20 - 1) % 20 ∧ C2 79 2 = C 79 2 - 1 := by rw [e2]; exact ⟨by rw [sm_k, us_n (by decide), sm_s], by rw [sm_s]⟩
  obtain ⟨y1, y2, y3, y4, y5⟩ := cy
  rw [u1] at tk
  obtain ⟨⟨w1, w2, w3⟩, w4⟩ := ub (C 79 2 - 1) (by omega) (by omega)
  have es : sl C (C 79 2 - 1) = 81 + 6 * ((C 79 1 + 20 - 1) % 20).toNat := by unfold sl; rw [show C 79 2 - (C 79 2 - 1) = 1 by omega]
  rw [es] at w1 w2 w3
  obtain ⟨a, ea⟩ : ∃ a, a = 81 + 6 * ((C 79 1 + 20 - 1) % 20).toNat := ⟨_, rfl⟩
  rw [← ea] at w1 w2 w3 y1 y2 y3 y4
  have a5 : C a 5 = C 61 5 := w1.2.2.2.2.symm
  have cC : ∀ q : Nat, ¬ (61 ≤ q ∧ q ≤ 66) → q ≠ 79 → C' q = C q := fun q x y => by rw [y5 q (by omega), c2 q y]
  have c9 : C' 79 = C2 79 := y5 79 (by omega)
  have f5 : C' 61 5 = C 61 5 := by rw [y3, c2 a (by omega), a5]
  have f6 : C' 61 6 = C 61 6 := by rw [y4, c2 a (by omega), w3]
  have r0 : ∀ (q : Nat) (i : Int), ¬ (233 ≤ q ∧ q ≤ 237) → ¬ (q = 209 ∧ (i = 2 ∨ i = 65)) → R' q i = R q i := fun q i x y => by
    rw [tk.2.2 q i (by omega) (by omega)]
    by_cases e : q = 209
    · subst e; rw [sm_k, us_n (by omega), sm_k, us_n (by omega)]
    · rw [sm_n e, sm_n e]
  have r65 : R' 209 65 = C 79 2 - 1 := by rw [tk.2.2 209 65 (by omega) (by omega), sm_s]
  have r8 : R' 238 0 = C 61 5 := by rw [r0 238 0 (by omega) (by omega)]; exact s.2.2.2.2
  have ns : SRl t 61 0 C' R' := tak_sr w1 n6.2 (by rw [cC t (by omega) (by omega)]) (fun j x y => by have z := y1 j x y; rw [c2 (a + 1) (by omega), c2 (a + 2) (by omega), c2 (a + 3) (by omega), c2 (a + 4) (by omega)] at z; exact z) (fun j x y => by have z := y2 j x y; rw [c2 (a + 5) (by omega)] at z; exact z) (by rw [f5, a5]) tk.1 tk.2.1 (fun j => by rw [sm_n (by decide), sm_n (by decide)]) r8
  have st : StI C' 61 := by
    have z : StI C2 a := w2.at9 (fun i x y => c2 _ (by omega)) (by rw [c2 a (by omega)]) (by rw [c2 a (by omega)])
    exact CyR.sti ⟨y1, y2, y3, y4, y5⟩ z
  refine ⟨⟨⟨k.of (fun q x y => cC q (by omega) (by omega)) (fun q x y => funext fun i => r0 q i (by omega) (by omega)) (fun i x y => r0 209 i (by omega) (by omega)), ns, by rw [r0 209 54 (by omega) (by omega), f6]; exact nn, ⟨i1.eq (fun q x y => cC q (by omega) (by omega)), st⟩, ht, by rw [cC 50 (by omega) (by decide), cC (t + 10) (by omega) (by omega)]; exact h50⟩, ⟨⟨by rw [r65, c9, c79.2], by unfold UI; rw [c9, c79.1, c79.2]; omega⟩, fun q q0 q1 => ?_⟩, im.of n6.2 (by rw [cC t (by omega) (by omega)]) (fun q hq => cC q (by omega) (by omega)) (by rw [cC 2 (by omega) (by decide)]) (funext fun i => r0 242 i (by omega) (by omega)) (fun i hi => r0 209 i (by omega) (by omega))⟩, tak_sm w4 tk.1 tk.2.1 (fun j => by rw [sm_n (by decide), sm_n (by decide)]) (by rw [r8]; exact i2.2.2.2.2.2.1)⟩
  rw [c9, c79.2] at q1
  obtain ⟨⟨v1, v2, v3⟩, v4⟩ := ub q q0 (by omega)
  have e3 : sl C' q = sl C q := by unfold sl; rw [c9, c79.1, c79.2]; omega
  have sr : 81 ≤ sl C q ∧ sl C q ≤ 195 := by unfold sl; omega
  have r1 : ∀ j : Int, R' 241 j = R 241 j := fun j => r0 241 j (by omega) (by omega)
  rw [e3]
  exact ⟨⟨v1.fr n6.2 (by rw [cC t (by omega) (by omega)]) (fun i x y => cC _ (by omega) (by omega)) (by rw [cC _ (by omega) (by omega)]) (fun j x y => r1 _) f5, v2.at9 (fun i x y => cC _ (by omega) (by omega)) (by rw [cC _ (by omega) (by omega)]) (by rw [cC _ (by omega) (by omega)]), by rw [cC _ (by omega) (by omega), f6]; exact v3⟩, v4.fr (fun j x y => r1 _)⟩
/-- an image kept; back to it -/
theorem e_keep {t : Nat} {C C1 R R1 R' : zM} (rn : RN t C R) (t3 : 3 ≤ t) (un : UN t C R) (sm9 : SmI R 0) (h9 : C 61 5 ≤ 9000) (cy : CyR C 73 61 C1) (pt : PutR 242 0 (sm (sm R 209 2 0) 209 67 1) R1) (e' : R' = sm (sm R1 209 69 (R 238 0)) 209 70 (R 209 54)) : RN t (sm C1 2 10 1) R' ∧ UN t (sm C1 2 10 1) R' ∧ IM t (sm C1 2 10 1) R' := by
  have n6 := rn.n6
  obtain ⟨k, s, nn, ⟨i1, i2⟩, ht, h50⟩ := id rn
  have cC : ∀ q : Nat, q ≠ 2 → ¬ (73 ≤ q ∧ q ≤ 78) → sm C1 2 10 1 q = C q := fun q x y => by rw [sm_n x, cy.2.2.2.2 q (by omega)]
  have cI : ∀ q : Nat, q ≠ 2 → sm C1 2 10 1 q = C1 q := fun q x => sm_n x
  obtain ⟨p1, p2, p3⟩ := pt
  have r0 : ∀ (q : Nat) (i : Int), q ≠ 242 → ¬ (q = 209 ∧ (i = 2 ∨ i = 67 ∨ i = 69 ∨ i = 70)) → R' q i = R q i := fun q i x y => by
    rw [e']
    by_cases e : q = 209
    · subst e
      rw [sm_k, us_n (by omega), sm_k, us_n (by omega), p3 209 i (by omega), sm_k, us_n (by omega), sm_k, us_n (by omega)]
    · rw [sm_n e, sm_n e, p3 q i (by omega), sm_n e, sm_n e]
  have r42 : R' 242 = R1 242 := by rw [e', sm_n (by decide), sm_n (by decide)]
  have r67 : R' 209 67 = 1 := by rw [e', sm_k, us_n (by decide), sm_k, us_n (by decide), p3 209 67 (by omega), sm_s]
  have r69 : R' 209 69 = R 238 0 := by rw [e', sm_k, us_n (by decide), sm_s]
  have r70 : R' 209 70 = R 209 54 := by rw [e', sm_s]
  refine ⟨rn.of (fun q hq => cC q (by omega) (by omega)) (by rw [cC 50 (by decide) (by omega)]) (fun q hq => funext fun i => r0 q i (by omega) (by omega)) (fun i hi => r0 209 i (by decide) (by omega)), un.of n6.2 (by rw [cC t (by omega) (by omega)]) (fun q hq => cC q (by omega) (by omega)) (by rw [cC 61 (by decide) (by omega)]) (by rw [cC 61 (by decide) (by omega)]) (funext fun i => r0 241 i (by decide) (by omega)) (r0 209 65 (by decide) (by omega)), ?_, fun _ => ⟨⟨?_, ?_, ?_, ?_⟩, ?_, ?_⟩⟩
  · rw [r67, sm_s]
  · refine s.mk n6.2 (by rw [cC t (by omega) (by omega)]) (fun j x y => ?_) (fun j x y => ?_) ?_ (fun j x y => ?_) (fun j x y => ?_) ?_
    · rw [cI (73 + 1) (by decide), cI (73 + 2) (by decide), cI (73 + 3) (by decide), cI (73 + 4) (by decide)]; exact cy.1 j x y
    · rw [cI (73 + 5) (by decide)]; exact cy.2.1 j x y
    · rw [cI 73 (by decide)]; exact cy.2.2.1
    · have z := p1 j x y
      show R' 242 (0 + (6 * 0 + j)) = _ ∧ R' 242 (0 + 6 + (6 * 0 + j)) = _ ∧ R' 242 (0 + 12 + (6 * 0 + j)) = _
      rw [r42, show 6 * (0 : Int) + j = j by omega, z.1, z.2.1, z.2.2]
      exact ⟨by rw [sm_n (by decide), sm_n (by decide)], by rw [sm_n (by decide), sm_n (by decide)], by rw [sm_n (by decide), sm_n (by decide)]⟩
    · have z := p2 j x y
      show R' 242 (0 + 18 + (36 * 0 + j)) = _ ∧ R' 242 (0 + 54 + (36 * 0 + j)) = _
      rw [r42, show 36 * (0 : Int) + j = j by omega, z.1, z.2]
      exact ⟨by rw [sm_n (by decide), sm_n (by decide)], by rw [sm_n (by decide), sm_n (by decide)]⟩
    · show R' 209 69 = _
      exact r69
  · exact (cy.sti i2).at9 (fun i x y => cI _ (by omega)) (by rw [cI 73 (by decide)]) (by rw [cI 73 (by decide)])
  · rw [r70, cI 73 (by decide), cy.2.2.2.1]; exact nn
  · rw [cI 73 (by decide), cy.2.2.1]; exact h9
  · intro j x y
    have z := p1 j x y
    have w1 := sm9.1 j x y
    have w2 := sm9.2.1 j x y
    rw [show 6 * (0 : Int) + j = j by omega] at w1 w2
    rw [r42, z.1, z.2.1, sm_n (by decide), sm_n (by decide), sm_n (by decide), sm_n (by decide)]
    exact ⟨w1, w2⟩
  · intro j x y
    have z := p2 j x y
    have w := sm9.2.2.1 j x y
    rw [show 36 * (0 : Int) + j = j by omega] at w
    rw [r42, z.1, sm_n (by decide), sm_n (by decide)]
    exact w
theorem e_back {t : Nat} {C C1 R R1 R' : zM} (rn : RN t C R) (un : UN t C R) (im : IM t C R) (h2 : C 2 10 ≠ 0) (cy : CyR C 61 73 C1) (tk : TakR 242 0 (sm R 209 2 0) R1) (e' : R' = sm (sm (sm R1 238 0 (R 209 69)) 209 54 (R 209 70)) 209 65 0) : (RN t (sm C1 79 2 0) R' ∧ UN t (sm C1 79 2 0) R' ∧ IM t (sm C1 79 2 0) R') ∧ SmI R' 0 := by
  have n6 := rn.n6
  obtain ⟨k, s, nn, ⟨i1, i2⟩, ht, h50⟩ := id rn
  obtain ⟨⟨w1, w2, w3, w4⟩, w5⟩ := im.2 h2
  have cC : ∀ q : Nat, q ≠ 79 → ¬ (61 ≤ q ∧ q ≤ 66) → sm C1 79 2 0 q = C q := fun q x y => by rw [sm_n x, cy.2.2.2.2 q (by omega)]
  have cI : ∀ q : Nat, q ≠ 79 → sm C1 79 2 0 q = C1 q := fun q x => sm_n x
  have c79 : sm C1 79 2 0 79 2 = 0 ∧ sm C1 79 2 0 79 1 = C 79 1 := ⟨by rw [sm_s], by rw [sm_k, us_n (by decide), cy.2.2.2.2 79 (by omega)]⟩
  obtain ⟨t1, t2, t3⟩ := tk
  have rr : ∀ q : Nat, q ≠ 209 → q ≠ 238 → R' q = R1 q := fun q x y => by rw [e', sm_n x, sm_n x, sm_n y]
  have r0 : ∀ (q : Nat) (i : Int), ¬ (233 ≤ q ∧ q ≤ 238) → ¬ (q = 209 ∧ (i = 2 ∨ i = 54 ∨ i = 65)) → R' q i = R q i := fun q i x y => by
    rw [e']
    by_cases e : q = 209
    · subst e
      rw [sm_k, us_n (by omega), sm_k, us_n (by omega), sm_n (by decide), t3 209 i (by omega) (by omega), sm_k, us_n (by omega)]
    · rw [sm_n e, sm_n e, sm_n (by omega), t3 q i (by omega) (by omega), sm_n e]
  have r8 : R' 238 0 = R 209 69 := by rw [e', sm_n (by decide), sm_n (by decide), sm_s]
  have r54 : R' 209 54 = R 209 70 := by rw [e', sm_k, us_n (by decide), sm_s]
  have r65 : R' 209 65 = 0 := by rw [e', sm_s]
  have hr : ∀ j : Int, sm R 209 2 0 242 j = R 242 j := fun j => by rw [sm_n (by decide)]
  have f1 : ∀ j : Int, 0 ≤ j → j < 6 → R' 233 j = sm R 209 2 0 242 (0 + j) ∧ R' 234 j = sm R 209 2 0 242 (0 + 6 + j) ∧ R' 235 j = sm R 209 2 0 242 (0 + 12 + j) := fun j x y => by rw [rr 233 (by decide) (by decide), rr 234 (by decide) (by decide), rr 235 (by decide) (by decide)]; exact t1 j x y
  have f2 : ∀ j : Int, 0 ≤ j → j < 36 → R' 236 j = sm R 209 2 0 242 (0 + 18 + j) ∧ R' 237 j = if sm R 209 2 0 242 (0 + 54 + j) = 1 then 1 else 0 := fun j x y => by rw [rr 236 (by decide) (by decide), rr 237 (by decide) (by decide)]; exact t2 j x y
  have a5 : C 73 5 = R 209 69 := w1.2.2.2.2.symm
  have ns : SRl t 61 0 (sm C1 79 2 0) R' := tak_sr w1 n6.2 (by rw [cC t (by omega) (by omega)]) (fun j x y => by rw [cI (61 + 1) (by decide), cI (61 + 2) (by decide), cI (61 + 3) (by decide), cI (61 + 4) (by decide)]; exact cy.1 j x y) (fun j x y => by rw [cI (61 + 5) (by decide)]; exact cy.2.1 j x y) (by rw [cI 61 (by decide)]; exact cy.2.2.1) f1 f2 hr r8
  have st : StI (sm C1 79 2 0) 61 := (cy.sti w2).at9 (fun i x y => cI _ (by omega)) (by rw [cI 61 (by decide)]) (by rw [cI 61 (by decide)])
  refine ⟨⟨⟨k.of (fun q x y => cC q (by omega) (by omega)) (fun q x y => funext fun i => r0 q i (by omega) (by omega)) (fun i x y => r0 209 i (by omega) (by omega)), ns, by rw [r54, cI 61 (by decide), cy.2.2.2.1]; exact w3, ⟨i1.eq (fun q x y => cC q (by omega) (by omega)), st⟩, ht, by rw [cC 50 (by decide) (by omega), cC (t + 10) (by omega) (by omega)]; exact h50⟩, ⟨⟨by rw [r65, c79.1], ?_⟩, fun q q0 q1 => by rw [c79.1] at q1; omega⟩, im.of n6.2 (by rw [cC t (by omega) (by omega)]) (fun q hq => cC q (by omega) (by omega)) (by rw [cC 2 (by decide) (by omega)]) (funext fun i => r0 242 i (by omega) (by omega)) (fun i hi => r0 209 i (by omega) (by omega))⟩, tak_sm w5 f1 f2 hr (by rw [r8, ← a5]; exact w2.2.2.2.2.2.1)⟩
  have u := un.1.2
  unfold UI at *
  rw [c79.1, c79.2]; omega
end ZEFF3
