section ZEQ2
theorem nx_m1 (y : Int) : (((y % 4294967296).toNat % 2147483648 : Nat) : Int) = y % 2147483648 := by omega
theorem nx_m2 (y : Int) : (((y % 18446744073709551616).toNat % 2147483648 : Nat) : Int) = y % 2147483648 := by omega
theorem nx_a (y : Int) : b_iand y 2147483647 = y % 2147483648 := by
  unfold b_iand
  have h2 : (Int32.ofInt y &&& Int32.ofInt 2147483647).toInt = (BitVec.ofInt 32 y &&& (Int32.ofInt 2147483647).toBitVec).toInt := rfl
  rw [h2, BitVec.toInt_eq_toNat_of_msb]
  · rw [BitVec.toNat_and, show (Int32.ofInt 2147483647).toBitVec.toNat = 2 ^ 31 - 1 from by decide, Nat.and_two_pow_sub_one_eq_mod, BitVec.toNat_ofInt]
    exact nx_m1 y
  · rw [BitVec.msb_and, show (Int32.ofInt 2147483647).toBitVec.msb = false from by decide, Bool.and_false]
theorem nx_b (y : Int) : b_land y 2147483647 = y % 2147483648 := by
  unfold b_land
  have h2 : (Int64.ofInt y &&& Int64.ofInt 2147483647).toInt = (BitVec.ofInt 64 y &&& (Int64.ofInt 2147483647).toBitVec).toInt := rfl
  rw [h2, BitVec.toInt_eq_toNat_of_msb]
  · rw [BitVec.toNat_and, show (Int64.ofInt 2147483647).toBitVec.toNat = 2 ^ 31 - 1 from by decide, Nat.and_two_pow_sub_one_eq_mod, BitVec.toNat_ofInt]
    exact nx_m2 y
  · rw [BitVec.msb_and, show (Int64.ofInt 2147483647).toBitVec.msb = false from by decide, Bool.and_false]
theorem nx_eq (x : Int) : nxt x = nxL x := by
  unfold nxt nxL
  rw [nx_a, nx_b]
theorem RB.up {N : Prop} {t a : Nat} {b : Int} {C C' R R' : zM} (h : RB N t a b C R) (fa : Fa a C C') (fb : Fb b R R') (hs : SRl t a b C' R') (hi : StI C' a) (hn : N → R' 209 54 = C' a 6) : RB N t a b C' R' := by
  obtain ⟨k, s, m, ⟨i1, i2⟩, n1, n2, ta, ab, bb⟩ := h
  have ec : ∀ q : Nat, q ≤ 53 → C' q = C q := fun q hq => fa q (by omega)
  refine ⟨k.of (fun q x y => ec q (by omega)) (fun q x y => fb.row (by omega)) (fun i x y => fb.c (by omega)), hs, m.of (ec 50 (by decide)) (fun i x y => fb.c (by omega)) (by rw [fb.row (by omega)]), ⟨?_, hi⟩, hn, by rw [ec 50 (by decide)]; exact n2, ta, ab, bb⟩
  exact i1.eq (fun q x y => ec q (by omega))
theorem RB.hear {N : Prop} {t a : Nat} {b x y kd : Int} {C R : zM} (h : RB N t a b C R) (hx : 0 ≤ x ∧ x < C t 2) (hy : 0 ≤ y ∧ y < C t 2) (hk : 0 ≤ kd ∧ kd ≤ 9) : RB N t a b (hearM C a x y kd) (hearR R b x y kd) := by
  have n := h.n.1
  obtain ⟨k, s, m, ⟨i1, i2⟩, n1, n2, ta, ab, bb⟩ := id h
  have ev : R 236 (36 * b + (x * 6 + y)) = C (a + 5) (x * 6 + y) := s.2.2.1 _ (by omega) (by omega)
  have rg := i2.2.2.2.2.1 (x * 6 + y) (by omega) (by omega)
  have e : hearR R b x y kd = sm (sm R 236 (36 * b + (x * 6 + y)) (if C (a + 5) (x * 6 + y) + 1 < 999 then C (a + 5) (x * 6 + y) + 1 else 999)) 235 (6 * b + x) kd := by
    unfold hearR
    rw [ix, ev]
    congr 2
    split <;> split <;> omega
  rw [e]
  refine h.up (hearM_Fa C a x y kd) (((Fb.rf b R).sm _ (by omega)).sm _ (by omega)) ?_ (hearM_I i2 ⟨hx.1, by omega⟩ ⟨hy.1, by omega⟩ hk) (fun z => ?_)
  · unfold hearM
    exact (s.t ⟨by omega, ab⟩).k ⟨by omega, ab⟩
  · unfold hearM
    rw [sm_n (by decide), sm_n (by decide), sm_n (by omega), sm_n (by omega)]; exact n1 z
theorem RB.learn {N : Prop} {t a : Nat} {b x y kd : Int} {C R : zM} (h : RB N t a b C R) (hx : 0 ≤ x ∧ x < C t 2) (hy : 0 ≤ y ∧ y < C t 2) (hk : 0 ≤ kd ∧ kd ≤ 9) : RB N t a b (learnM C t a x y kd) (learnR R b x y kd) := by
  have n := h.n.1
  have g := h.hear hx hy hk
  have et : hearM C a x y kd t 2 = C t 2 := by rw [hearM_Fa C a x y kd t (by have := h.2.2.2.2.2.2; omega)]
  obtain ⟨k, s, m, ⟨i1, i2⟩, n1, n2, ta, ab, bb⟩ := id g
  unfold learnM learnR
  rw [g.nd (by rw [et]; exact hx) (by rw [et]; exact hy), ix, s.2.2.1 (x * 6 + y) (by omega) (by omega)]
  split
  · refine g.up ((Fa.rf a _).sm (by omega) _ _) ((Fb.rf b _).sm _ (by omega)) ?_ (i2.k rfl (kset_in (i2.2.2.1 x hx.1 (by omega)) ⟨hy.1, by omega⟩)) (fun z => ?_)
    · have w := s.w (x := x) (y := y) ⟨by omega, ab⟩ (by rw [et]; exact hx) (by rw [et]; exact hy) (by rw [et]; exact n.2) (i2.2.2.1 x hx.1 (by omega))
      rw [ix] at w
      exact w
    · rw [sm_n (by decide), sm_n (by omega)]; exact n1 z
  · exact g
theorem RB.sd {N : Prop} {t a : Nat} {b y kd : Int} (hk : 0 ≤ kd ∧ kd ≤ 9) : ∀ (n : Nat) (i : Int) (C R : zM) (acc : Int), RB N t a b C R → 0 ≤ i → i + n ≤ C t 2 → 0 ≤ y ∧ y < C t 2 → RB N t a b (sdM t a y kd n i C acc).1 (sdR b y kd n i R acc).1 ∧ (sdR b y kd n i R acc).2 = (sdM t a y kd n i C acc).2
  | 0, i, C, R, acc, h, _, _, _ => ⟨h, rfl⟩
  | n + 1, i, C, R, acc, h, i0, i1, hy => by
    have hr := h.hr (x := i) (y := y) ⟨i0, by omega⟩ hy
    unfold sdM sdR
    rw [hr]
    by_cases e : i = y
    · rw [if_pos (Or.inl e), if_pos e, if_pos rfl]
      exact RB.sd hk n (i + 1) C R acc h (by omega) (by omega) hy
    · rw [if_neg e]
      by_cases z : hrM C t a i y = 0
      · rw [if_pos (Or.inr z), if_pos z]
        exact RB.sd hk n (i + 1) C R acc h (by omega) (by omega) hy
      · rw [if_neg (fun q => q.elim e z), if_neg z]
        have g := h.learn (x := i) (y := y) (kd := kd) ⟨i0, by omega⟩ hy hk
        have et : learnM C t a i y kd t 2 = C t 2 := by rw [learnM_Fa C t a i y kd t (by have := h.2.2.2.2.2.2; omega)]
        exact RB.sd hk n (i + 1) _ _ _ g (by omega) (by rw [et]; omega) (by rw [et]; exact hy)
theorem RB.td {N : Prop} {t a : Nat} {b : Int} : ∀ (n : Nat) (i : Int) (C R : zM), RB N t a b C R → 0 ≤ i → i + n ≤ C t 6 → RB N t a b (tdM t a n i C) (tdR b n i R)
  | 0, i, C, R, h, _, _ => h
  | n + 1, i, C, R, h, i0, i1 => by
    obtain ⟨k, s, m, ⟨j1, j2⟩, n1, n2, ta, ab, bb⟩ := id h
    have q := k.2.2.1 i i0 (by omega)
    have rg := j1.2.2.2.2.2.1 i i0 (by have := j1.2.1; omega)
    have g : RB N t a b (if C (t + 5) i = C a 5 then sm C (a + 1) (C (t + 4) i) (C (t + 6) i) else C) (if R 218 i = R 238 b then sm R 233 (6 * b + R 217 i) (R 219 i) else R) := by
      rw [q.2.1, s.2.2.2.2, q.1, q.2.2]
      split
      · refine h.up ((Fa.rf a _).sm (by omega) _ _) ((Fb.rf b _).sm _ (by omega)) (s.d ⟨by omega, ab⟩ (by omega)) (j2.d rfl rg.2.2) (fun z => ?_)
        rw [sm_n (by decide), sm_n (by omega)]; exact n1 z
      · exact h
    have et : (if C (t + 5) i = C a 5 then sm C (a + 1) (C (t + 4) i) (C (t + 6) i) else C) t 6 = C t 6 := by
      split
      · rw [sm_n (by omega)]
      · rfl
    unfold tdM tdR
    exact RB.td n (i + 1) _ _ g (by omega) (by rw [et]; omega)
theorem RB.sr {N : Prop} {t a : Nat} {b : Int} : ∀ (n : Nat) (i : Int) (C R : zM), RB N t a b C R → 0 ≤ i → i + n ≤ C t 10 → RB N t a b (srM t a n i C) (srR b n i R)
  | 0, i, C, R, h, _, _ => h
  | n + 1, i, C, R, h, i0, i1 => by
    obtain ⟨k, s, m, ⟨j1, j2⟩, n1, n2, ta, ab, bb⟩ := id h
    have q := k.2.2.2.1 i i0 (by omega)
    have rg := j1.2.2.2.2.2.2.1 i i0 (by have := j1.2.2.1; omega)
    have sd := RB.sd (N := N) (t := t) (a := a) (b := b) (y := C (t + 7) i) (kd := C (t + 9) i) rg.2.2 (C t 2).toNat 0 C R 0 h (by omega) (by have := j1.1; omega) q.2.2.2.1
    have g : RB N t a b (if C (t + 8) i = C a 5 ∧ C (t + 7) i ≠ C 50 5 then (sdM t a (C (t + 7) i) (C (t + 9) i) (C t 2).toNat 0 C 0).1 else C) (if R 221 i = R 238 b ∧ R 220 i ≠ R 209 59 then (sdR b (R 220 i) (R 222 i) (R 209 12).toNat 0 R 0).1 else R) := by
      rw [q.2.1, s.2.2.2.2, q.1, q.2.2.1, m.2.1, k.1.1]
      split
      · exact sd.1
      · exact h
    have et : (if C (t + 8) i = C a 5 ∧ C (t + 7) i ≠ C 50 5 then (sdM t a (C (t + 7) i) (C (t + 9) i) (C t 2).toNat 0 C 0).1 else C) t 10 = C t 10 := by
      split
      · rw [sdM_Fa t a _ _ _ _ C 0 t (by omega)]
      · rfl
    unfold srM srR
    exact RB.sr n (i + 1) _ _ g (by omega) (by rw [et]; omega)
theorem RB.dr1 {N : Prop} {t a : Nat} {b i : Int} {C R : zM} (h : RB N t a b C R) (hi : 0 ≤ i ∧ i < C t 2) : drvR R b i = drv C t a i := by
  have n := h.n.1
  unfold drvR drv
  have l0 := (h.1.2.2.2.2.2 2 (by decide)).2
  rw [show ((2 : Nat) : Int) = 2 from rfl, show t + 13 + 2 * 2 = t + 17 by omega] at l0
  rw [h.km ⟨hi.1, by omega⟩, l0, (h.2.1.1 i hi.1 hi.2).1, (h.2.1.1 i hi.1 hi.2).2, h.2.1.2.2.2.2]
theorem drv_in (C : zM) (t a : Nat) (i : Int) : 0 ≤ drv C t a i ∧ drv C t a i ≤ 99 := by unfold drv; exact ct_in (by decide)
theorem RB.dr {N : Prop} {t a : Nat} {b : Int} : ∀ (n : Nat) (i : Int) (C R : zM), RB N t a b C R → 0 ≤ i → i + n ≤ C t 2 → RB N t a b (drM t a n i C) (drR b n i R)
  | 0, i, C, R, h, _, _ => h
  | n + 1, i, C, R, h, i0, i1 => by
    obtain ⟨k, s, m, ⟨j1, j2⟩, n1, n2, ta, ab, bb⟩ := id h
    have nn := h.n.1
    unfold drM drR
    rw [h.dr1 ⟨i0, by omega⟩]
    refine RB.dr n (i + 1) _ _ (h.up ((Fa.rf a _).sm (by omega) _ _) ((Fb.rf b _).sm _ (by omega)) (s.d ⟨by omega, ab⟩ (by omega)) (j2.d rfl (drv_in C t a i)) (fun z => ?_)) (by omega) (by rw [sm_n (by omega)]; omega)
    rw [sm_n (by decide), sm_n (by omega)]; exact n1 z
theorem RB.dr0 {N : Prop} {t a : Nat} {b : Int} (n : Nat) : ∀ (i : Int) (C R : zM), RB N t a b C R → lwf C (t + 17) = (fun _ => none) → 0 ≤ i → i + n ≤ C t 2 → drR b n i R = R := by
  induction n with
  | zero => intro i C R _ _ _ _; rfl
  | succ n ih =>
    intro i C R h hl i0 i1
    have nn := h.n.1
    unfold drR
    have e : drvR R b i = R 233 (6 * b + i) := by
      rw [h.dr1 ⟨i0, by omega⟩, (h.2.1.1 i i0 (by omega)).1]
      unfold drv
      rw [hl]
      have rg := h.2.2.2.1.2.1 i i0 (by omega)
      show ct (C (a + 1) i + 0) 0 99 = _
      rw [Int.add_zero]
      exact ct_id rg
    rw [e, sm_id rfl]
    exact ih (i + 1) C R h hl (by omega) (by omega)
/-- fading -/
theorem RB.fv {N : Prop} {t a : Nat} {b : Int} (n : Nat) : ∀ (i : Int) (C R : zM), RB N t a b C R → C 50 2 ≠ 0 → 0 ≤ i → i + n ≤ C t 2 → RB N t a b (fvM t a n i C) (fvR b n i R) := by
  induction n with
  | zero => intro i C R h _ _ _; exact h
  | succ n ih =>
    intro i C R h h2 i0 i1
    obtain ⟨k, s, m, ⟨j1, j2⟩, n1, n2, ta, ab, bb⟩ := id h
    have nn := h.n.1
    have e13 := k.2.2.2.2.1 2 (by decide) (by decide)
    have mf := m.2.2.2.2
    unfold fvM fvR
    have g2 := (s.1 i i0 (by omega)).2
    have gr := j2.2.1 i i0 (by omega)
    -- the draw
    have fd : RB N t a b (fdM t a C) (fmR R) ∧ (fcR R ≠ 0 ↔ fdf t a C) ∧ fdM t a C 50 2 = C 50 2 ∧ fdM t a C t 2 = C t 2 ∧ fdM t a C (a + 2) = C (a + 2) ∧ fmR R 234 = R 234 := by
      by_cases c1 : C 50 2 = 1
      · have hf : R 209 56 = 0 ∧ (R 213 2 = 100 ∨ (R 209 55 = 0 ∧ 50 ≤ R 213 2)) := by omega
        have e1 : fdM t a C = C := by unfold fdM; rw [if_pos c1]
        have e2 : fmR R = R := by unfold fmR; rw [if_neg (by omega)]
        refine ⟨by rw [e1, e2]; exact h, ⟨fun _ => Or.inl c1, fun _ => ?_⟩, by rw [e1], by rw [e1], by rw [e1], by rw [e2]⟩
        unfold fcR
        rw [if_neg (by omega)]
        by_cases c : R 213 2 = 100
        · rw [if_pos c]; decide
        · rw [if_neg c, if_neg (by omega), if_pos (by omega)]; decide
      · have c2 : C 50 2 = 2 := by omega
        have hf : R 209 56 = 0 ∧ R 209 55 ≠ 0 ∧ R 213 2 ≠ 0 ∧ R 213 2 ≠ 100 := by omega
        have hN := n1 (n2 c2)
        have e1 : fdM t a C = sm C a 6 (nxt (C a 6)) := by unfold fdM; rw [if_neg c1]
        have e2 : fmR R = sm R 209 54 (nxt (C a 6)) := by unfold fmR; rw [if_pos (by omega), hN, nx_eq]
        refine ⟨?_, ?_, by rw [e1, sm_n (by omega)], by rw [e1, sm_n (by omega)], by rw [e1, sm_n (by omega)], by rw [e2, sm_n (by decide)]⟩
        · rw [e1, e2]
          refine h.up ((Fa.rf a _).sm (by omega) _ _) ((Fb.rf b _).sm _ (by omega)) ?_ (j2.n (nxt_in _)) (fun _ => by rw [sm_s, sm_s])
          exact s.of (by rw [sm_n (by omega)]) (fun q x y => sm_n (by omega)) (by rw [sm_k, us_n (by decide)]) (fun q x y => sm_n (by omega)) (by rw [sm_n (by decide)])
        · unfold fcR fdf
          rw [if_neg (by omega), if_neg (by omega), if_pos hf.2.1, hN, ← nx_eq, e13]
          constructor
          · intro z
            refine Or.inr ?_
            by_cases w : ((nxt (C a 6)).tdiv 65536).tmod 100 < C (t + 10) 2
            · exact w
            · rw [if_neg w] at z; exact absurd rfl z
          · intro z
            rw [if_pos (z.resolve_left c1)]; decide
    obtain ⟨f1, f2, f3, f4, f5, f6⟩ := fd
    have cond : (fcR R ≠ 0 ∧ 0 < R 234 (6 * b + i)) ↔ (fdf t a C ∧ 0 < C (a + 2) i) := by rw [f2, g2]
    by_cases cc : fdf t a C ∧ 0 < C (a + 2) i
    · rw [if_pos cc, if_pos (cond.2 cc), g2]
      obtain ⟨k9, s9, m9, ⟨j9, j8⟩, n9, n8, _⟩ := id f1
      refine ih (i + 1) _ _ (f1.up ((Fa.rf a _).sm (by omega) _ _) ((Fb.rf b _).sm _ (by omega)) (s9.g ⟨by omega, ab⟩ (by rw [f4]; omega)) (j8.g rfl (by omega)) (fun z => ?_)) (by rw [sm_n (by omega), f3]; exact h2) (by omega) (by rw [sm_n (by omega), f4]; omega)
      rw [sm_n (by decide), sm_n (by omega)]; exact n9 z
    · rw [if_neg cc, if_neg (fun z => cc (cond.1 z))]
      exact ih (i + 1) _ _ f1 (by rw [f3]; exact h2) (by omega) (by rw [f4]; omega)
theorem RB.fv0 {N : Prop} {t a : Nat} {b : Int} {C R : zM} (h : RB N t a b C R) (h2 : C 50 2 = 0) : ∀ (n : Nat) (i : Int), fvR b n i R = R
  | 0, i => rfl
  | n + 1, i => by
    have mf := h.2.2.1.2.2.2.2
    have e2 : fmR R = R := by unfold fmR; rw [if_neg (by omega)]
    have e3 : fcR R = 0 := by
      unfold fcR
      by_cases c : R 209 56 ≠ 0 ∨ R 213 2 = 0
      · rw [if_pos c]
      · rw [if_neg c, if_neg (by omega), if_neg (by omega), if_neg (by omega)]
    unfold fvR
    rw [if_neg (fun z => z.1 e3), e2]
    exact RB.fv0 h h2 n (i + 1)
theorem tdR_0 {b : Int} {R : zM} : ∀ (n : Nat) (i : Int), (∀ j : Int, i ≤ j → j < i + n → R 218 j ≠ R 238 b) → tdR b n i R = R
  | 0, i, _ => rfl
  | n + 1, i, h => by
    unfold tdR
    rw [if_neg (h i (by omega) (by omega))]
    exact tdR_0 n (i + 1) (fun j x y => h j (by omega) (by omega))
theorem srR_0 {b : Int} {R : zM} : ∀ (n : Nat) (i : Int), (∀ j : Int, i ≤ j → j < i + n → R 221 j ≠ R 238 b) → srR b n i R = R
  | 0, i, _ => rfl
  | n + 1, i, h => by
    unfold srR
    rw [if_neg (fun z => h i (by omega) (by omega) z.1)]
    exact srR_0 n (i + 1) (fun j x y => h j (by omega) (by omega))
/-- an hour -/
theorem RB.hour {N : Prop} {t a : Nat} {b : Int} {C R : zM} (h : RB N t a b C R) (h5 : C a 5 < 9999) : RB N t a b (hourM t a C) (hourR b R) := by
  obtain ⟨k, s, m, ⟨j1, j2⟩, n1, n2, ta, ab, bb⟩ := id h
  have nn := h.n.1
  have e1 : RB N t a b (hourM1 t a C) (hrR2 b R) := by
    unfold hourM1 hrR2 hrR1
    by_cases c : C a 5 ≤ 99
    · rw [if_pos c]
      have g : RB N t a b (if C 50 4 = 0 then C else tdM t a (C t 6).toNat 0 C) (if R 209 58 = 0 then tdR b (R 209 13).toNat 0 R else R) := by
        by_cases d : C 50 4 = 0
        · rw [if_pos d, if_neg (fun z => (m.2.2.1.1 z) d)]; exact h
        · rw [if_neg d, if_pos (m.2.2.1.2 d), k.1.2.1]
          exact RB.td _ 0 C R h (by omega) (by have := j1.2.1; omega)
      have et : (if C 50 4 = 0 then C else tdM t a (C t 6).toNat 0 C) t 10 = C t 10 := by
        split
        · rfl
        · rw [tdM_Fa t a _ _ C t (by omega)]
      have e14 : R 209 14 = C t 10 := k.1.2.2.1
      rw [e14]
      exact RB.sr _ 0 _ _ g (by omega) (by rw [et]; have := j1.2.2.1; omega)
    · rw [if_neg c]
      have t0 : tdR b (R 209 13).toNat 0 R = R := tdR_0 _ _ (fun j x y => by
        rw [k.1.2.1] at y
        have := j1.2.1
        rw [(k.2.2.1 j x (by omega)).2.1, s.2.2.2.2]
        have := (j1.2.2.2.2.2.1 j x (by omega)).2.1
        omega)
      have s0 : srR b (R 209 14).toNat 0 R = R := srR_0 _ _ (fun j x y => by
        rw [k.1.2.2.1] at y
        have := j1.2.2.1
        rw [(k.2.2.2.1 j x (by omega)).2.1, s.2.2.2.2]
        have := (j1.2.2.2.2.2.2.1 j x (by omega)).2.1
        omega)
      rw [t0]
      have : (if R 209 58 = 0 then R else R) = R := by split <;> rfl
      rw [this, s0]; exact h
  have q1 := hourM1_Fa t a C
  have r1 : ∀ q : Nat, q ≤ 53 → hourM1 t a C q = C q := fun q hq => q1 q (by omega)
  have e2 : RB N t a b (hourM2 t a C) (hrR3 b R) := by
    unfold hourM2 hrR3
    have f2 := (e1.1.2.2.2.2.2 2 (by decide)).1
    by_cases d : R 209 57 = 0
    · rw [if_pos d, k.1.1]
      by_cases w : 0 < C (t + 17) 1
      · rw [if_pos ⟨m.2.2.2.1.1 d, w⟩]
        exact RB.dr _ 0 _ _ e1 (by omega) (by rw [r1 t (by omega)]; omega)
      · rw [if_neg (fun z => w z.2), RB.dr0 (C t 2).toNat 0 (hourM1 t a C) _ e1 (funext (lwf_0 (M := hourM1 t a C) (by rw [r1 (t + 17) (by omega)]; omega))) (by omega) (by rw [r1 t (by omega)]; omega)]
        exact e1
    · rw [if_neg d, if_neg (fun z => d (m.2.2.2.1.2 z.1))]
      exact e1
  have q2 := hourM2_Fa t a C
  have r2 : ∀ q : Nat, q ≤ 53 → hourM2 t a C q = C q := fun q hq => q2 q (by omega)
  have e3 : RB N t a b (hourM3 t a C) (hrR4 b R) := by
    unfold hourM3 hrR4
    have e12 : R 209 12 = C t 2 := k.1.1
    rw [e12]
    by_cases d : C 50 2 = 0
    · rw [if_neg (fun z => z d), RB.fv0 e2 (by rw [r2 50 (by decide)]; exact d)]
      exact e2
    · rw [if_pos d]
      exact RB.fv _ 0 _ _ e2 (by rw [r2 50 (by decide)]; exact d) (by omega) (by rw [r2 t (by omega)]; omega)
  have i8 := e3.2.1.2.2.2.2
  unfold hourM hourR
  rw [s.2.2.2.2]
  obtain ⟨k9, s9, m9, ⟨j9, j8⟩, n9, n8, _⟩ := id e3
  refine e3.up ((Fa.rf a _).sm (by omega) _ _) ((Fb.rf b _).sm _ (by omega)) (s9.h ⟨by omega, ab⟩) (j8.h (by have := j2.2.2.2.2.2.1; omega)) (fun z => ?_)
  rw [sm_n (by decide), sm_k, us_n (by decide)]; exact n9 z
end ZEQ2
