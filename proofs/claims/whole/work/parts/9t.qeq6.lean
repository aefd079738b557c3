section ZEQ9
theorem RN.cy {t : Nat} {C R G H : zM} (h : RN t C R) (hc : CyR C 67 61 G) (hb : LtR R H) : RH t 67 1 G H := by
  obtain ⟨k, s, n, ⟨i1, i2⟩, ht, h5⟩ := h
  obtain ⟨l1, l2, l3, p, q⟩ := hb
  obtain ⟨c0, c1, c2, c3, c4⟩ := cy_c ht hc
  have kc : ∀ k : Nat, t ≤ k → k ≤ t + 18 → G k = C k := fun k a b => c0 k (by omega)
  refine ⟨k.rq kc (fun k a b i => q k i (by omega)) (fun i a b => q 209 i (by omega)), ?_, ?_, ⟨i1.eq kc, hc.sti i2⟩, ht, by decide⟩
  · refine s.mk i1.1.2 (by rw [kc t (by omega) (by omega)]) c1 c2 c3 (fun j a b => ?_) (fun j a b => ?_) l3
    · have z := l1 j a b
      rw [show 6 * (0 : Int) + j = j by omega]; exact z
    · have z := l2 j a b
      rw [show 36 * (0 : Int) + j = j by omega]; exact z
  · rw [p.2.2.2.2.2, c0 50 (by decide), h5]; exact k.2.2.2.2.1 0 (by decide) (by decide)
theorem RH.up {t a : Nat} {b : Int} {C C' R R' : zM} (h : RH t a b C R) (fa : Fa a C C') (fb : Fb b R R') (hs : SRl t a b C' R') (hi : StI C' a) : RH t a b C' R' := by
  obtain ⟨k, s, m, ⟨i1, i2⟩, ta, ab⟩ := h
  have ec : ∀ q : Nat, q ≤ 53 → C' q = C q := fun q hq => fa q (by omega)
  exact ⟨k.of (fun q x y => ec q (by omega)) (fun q x y => fb.row (by omega)) (fun i x y => fb.c (by omega)), hs, by rw [fb.c (by decide), ec 50 (by decide)]; exact m, ⟨i1.eq (fun q x y => ec q (by omega)), hi⟩, ta, ab⟩
theorem RH.nd {t a : Nat} {b x y kd : Int} {C R : zM} (h : RH t a b C R) (hx : 0 ≤ x ∧ x < C t 2) (hy : 0 ≤ y ∧ y < C t 2) : ndR R b x y kd = ndM C t a x y kd := by
  have n := h.n.1
  unfold ndR ndM
  have l0 := (h.1.2.2.2.2.2 1 (by decide)).2
  rw [show ((1 : Nat) : Int) = 1 from rfl, show t + 13 + 2 * 1 = t + 15 by omega] at l0
  rw [h.km ⟨hx.1, by omega⟩, l0, h.1.2.2.2.2.1 1 (by decide) (by decide), (h.2.1.1 x hx.1 hx.2).1, (h.2.1.1 y hy.1 hy.2).1, (h.2.1.1 x hx.1 hx.2).2, ix, h.2.1.2.2.1 _ (by omega) (by omega), h.2.1.2.2.2.2]
theorem RH.hear {t a : Nat} {b x y kd : Int} {C R : zM} (h : RH t a b C R) (hb : b = 0 ∨ b = 1) (hx : 0 ≤ x ∧ x < C t 2) (hy : 0 ≤ y ∧ y < C t 2) (hk : 0 ≤ kd ∧ kd ≤ 9) : RH t a b (hearM C a x y kd) (hearR R b x y kd) := by
  have n := h.n.1
  obtain ⟨k, s, m, ⟨i1, i2⟩, ta, ab⟩ := id h
  have ev : R 236 (36 * b + (x * 6 + y)) = C (a + 5) (x * 6 + y) := s.2.2.1 _ (by omega) (by omega)
  have rg := i2.2.2.2.2.1 (x * 6 + y) (by omega) (by omega)
  have e : hearR R b x y kd = sm (sm R 236 (36 * b + (x * 6 + y)) (if C (a + 5) (x * 6 + y) + 1 < 999 then C (a + 5) (x * 6 + y) + 1 else 999)) 235 (6 * b + x) kd := by
    unfold hearR
    rw [ix, ev]
    congr 2
    split <;> split <;> omega
  rw [e]
  refine h.up (hearM_Fa C a x y kd) (((Fb.rf b R).sm _ (by omega)).sm _ (by omega)) ?_ (hearM_I i2 ⟨hx.1, by omega⟩ ⟨hy.1, by omega⟩ hk)
  unfold hearM
  exact (s.t ⟨by omega, ab⟩).k ⟨by omega, ab⟩
theorem RH.learn {t a : Nat} {b x y kd : Int} {C R : zM} (h : RH t a b C R) (hb : b = 0 ∨ b = 1) (hx : 0 ≤ x ∧ x < C t 2) (hy : 0 ≤ y ∧ y < C t 2) (hk : 0 ≤ kd ∧ kd ≤ 9) : RH t a b (learnM C t a x y kd) (learnR R b x y kd) := by
  have n := h.n.1
  have g := h.hear hb hx hy hk
  have et : hearM C a x y kd t 2 = C t 2 := by rw [hearM_Fa C a x y kd t (by have := h.2.2.2.2; omega)]
  obtain ⟨k, s, m, ⟨i1, i2⟩, ta, ab⟩ := id g
  unfold learnM learnR
  rw [g.nd (by rw [et]; exact hx) (by rw [et]; exact hy), ix, s.2.2.1 (x * 6 + y) (by omega) (by omega)]
  split
  · refine g.up ((Fa.rf a _).sm (by omega) _ _) ((Fb.rf b _).sm _ (by omega)) ?_ (i2.k rfl (kset_in (i2.2.2.1 x hx.1 (by omega)) ⟨hy.1, by omega⟩))
    have w := s.w (x := x) (y := y) ⟨by omega, ab⟩ (by rw [et]; exact hx) (by rw [et]; exact hy) (by rw [et]; exact n.2) (i2.2.2.1 x hx.1 (by omega))
    rw [ix] at w
    exact w
  · exact g
theorem RH.sd {t a : Nat} {b y kd : Int} (hb : b = 0 ∨ b = 1) (hk : 0 ≤ kd ∧ kd ≤ 9) : ∀ (n : Nat) (i : Int) (C R : zM) (acc : Int), RH t a b C R → 0 ≤ i → i + n ≤ C t 2 → 0 ≤ y ∧ y < C t 2 → RH t a b (sdM t a y kd n i C acc).1 (sdR b y kd n i R acc).1
  | 0, i, C, R, acc, h, _, _, _ => h
  | n + 1, i, C, R, acc, h, i0, i1, hy => by
    have hr := h.hr (x := i) (y := y) ⟨i0, by omega⟩ hy
    unfold sdM sdR
    rw [hr]
    by_cases e : i = y
    · rw [if_pos (Or.inl e), if_pos e, if_pos rfl]
      exact RH.sd hb hk n (i + 1) C R acc h (by omega) (by omega) hy
    · rw [if_neg e]
      by_cases z : hrM C t a i y = 0
      · rw [if_pos (Or.inr z), if_pos z]
        exact RH.sd hb hk n (i + 1) C R acc h (by omega) (by omega) hy
      · rw [if_neg (fun q => q.elim e z), if_neg z]
        have g := h.learn (x := i) (y := y) (kd := kd) hb ⟨i0, by omega⟩ hy hk
        have et : learnM C t a i y kd t 2 = C t 2 := by rw [learnM_Fa C t a i y kd t (by have := h.2.2.2.2; omega)]
        exact RH.sd hb hk n (i + 1) _ _ _ g (by omega) (by rw [et]; omega) (by rw [et]; exact hy)
/-- bits of those for whom something holds -/
theorem kb_z {f : Int → Int} {j : Int} (hj : 0 ≤ j ∧ j < 6) : ∀ (n : Nat) (i acc : Int), 0 ≤ i → i + n ≤ 6 → 0 ≤ acc ∧ acc ≤ 63 → kbit (zbits f n i acc) j = if i ≤ j ∧ j < i + n ∧ f j ≠ 0 then 1 else kbit acc j
  | 0, i, acc, _, _, _ => by
    rw [if_neg (by omega)]; rfl
  | n + 1, i, acc, i0, i1, ha => by
    unfold zbits
    have ks := kset_in ha (j := i) ⟨i0, by omega⟩
    by_cases c : f i = 0
    · rw [if_pos c, kb_z hj n (i + 1) acc (by omega) (by omega) ha]
      by_cases d : i + 1 ≤ j ∧ j < i + 1 + n ∧ f j ≠ 0
      · rw [if_pos d, if_pos (by omega)]
      · rw [if_neg d, if_neg]
        rintro ⟨x, y, z⟩
        refine d ⟨?_, by omega, z⟩
        by_cases e : i = j
        · rw [e] at c; exact absurd c z
        · omega
    · rw [if_neg c, kb_z hj n (i + 1) _ (by omega) (by omega) ks, kset_bit ha ⟨i0, by omega⟩ hj]
      by_cases e : j = i
      · subst e
        rw [if_neg (by omega), if_pos rfl, if_pos ⟨by omega, by omega, c⟩]
      · rw [if_neg e]
        by_cases d : i + 1 ≤ j ∧ j < i + 1 + n ∧ f j ≠ 0
        · rw [if_pos d, if_pos (by omega)]
        · rw [if_neg d, if_neg (by omega)]
theorem kb0 {j : Int} (hj : 0 ≤ j ∧ j < 6) : kbit 0 j = 0 := by
  have : j = 0 ∨ j = 1 ∨ j = 2 ∨ j = 3 ∨ j = 4 ∨ j = 5 := by omega
  rcases this with e | e | e | e | e | e <;> subst e <;> decide +kernel
theorem bits_ext {x y : Int} (hx : 0 ≤ x ∧ x ≤ 63) (hy : 0 ≤ y ∧ y ≤ 63) (h : ∀ j : Int, 0 ≤ j → j < 6 → kbit x j = kbit y j) : x = y := by
  rw [← zb_eq hx, ← zb_eq hy]
  exact zbits_cong _ _ _ (fun j a b => by show kbit x j = 0 ↔ kbit y j = 0; rw [h j a (by omega)])
theorem zb_0 {f : Int → Int} {n : Int} (hn : 0 ≤ n ∧ n ≤ 6) : zbits f n.toNat 0 0 = 0 ↔ ∀ j : Int, 0 ≤ j → j < n → f j = 0 := by
  have i := zbits_in f n.toNat 0 0 (by omega) (by omega) (by omega)
  constructor
  · intro z j a b
    have k := kb_z (f := f) (j := j) ⟨a, by omega⟩ n.toNat 0 0 (by omega) (by omega) (by omega)
    rw [z, kb0 ⟨a, by omega⟩] at k
    by_cases c : f j = 0
    · exact c
    · rw [if_pos ⟨a, by omega, c⟩] at k; exact absurd k (by decide)
  · intro h
    refine bits_ext i (by omega) (fun j a b => ?_)
    rw [kb_z (f := f) (j := j) ⟨a, b⟩ n.toNat 0 0 (by omega) (by omega) (by omega), if_neg]
    rintro ⟨x, y, z⟩
    exact z (h j a (by omega))
theorem kw_b {C : zM} {a : Nat} {x j : Int} (hj : 0 ≤ j ∧ j < 6) : kbit (kwC C a x) j = kbit (C (a + 3) j) x := by
  unfold kwC
  rw [kb_z hj 6 0 0 (by omega) (by omega) (by omega), kb0 hj]
  rcases kbit01 (C (a + 3) j) x with e | e
  · rw [if_neg (fun z => z.2.2 e), e]
  · rw [if_pos ⟨hj.1, by omega, by rw [e]; decide⟩, e]
theorem kw_in (C : zM) (a : Nat) (x : Int) : 0 ≤ kwC C a x ∧ kwC C a x ≤ 63 := zbits_in _ _ _ _ (by omega) (by omega) (by omega)
/-- who knows, goes on knowing -/
theorem learn_m {C : zM} {t a : Nat} {x y kd j o : Int} (i : StI C a) (hx : 0 ≤ x ∧ x < 6) (hy : 0 ≤ y ∧ y < 6) (ho : 0 ≤ o ∧ o < 6) (h : kbit (C (a + 3) j) o = 1) : kbit (learnM C t a x y kd (a + 3) j) o = 1 := by
  have e : hearM C a x y kd (a + 3) = C (a + 3) := by unfold hearM; rw [sm_n (by omega), sm_n (by omega)]
  unfold learnM
  split
  · rw [sm_k, e]
    by_cases c : j = x
    · subst c
      rw [us_s, kset_bit (i.2.2.1 j hx.1 hx.2) hy ho]
      split
      · rfl
      · exact h
    · rw [us_n c]; exact h
  · rw [e]; exact h
theorem sd_m {t a : Nat} {y kd j o : Int} (hk : 0 ≤ kd ∧ kd ≤ 9) (hy : 0 ≤ y ∧ y < 6) (ho : 0 ≤ o ∧ o < 6) : ∀ (n : Nat) (i : Int) (C : zM) (acc : Int), StI C a → 0 ≤ i → i + n ≤ 6 → kbit (C (a + 3) j) o = 1 → kbit ((sdM t a y kd n i C acc).1 (a + 3) j) o = 1
  | 0, i, C, acc, _, _, _, h => h
  | n + 1, i, C, acc, hi, i0, i1, h => by
    unfold sdM
    split
    · exact sd_m hk hy ho n (i + 1) C acc hi (by omega) (by omega) h
    · exact sd_m hk hy ho n (i + 1) _ _ (learnM_I hi ⟨i0, by omega⟩ hy hk) (by omega) (by omega) (learn_m hi ⟨i0, by omega⟩ hy ho h)
theorem an_dec : ∀ x y : Fin 64, (b_iand ((x.val : Nat) : Int) (b_ixor ((y.val : Nat) : Int) (-1)) = 0 ↔ ∀ j : Fin 6, kbit ((x.val : Nat) : Int) ((j.val : Nat) : Int) = 1 → kbit ((y.val : Nat) : Int) ((j.val : Nat) : Int) = 1) := by decide +kernel
theorem an_eq {x y : Int} (hx : 0 ≤ x ∧ x ≤ 63) (hy : 0 ≤ y ∧ y ≤ 63) : b_iand x (b_ixor y (-1)) = 0 ↔ ∀ j : Int, 0 ≤ j → j < 6 → kbit x j = 1 → kbit y j = 1 := by
  have z := an_dec ⟨x.toNat, by omega⟩ ⟨y.toNat, by omega⟩
  rw [show ((x.toNat : Nat) : Int) = x by omega, show ((y.toNat : Nat) : Int) = y by omega] at z
  rw [z]
  constructor
  · intro h j a b k
    have q := h ⟨j.toNat, by omega⟩
    rw [show ((j.toNat : Nat) : Int) = j by omega] at q
    exact q k
  · intro h j
    exact h _ (by omega) (by have := j.isLt; omega)
theorem cd_no {t : Nat} {x wd j : Int} (hx : 0 ≤ x ∧ x < 6) (hj : 0 ≤ j ∧ j < 6) (hw : kbit wd j = 0) : ∀ (n : Nat) (k : Int) (C : zM), StI C 67 → 0 ≤ C t 2 ∧ C t 2 ≤ 6 → kbit (C (67 + 3) j) x = 1 → t ≤ 25 → cdF t x wd n k C = -2
  | 0, k, C, _, _, _, _ => rfl
  | n + 1, k, C, i, h2, h, ht => by
    unfold cdF
    rw [if_neg]
    · have s := sdM_I t 67 (y := x) (kd := 1) hx (by omega) (C t 2).toNat 0 C 0 i (by omega) (by omega)
      have e2 : (sdM t 67 x 1 (C t 2).toNat 0 C 0).1 t 2 = C t 2 := by rw [sdM_Fa t 67 _ _ _ _ C 0 t (by omega)]
      exact cd_no hx hj hw n (k + 1) _ s (by rw [e2]; exact h2) (sd_m (by omega) hx hx _ _ _ _ i (by omega) (by omega) h) ht
    · intro e
      have := kw_b (C := C) (a := 67) (x := x) hj
      rw [e, hw, h] at this
      exact absurd this (by decide)
theorem q_code {t : Nat} {x o K0 : Int} (hK : 0 ≤ K0 ∧ K0 ≤ 63) : ∀ (n : Nat) (k : Int) (C R : zM), RH t 67 1 C R → 0 ≤ x ∧ x < C t 2 → 0 ≤ o ∧ o < C t 2 → (∀ j : Int, 0 ≤ j → j < 6 → kbit K0 j = 1 → kbit (C (67 + 3) j) x = 1) → cdR x o (kset K0 o) n k R = cdF t x (kset K0 o) n k C := by
  intro n
  induction n with
  | zero => intro k C R _ _ _ _; rfl
  | succ n ih =>
    intro k C R h hx ho hm
    have n6 := h.n.1
    have i := h.2.2.2.1
    have ek : kwR R 1 x = kwC C 67 x := kw_eq h.1 h.2.1 i ⟨hx.1, by omega⟩
    have ks := kset_in hK (j := o) ⟨ho.1, by omega⟩
    have kb := kw_in C 67 x
    have wb : ∀ j : Int, 0 ≤ j → j < 6 → kbit (kset K0 o) j = if j = o then 1 else kbit K0 j := fun j a b => kset_bit hK ⟨ho.1, by omega⟩ ⟨a, b⟩
    have eR : cdR x o (kset K0 o) (n + 1) k R = if b_iand (kwR R 1 x) (b_ixor (kset K0 o) (-1)) ≠ 0 then -2 else if kbit (kwR R 1 x) o ≠ 0 then k else cdR x o (kset K0 o) n (k + 1) (sdR 1 x 1 (R 209 12).toNat 0 R 0).1 := rfl
    have eC : cdF t x (kset K0 o) (n + 1) k C = if kwC C 67 x = kset K0 o then k else cdF t x (kset K0 o) n (k + 1) (sdM t 67 x 1 (C t 2).toNat 0 C 0).1 := rfl
    rw [eR, ek]
    have an := an_eq kb ks
    by_cases c : b_iand (kwC C 67 x) (b_ixor (kset K0 o) (-1)) = 0
    · rw [if_neg (fun z => z c)]
      have sub := an.1 c
      by_cases d : kbit (kwC C 67 x) o = 0
      · rw [if_neg (fun z => z d), eC, if_neg, h.n.2]
        · have g := RH.sd (t := t) (a := 67) (b := 1) (y := x) (kd := 1) (Or.inr rfl) (by omega) (C t 2).toNat 0 C R 0 h (by omega) (by omega) hx
          have e2 : (sdM t 67 x 1 (C t 2).toNat 0 C 0).1 t 2 = C t 2 := by rw [sdM_Fa t 67 _ _ _ _ C 0 t (by have := h.2.2.2.2.1; omega)]
          refine ih (k + 1) _ _ g (by rw [e2]; exact hx) (by rw [e2]; exact ho) (fun j a b q => ?_)
          exact sd_m (by omega) ⟨hx.1, by omega⟩ ⟨hx.1, by omega⟩ _ _ _ _ i.2 (by omega) (by omega) (hm j a b q)
        · intro z
          rw [z, wb o ho.1 (by omega), if_pos rfl] at d
          exact absurd d (by decide)
      · rw [if_pos d, eC, if_pos]
        refine bits_ext kb ks (fun j a b => ?_)
        rw [wb j a b]
        have q1 := sub j a b
        rw [wb j a b] at q1
        have k1 := kbit01 (kwC C 67 x) j
        by_cases e : j = o
        · rw [if_pos e, e]
          have := kbit01 (kwC C 67 x) o
          omega
        · rw [if_neg e] at q1 ⊢
          have k2 := kbit01 K0 j
          have m := hm j a b
          have w := kw_b (C := C) (a := 67) (x := x) (j := j) ⟨a, b⟩
          rw [w] at q1 k1 ⊢
          omega
    · rw [if_pos c]
      have nx : ∃ j : Int, 0 ≤ j ∧ j < 6 ∧ kbit (kwC C 67 x) j = 1 ∧ kbit (kset K0 o) j = 0 := by
        refine Classical.byContradiction (fun q => c (an.2 (fun j a b e => ?_)))
        rcases kbit01 (kset K0 o) j with z | z
        · exact absurd ⟨j, a, b, e, z⟩ q
        · exact z
      obtain ⟨j, a, b, e, z⟩ := nx
      rw [kw_b ⟨a, b⟩] at e
      exact (cd_no ⟨hx.1, by omega⟩ ⟨a, b⟩ z (n + 1) k C i.2 n6 e h.2.2.2.2.1).symm
/-- a dial turned in both guesses -/
theorem RH.dl {t a : Nat} {b x v : Int} {C R : zM} (h : RH t a b C R) (hb : b = 0 ∨ b = 1) (hx : 0 ≤ x ∧ x < 6) (hv : 0 ≤ v ∧ v ≤ 99) : RH t a b (sm C (a + 1) x v) (sm R 233 (6 * b + x) v) := by
  obtain ⟨k, s, m, ⟨i1, i2⟩, ta, ab⟩ := id h
  exact h.up ((Fa.rf a _).sm (by omega) _ _) ((Fb.rf b _).sm _ (by omega)) (s.d ⟨by omega, ab⟩ hx) (i2.d rfl hv)
end ZEQ9
