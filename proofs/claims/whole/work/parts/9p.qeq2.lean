section ZEQ5
/-- chance: the numbers drawn are the same -/
theorem RN.dg {t : Nat} {x : Int} {C R M1 Mb : zM} (h : RN t C R) (hx : 0 ≤ x ∧ x ≤ 2147483647) (hg : DgR t C x M1) (hb : DgG R x Mb) : RB True t 67 1 M1 Mb := by
  obtain ⟨k, s, n, ⟨i1, i2⟩, ht, h5⟩ := h
  obtain ⟨g1, g2, g3, g4, ⟨cq, c1⟩, m2, m3, m4, m5⟩ := hg
  obtain ⟨b1, b2, b3, ⟨p5, p6, p7, p8, p9, p0⟩, b4, rd⟩ := hb
  have kc : ∀ k : Nat, t ≤ k → k ≤ t + 18 → M1 k = C k := fun k a b => cq k (by omega)
  have tk : TKp t M1 Mb := k.rq kc (fun k a b i => rd k i (by omega) (by omega)) (fun i a b => rd 209 i (by omega) (by omega))
  have e213 : Mb 213 2 = C (t + 10) 2 := by rw [rd 213 2 (by omega) (by omega)]; exact k.2.2.2.2.1 2 (by decide) (by decide)
  have fr := i1.2.2.2.2.2.2.2.2.2.1
  refine ⟨tk, ?_, ⟨?_, ?_, ?_, ?_, ?_⟩, ⟨i1.eq kc, ?_⟩, fun _ => by rw [b4, g4], fun _ => trivial, ht, by decide, Or.inr rfl⟩
  · refine s.mk i1.1.2 (by rw [kc t (by omega) (by omega)]) (fun j a b => g1 j a b) (fun j a b => g2 j a b) g3 (fun j a b => ?_) (fun j a b => ?_) b3
    · have z := b1 j a b
      rw [show 6 * (0 : Int) + j = j by omega]; exact z
    · have z := b2 j a b
      rw [show 36 * (0 : Int) + j = j by omega]; exact z
  · rw [p0, c1]; exact k.2.2.2.2.1 0 (by decide) (by decide)
  · rw [p9, m5]
  · rw [p8, m4]; decide
  · rw [p7, m3]; decide
  · rw [m2, p5, p6, e213]
    by_cases c : C (t + 10) 2 = 0
    · rw [if_pos c]; exact Or.inl ⟨rfl, Or.inr (Or.inl c)⟩
    · rw [if_neg c]
      by_cases d : C (t + 10) 2 = 100
      · rw [if_pos d]; exact Or.inr (Or.inl ⟨rfl, rfl, Or.inl d⟩)
      · rw [if_neg d]; exact Or.inr (Or.inr ⟨rfl, rfl, by decide, c, d⟩)
  · obtain ⟨a1, a2, a3, a4, a5, a6, a7⟩ := i2
    refine ⟨fun i x y => ?_, fun i x y => ?_, fun i x y => ?_, fun i x y => ?_, fun i x y => ?_, by rw [g3]; exact a6, by rw [g4]; exact hx⟩
    · have z := (g1 i x y).1
      rw [show M1 (67 + 1) i = M1 68 i from rfl, z]; exact a1 i x y
    · have z := (g1 i x y).2.1
      rw [show M1 (67 + 2) i = M1 69 i from rfl, z]; exact a2 i x y
    · have z := (g1 i x y).2.2.1
      rw [show M1 (67 + 3) i = M1 70 i from rfl, z]; exact a3 i x y
    · have z := (g1 i x y).2.2.2
      rw [show M1 (67 + 4) i = M1 71 i from rfl, z]; exact a4 i x y
    · have z := g2 i x y
      rw [show M1 (67 + 5) i = M1 72 i from rfl, z]; exact a5 i x y
theorem q_chance {t : Nat} {C R : zM} (h : RN t C R) (h5 : C 61 5 ≤ 9000) {nn : Nat} (hn : nn ≤ 99) {x o : Int} (hx : 0 ≤ x ∧ x < 6) (ho : 0 ≤ o ∧ o < 6) : ∀ (n : Nat) (sd acc r r' : Int), 0 ≤ sd ∧ sd ≤ 2147483647 → chP t C nn x o n sd acc r → chG R nn x o n sd acc r' → r' = r
  | 0, sd, acc, r, r', _, h1, h2 => by
    unfold chP at h1
    unfold chG at h2
    rw [h1, h2]
  | n + 1, sd, acc, r, r', hs, h1, h2 => by
    unfold chP at h1
    unfold chG at h2
    obtain ⟨M1, d1, c1⟩ := h1
    obtain ⟨Mb, d2, c2⟩ := h2
    have rb := h.dg hs d1 d2
    have rp := rb.pass nn _ _ (by rw [d1.2.2.1]; omega)
    have e1 : goR 1 nn Mb 209 54 = passM t 67 nn M1 67 6 := rp.2.2.2.2.1 trivial
    have w := (rp.2.1.2.2.2.1 x o hx.1 hx.2 ho.1 ho.2).1
    rw [show 36 * (1 : Int) + 6 * x + o = 36 + 6 * x + o by omega] at w
    rw [e1, w] at c2
    exact q_chance h h5 hn hx ho n _ _ r r' rp.2.2.2.1.2.2.2.2.2.2.2 c1 c2
/-- tried otherwise -/
theorem sg_t {t : Nat} {N : Prop} {w : Int} : ∀ (n : Nat) (i : Int) (C R : zM), RB N t 67 1 C R → 0 ≤ i → i + n = 6 → RB N t 67 1 (sgM 67 (C t 2 - i).toNat i C) (sgR n i R)
  | 0, i, C, R, h, i0, i1 => by
    have n6 := h.n.1
    rw [show (C t 2 - i).toNat = 0 by omega]
    exact h
  | n + 1, i, C, R, h, i0, i1 => by
    obtain ⟨k, s, m, ⟨j1, j2⟩, n1, n2, ta, ab, bb⟩ := id h
    by_cases c : i < C t 2
    · have e : (C t 2 - i).toNat = (C t 2 - (i + 1)).toNat + 1 := by omega
      rw [e]
      unfold sgM sgR
      have g : RB N t 67 1 (sm C (67 + 2) i 9) (sm R 234 (6 * 1 + i) 9) := by
        refine h.up ((Fa.rf 67 _).sm (by omega) _ _) ((Fb.rf 1 _).sm _ (by omega)) (s.g ⟨by omega, by decide⟩ ⟨i0, c⟩) (j2.g rfl (by omega)) (fun z => ?_)
        rw [sm_n (by decide), sm_n (by decide)]; exact n1 z
      have et : sm C (67 + 2) i 9 t 2 = C t 2 := by rw [sm_n (by omega)]
      have z := sg_t (w := w) n (i + 1) _ _ g (by omega) (by omega)
      rw [et] at z
      rw [show 6 + i = 6 * 1 + i by omega]
      exact z
    · rw [show (C t 2 - i).toNat = 0 by omega]
      unfold sgR
      have g : RB N t 67 1 C (sm R 234 (6 + i) 9) := by
        refine h.up (Fa.rf 67 _) ((Fb.rf 1 _).sm _ (by omega)) ?_ j2 (fun z => ?_)
        · obtain ⟨d, kk, tm, w, hh⟩ := s
          refine ⟨fun j x y => ?_, ?_, ?_, ?_, ?_⟩
          · rw [sm_n (by decide), sm_k, us_n (by omega)]; exact d j x y
          · rw [sm_n (by decide)]; exact kk
          · rw [sm_n (by decide)]; exact tm
          · rw [sm_n (by decide)]; exact w
          · rw [sm_n (by decide)]; exact hh
        · rw [sm_n (by decide)]; exact n1 z
      have z := sg_t (w := w) n (i + 1) _ _ g (by omega) (by omega)
      rw [show (C t 2 - (i + 1)).toNat = 0 by omega] at z
      exact z
theorem RB.mode {N : Prop} {t a : Nat} {b : Int} {C C' R R' : zM} (h : RB N t a b C R) (hc : ∀ k : Nat, k ≠ 50 → C' k = C k) (hr : ∀ (k : Nat) (i : Int), ¬ (k = 209 ∧ 55 ≤ i ∧ i ≤ 60) → R' k i = R k i) (m : MRl t C' R') (n2 : C' 50 2 = 2 → N) : RB N t a b C' R' := by
  obtain ⟨k, s, _, ⟨i1, i2⟩, n1, _, ta, ab, bb⟩ := h
  refine ⟨k.of (fun q x y => hc q (by omega)) (fun q x y => funext fun i => hr q i (by omega)) (fun i x y => hr 209 i (by omega)), ?_, m, ⟨i1.eq (fun q x y => hc q (by omega)), ?_⟩, fun z => ?_, n2, ta, ab, bb⟩
  · exact s.of (by rw [hc t (by omega)]) (fun q x y => hc q (by omega)) (by rw [hc a (by omega)]) (fun q x y => funext fun i => hr q i (by omega)) (hr 238 b (by omega))
  · unfold StI at i2 ⊢
    rw [hc a (by omega), hc (a + 1) (by omega), hc (a + 2) (by omega), hc (a + 3) (by omega), hc (a + 4) (by omega), hc (a + 5) (by omega)]; exact i2
  · rw [hr 209 54 (by omega), hc a (by omega)]; exact n1 z
theorem RB.tr {t : Nat} {w i : Int} {C R : zM} (h : RB False t 67 1 C R) (m0 : R 209 55 = 0 ∧ R 209 56 = 0 ∧ R 209 57 = 0 ∧ R 209 58 = 0 ∧ R 209 59 = -1) (c0 : C 50 3 = 1 ∧ C 50 4 = 1 ∧ C 50 5 = -1) (hw : 0 ≤ w ∧ w ≤ 4) : RB False t 67 1 (trM w i (C t 2) C) (trR w i R) := by
  obtain ⟨k, s, m, ⟨j1, j2⟩, n1, n2, ta, ab, bb⟩ := id h
  have nn : C 50 2 ≠ 2 := fun z => n2 z
  obtain ⟨q1, q2, q3, q4, q5⟩ := m
  obtain ⟨R1, e1⟩ : ∃ R1, R1 = sm (sm (sm (sm R 209 56 (if w = 0 then 1 else 0)) 209 57 (if w = 1 then 1 else 0)) 209 59 (if w = 2 then i else -1)) 209 58 (if w = 4 then 1 else 0) := ⟨_, rfl⟩
  have r1 : ∀ (k : Nat) (j : Int), ¬ (k = 209 ∧ 55 ≤ j ∧ j ≤ 60) → R1 k j = R k j := fun k j hj => by
    rw [e1]
    by_cases e : k = 209
    · subst e
      rw [sm_k, us_n (by omega), sm_k, us_n (by omega), sm_k, us_n (by omega), sm_k, us_n (by omega)]
    · rw [sm_n e, sm_n e, sm_n e, sm_n e]
  have a56 : R1 209 56 = if w = 0 then 1 else 0 := by rw [e1]; simp (disch := decide) only [sm_k, us_s, us_n]
  have a57 : R1 209 57 = if w = 1 then 1 else 0 := by rw [e1]; simp (disch := decide) only [sm_k, us_s, us_n]
  have a59 : R1 209 59 = if w = 2 then i else -1 := by rw [e1]; simp (disch := decide) only [sm_k, us_s, us_n]
  have a58 : R1 209 58 = if w = 4 then 1 else 0 := by rw [e1]; simp (disch := decide) only [sm_k, us_s, us_n]
  have a55 : R1 209 55 = 0 := by rw [e1]; simp (disch := decide) only [sm_k, us_n]; exact m0.1
  have a60 : R1 209 60 = C 50 1 := by rw [e1]; simp (disch := decide) only [sm_k, us_n]; exact q1
  have a13 : R1 213 2 = R 213 2 := r1 213 2 (by omega)
  have eT : trR w i R = sgR (if w = 3 then 6 else 0) 0 R1 := by unfold trR; rw [e1]
  rw [eT]
  by_cases w0 : w = 0
  · have eC : trM w i (C t 2) C = sm C 50 2 0 := by unfold trM; rw [if_pos w0]
    rw [eC, if_neg (by omega)]
    show RB False t 67 1 _ R1
    refine h.mode (fun k hk => sm_n hk) r1 ⟨?_, ?_, ?_, ?_, ?_⟩ (fun z => by rw [sm_s] at z; omega)
    · rw [a60, sm_k, us_n (by decide)]
    · rw [a59, if_neg (by omega), sm_k, us_n (by decide)]; exact c0.2.2.symm
    · rw [a58, if_neg (by omega), sm_k, us_n (by decide), c0.2.1]; decide
    · rw [a57, if_neg (by omega), sm_k, us_n (by decide), c0.1]; decide
    · rw [sm_s, a56, if_pos w0]; exact Or.inl ⟨rfl, Or.inl (by decide)⟩
  by_cases w1 : w = 1
  · have eC : trM w i (C t 2) C = sm C 50 3 0 := by unfold trM; rw [if_neg w0, if_pos w1]
    rw [eC, if_neg (by omega)]
    show RB False t 67 1 _ R1
    refine h.mode (fun k hk => sm_n hk) r1 ⟨?_, ?_, ?_, ?_, ?_⟩ (fun z => by rw [sm_k, us_n (by decide)] at z; exact nn z)
    · rw [a60, sm_k, us_n (by decide)]
    · rw [a59, if_neg (by omega), sm_k, us_n (by decide)]; exact c0.2.2.symm
    · rw [a58, if_neg (by omega), sm_k, us_n (by decide), c0.2.1]; decide
    · rw [a57, if_pos w1, sm_s]; decide
    · rw [sm_k, us_n (by decide), a56, if_neg w0, a55, a13]; omega
  by_cases w2 : w = 2
  · have eC : trM w i (C t 2) C = sm C 50 5 i := by unfold trM; rw [if_neg w0, if_neg w1, if_pos w2]
    rw [eC, if_neg (by omega)]
    show RB False t 67 1 _ R1
    refine h.mode (fun k hk => sm_n hk) r1 ⟨?_, ?_, ?_, ?_, ?_⟩ (fun z => by rw [sm_k, us_n (by decide)] at z; exact nn z)
    · rw [a60, sm_k, us_n (by decide)]
    · rw [a59, if_pos w2, sm_s]
    · rw [a58, if_neg (by omega), sm_k, us_n (by decide), c0.2.1]; decide
    · rw [a57, if_neg (by omega), sm_k, us_n (by decide), c0.1]; decide
    · rw [sm_k, us_n (by decide), a56, if_neg w0, a55, a13]; omega
  by_cases w3 : w = 3
  · have eC : trM w i (C t 2) C = sgM 67 (C t 2).toNat 0 C := by unfold trM; rw [if_neg w0, if_neg w1, if_neg w2, if_pos w3]
    rw [eC, if_pos w3]
    have g : RB False t 67 1 C R1 := by
      refine h.mode (fun k hk => rfl) r1 ⟨a60, ?_, ?_, ?_, ?_⟩ (fun z => nn z)
      · rw [a59, if_neg (by omega)]; exact c0.2.2.symm
      · rw [a58, if_neg (by omega), c0.2.1]; decide
      · rw [a57, if_neg (by omega), c0.1]; decide
      · rw [a56, if_neg w0, a55, a13]; omega
    have z := sg_t (w := w) 6 0 _ _ g (by omega) (by omega)
    rw [show C t 2 - 0 = C t 2 by omega] at z
    exact z
  · have eC : trM w i (C t 2) C = sm C 50 4 0 := by unfold trM; rw [if_neg w0, if_neg w1, if_neg w2, if_neg w3]
    rw [eC, if_neg w3]
    show RB False t 67 1 _ R1
    refine h.mode (fun k hk => sm_n hk) r1 ⟨?_, ?_, ?_, ?_, ?_⟩ (fun z => by rw [sm_k, us_n (by decide)] at z; exact nn z)
    · rw [a60, sm_k, us_n (by decide)]
    · rw [a59, if_neg w2, sm_k, us_n (by decide)]; exact c0.2.2.symm
    · rw [a58, if_pos (by omega), sm_s]; decide
    · rw [a57, if_neg w1, sm_k, us_n (by decide), c0.1]; decide
    · rw [sm_k, us_n (by decide), a56, if_neg w0, a55, a13]; omega
theorem q_tried {t : Nat} {C R Mg Mb : zM} (h : RN t C R) (h5 : C 61 5 ≤ 9000) (hg : GsR t C Mg) (hb : LtR R Mb) {w i n : Int} (hw : 0 ≤ w ∧ w ≤ 4) (hn : 0 ≤ n ∧ n ≤ 99) : pairsR (goR 1 n.toNat (trR w i Mb)) 1 - pairsR R 0 = pairsC (passM t 67 n.toNat (trM w i (C t 2) Mg)) 67 - pairsC C 61 := by
  have rb := h.gs hg hb
  have e2 : Mg t 2 = C t 2 ∧ Mg 67 5 = C 61 5 ∧ (Mg 50 3 = 1 ∧ Mg 50 4 = 1 ∧ Mg 50 5 = -1) := by
    obtain ⟨M1, cy, rfl⟩ := hg
    have af := agM_f t M1
    exact ⟨by rw [agM_n t M1 (by have := h.2.2.2.2.1; omega), cy.2.2.2.2 t (by have := h.2.2.2.2.1; omega)], by rw [agM_n t M1 (by decide)]; exact cy.2.2.1, af.2.2.1, af.2.2.2.1, af.2.2.2.2⟩
  have p := hb.2.2.2.1
  have g := rb.tr (w := w) (i := i) ⟨p.1, p.2.1, p.2.2.1, p.2.2.2.1, p.2.2.2.2.1⟩ e2.2.2 hw
  rw [e2.1] at g
  have t5 : trM w i (C t 2) Mg 67 5 = C 61 5 := by
    unfold trM
    rw [← e2.2.1]
    split
    · rw [sm_n (by decide)]
    split
    · rw [sm_n (by decide)]
    split
    · rw [sm_n (by decide)]
    split
    · have : ∀ (n : Nat) (i : Int) (A : zM), sgM 67 n i A 67 5 = A 67 5 := by
        intro n
        induction n with
        | zero => intro i A; rfl
        | succ n ih => intro i A; unfold sgM; rw [ih, sm_n (by decide)]
      exact this _ _ _
    · rw [sm_n (by decide)]
  have rp := g.pass n.toNat _ _ (by omega)
  rw [pairs_eq rp.1 rp.2.1 rp.2.2.2.1, pairs_eq h.1 h.2.1 h.2.2.2.1]
/-- the loudest -/
theorem ldF_cong {f g : Int → Int} : ∀ (n : Nat) (i best most : Int), (∀ j, i ≤ j → j < i + n → f j = g j) → ldF f n i best most = ldF g n i best most
  | 0, i, best, most, _ => rfl
  | n + 1, i, best, most, h => by
    unfold ldF
    rw [h i (by omega) (by omega), ldF_cong n (i + 1) _ _ (fun j a b => h j (by omega) (by omega)), ldF_cong n (i + 1) _ _ (fun j a b => h j (by omega) (by omega))]
theorem q_loudest {t : Nat} {C R : zM} (h : RN t C R) : ldF (soR R) (R 209 12).toNat 0 (-2) 0 = ldF (soC C t) (C t 2).toNat 0 (-2) 0 := by
  rw [h.1.1.1]
  refine ldF_cong _ _ _ _ (fun j a b => ?_)
  unfold soR soC
  rw [h.1.1.2.2.1]
  have n10 := h.2.2.2.1.1.2.2.1
  exact zsm_cong _ _ _ (fun q x y => by rw [(h.1.2.2.2.1 q x (by omega)).1])
/-- where it is busiest -/
theorem bs_eq {f : Int → Int} : ∀ (n : Nat) (x best : Int), bsF f n x best (f best) = (bsR f n x best, f (bsR f n x best))
  | 0, x, best => rfl
  | n + 1, x, best => by
    unfold bsF bsR
    by_cases c : f best < f x
    · rw [if_pos c, if_pos c]; exact bs_eq n (x + 1) x
    · rw [if_neg c, if_neg c]; exact bs_eq n (x + 1) best
theorem iabs_s (a b : Int) : iabs (a - b) = iabs (b - a) := by unfold iabs; split <;> split <;> omega
theorem zsm_0 {f : Int → Int} (h : ∀ j, 0 ≤ f j) : ∀ (n : Nat) (i acc : Int), acc ≤ zsm f n i acc
  | 0, i, acc => Int.le_refl _
  | n + 1, i, acc => by
    unfold zsm
    have := zsm_0 h n (i + 1) (acc + f i)
    have := h i
    omega
theorem q_busiest {t : Nat} {C R : zM} (h : RN t C R) (g w : Int) : (if w = 0 then bsR (byR R g) 99 1 0 else byR R g (bsR (byR R g) 99 1 0)) = if w = 0 then (bsF (hoA C (C t 2) (C (t + 10) 0 + g)) 100 0 0 (-1)).1 else (bsF (hoA C (C t 2) (C (t + 10) 0 + g)) 100 0 0 (-1)).2 := by
  have n6 := h.2.2.2.1.1.1
  have e : hoA C (C t 2) (C (t + 10) 0 + g) = byR R g := by
    funext x
    unfold hoA byR
    rw [h.1.1.1, h.1.2.2.2.2.1 0 (by decide) (by decide)]
    refine zsm_cong _ _ _ (fun j a b => ?_)
    have z := (h.2.1.1 j a (by omega)).1
    rw [show 6 * (0 : Int) + j = j by omega] at z
    rw [z, iabs_s]
  have p : (-1 : Int) < byR R g 0 := by
    unfold byR
    have := zsm_0 (f := fun j => if iabs (0 - R 233 j) ≤ R 213 0 + g then 1 else 0) (fun j => by show 0 ≤ ite _ _ _; split <;> decide) (R 209 12).toNat 0 0
    omega
  have e2 : bsF (byR R g) 100 0 0 (-1) = bsF (byR R g) 99 1 0 (byR R g 0) := by
    show (if -1 < byR R g 0 then bsF (byR R g) 99 (0 + 1) 0 (byR R g 0) else bsF (byR R g) 99 (0 + 1) 0 (-1)) = _
    rw [if_pos p]; rfl
  rw [e, e2, bs_eq]
end ZEQ5
