section ZRLS
theorem gw_9 (k a b : Int) (M : zM) {i : Int} (h19 : i ≠ 19) (h40 : i ≠ 40) : gwM k a b M 209 i = M 209 i := by
  unfold gwM
  rw [sm_k, us_n h19, sm_k, us_n h40, sm_n (by decide), sm_n (by decide), sm_n (by decide), sm_n (by decide)]
theorem bd1_k {F : Int} {M : zM} (w : 0 < M 209 39) (r : M 229 (M 209 39 - 1) ≠ 0) (h9 : F ≤ M 209 19) : bd1 M 229 = M 229 ∧ (bd1 M 209 19 + nzc (bd1 M 229) (bd1 M 209 39).toNat = M 209 19 + nzc (M 229) (M 209 39).toNat) ∧ FrL F M (bd1 M) ∧ (∀ i : Int, i ≠ 19 → i ≠ 39 → i ≠ 40 → bd1 M 209 i = M 209 i) ∧ M 209 19 ≤ bd1 M 209 19 := by
  obtain ⟨s1, s2⟩ := nn_s (M 229) w
  rw [if_pos r] at s1
  unfold bd1
  by_cases e : M 229 (M 209 39 - 1) = 2
  · rw [if_pos e]
    obtain ⟨N, eN⟩ : ∃ N, N = dhM (sm M 209 39 (M 209 39 - 1)) := ⟨_, rfl⟩
    have d1 : N 229 = M 229 := by rw [eN]; unfold dhM; simp (disch := decide) only [sm_n]
    have d2 : N 209 39 = M 209 39 - 1 := by rw [eN]; unfold dhM; simp (disch := decide) only [sm_n, sm_k, us_s, us_n]
    have d4 : N 209 19 = M 209 19 := by rw [eN]; unfold dhM; simp (disch := decide) only [sm_n, sm_k, us_s, us_n]
    have d5 : ∀ i : Int, i ≠ 39 → i ≠ 40 → N 209 i = M 209 i := fun i a b => by rw [eN]; unfold dhM; rw [sm_k, us_n b, sm_k, us_n a]
    have d6 : FrL F M N := by rw [eN]; unfold dhM; exact ((FrL.rf F M).sm (i := 39) (by omega) _).sm (i := 40) (by omega) _
    rw [← eN]
    obtain ⟨g1, g2, g3, g4⟩ := gw_r (M 229 (M 209 39 - 1)) (dhV (sm M 209 39 (M 209 39 - 1))) (-1) N
    refine ⟨by rw [g1, d1], ?_, d6.gw _ _ _ (by omega), fun i a b c => by rw [gw_9 _ _ _ _ a c, d5 i b c], by omega⟩
    rw [g4, d4, g1, d1, g2, d2]; omega
  · rw [if_neg e]
    obtain ⟨N, eN⟩ : ∃ N, N = dhM (dhM (sm M 209 39 (M 209 39 - 1))) := ⟨_, rfl⟩
    have d1 : N 229 = M 229 := by rw [eN]; unfold dhM; simp (disch := decide) only [sm_n]
    have d2 : N 209 39 = M 209 39 - 1 := by rw [eN]; unfold dhM; simp (disch := decide) only [sm_n, sm_k, us_s, us_n]
    have d4 : N 209 19 = M 209 19 := by rw [eN]; unfold dhM; simp (disch := decide) only [sm_n, sm_k, us_s, us_n]
    have d5 : ∀ i : Int, i ≠ 39 → i ≠ 40 → N 209 i = M 209 i := fun i a b => by rw [eN]; unfold dhM; rw [sm_k, us_n b, sm_k, us_n b, sm_k, us_n a]
    have d6 : FrL F M N := by rw [eN]; unfold dhM; exact (((FrL.rf F M).sm (i := 39) (by omega) _).sm (i := 40) (by omega) _).sm (i := 40) (by omega) _
    rw [← eN]
    obtain ⟨g1, g2, g3, g4⟩ := gw_r (M 229 (M 209 39 - 1)) (dhV (dhM (sm M 209 39 (M 209 39 - 1)))) (dhV (sm M 209 39 (M 209 39 - 1))) N
    refine ⟨by rw [g1, d1], ?_, d6.gw _ _ _ (by omega), fun i a b c => by rw [gw_9 _ _ _ _ a c, d5 i b c], by omega⟩
    rw [g4, d4, g1, d1, g2, d2]; omega
theorem bd_k {F r : Int} (hr : 1 ≤ r) : ∀ (n : Nat) (M : zM), F ≤ M 209 19 → bdM r n M 229 = M 229 ∧ (bdM r n M 209 19 + nzc (bdM r n M 229) (bdM r n M 209 39).toNat = M 209 19 + nzc (M 229) (M 209 39).toNat) ∧ FrL F M (bdM r n M) ∧ (∀ i : Int, i ≠ 19 → i ≠ 39 → i ≠ 40 → bdM r n M 209 i = M 209 i) ∧ M 209 19 ≤ bdM r n M 209 19
  | 0, M, _ => ⟨rfl, rfl, FrL.rf F M, fun _ _ _ _ => rfl, Int.le_refl _⟩
  | n + 1, M, h => by
    simp only [bdM]
    by_cases c : 0 < M 209 39 ∧ r ≤ rRk (M 229 (M 209 39 - 1))
    · rw [if_pos c]
      obtain ⟨a1, a2, a3, a4, a5⟩ := bd1_k c.1 (rRk_0 (by omega)) h
      obtain ⟨b1, b2, b3, b4, b5⟩ := bd_k (F := F) hr n (bd1 M) (by omega)
      exact ⟨b1.trans a1, b2.trans a2, a3.tr b3, fun i x y z => (b4 i x y z).trans (a4 i x y z), by omega⟩
    · rw [if_neg c]
      exact ⟨rfl, rfl, FrL.rf F M, fun _ _ _ _ => rfl, Int.le_refl _⟩
theorem LX.pop {t w : Nat} {F : Int} {Mc Mr : zM} (h : LX t w F Mc Mr) (tw : t < 41 ∧ w + 1 < 42) : LX t w F (sm Mc 42 4 (Mc 42 4 - 1)) (sm Mr 209 39 (Mr 209 39 - 1)) := by
  obtain ⟨⟨a1, a2⟩, a3, a4, a5, a6, a7⟩ := h
  unfold LX KN
  have e : ∀ k : Nat, k ≠ 42 → sm Mc 42 4 (Mc 42 4 - 1) k = Mc k := fun k a => sm_n a
  have e4 : sm Mc 42 4 (Mc 42 4 - 1) 42 5 = Mc 42 5 := by rw [sm_k, us_n (by decide)]
  have q : ∀ k : Nat, k ≠ 209 → sm Mr 209 39 (Mr 209 39 - 1) k = Mr k := fun k a => sm_n a
  have q9 : ∀ i : Int, i ≠ 39 → sm Mr 209 39 (Mr 209 39 - 1) 209 i = Mr 209 i := fun i hi => by rw [sm_k, us_n hi]
  rw [e4, e 49 (by decide), e t (by omega), e w (by omega), e (w + 1) (by omega), q9 41 (by decide), q9 42 (by decide), q9 19 (by decide), q9 40 (by decide), q 229 (by decide), q 226 (by decide), q 227 (by decide), q 228 (by decide), q 230 (by decide), sm_k, us_s, sm_k, us_s]
  exact ⟨⟨by rw [a1], fun j x y => a2 j x (by omega)⟩, a3, a4, a5, a6, a7⟩
theorem LQ.bdi {t w : Nat} {F : Int} {Mc Mr : zM} (h : LQ t w F Mc Mr) (hb : LBh Mr) (hv : LvI t w Mc) : BdI Mr := by
  obtain ⟨lx, hF, hc⟩ := h
  have a1 := lx.1.1
  have a4 := lx.2.2.1
  have a5 := lx.2.2.2.1
  obtain ⟨v1, v2, v3, v4, v5⟩ := hv
  have := v3.1
  exact ⟨by omega, hb.2, by omega, by omega⟩
/-- both have bound what waits -/
theorem bd_rel {t w : Nat} {F r : Int} {Mc Mr C1 N1 : zM} (hr : 1 ≤ r) (tw : t < 41 ∧ w + 1 < 42 ∧ w ≠ t ∧ w + 1 ≠ t) (hv : LvI t w Mc) (h : LQ t w F Mc Mr) (hb : LBh Mr) (eC : C1 = lyA w r (Mc 42 4).toNat Mc) (eN : N1 = bdM r (Mr 209 39).toNat Mr) : LX t w F C1 N1 ∧ BdI N1 ∧ N1 229 = Mr 229 ∧ N1 209 19 + nzc (N1 229) (N1 209 39).toNat = N1 209 42 ∧ FrL F Mr N1 ∧ (∀ i : Int, i ≠ 19 → i ≠ 39 → i ≠ 40 → N1 209 i = Mr 209 i) ∧ F ≤ N1 209 19 := by
  have bi := h.bdi hb hv
  obtain ⟨lx, hF, hc⟩ := h
  have a1 := lx.1.1
  have a5 := lx.2.2.2.1
  obtain ⟨v1, v2, v3, v4, v5⟩ := hv
  obtain ⟨k1, k2, k3, k4, k5⟩ := bd_k hr (Mr 209 39).toNat Mr (F := F) (by omega)
  have y := LX.bdn tw hF hr (Mc 42 4).toNat Mc Mr lx bi v3.2.1 v4.1
  rw [show (Mc 42 4).toNat = (Mr 209 39).toNat by rw [a1], ← eN] at y
  rw [show (Mr 209 39).toNat = (Mc 42 4).toNat by rw [a1], ← eC] at y
  rw [← eN] at k1 k2 k3 k4 k5
  exact ⟨y.1, y.2, k1, by rw [k2, k4 42 (by decide) (by decide) (by decide)]; exact hc, k3, k4, by omega⟩
theorem LX.c41 {t w : Nat} {F x : Int} {Mc Mr : zM} (h : LX t w F Mc Mr) (tw : t < 41 ∧ w + 1 < 42) (e : x = Mr 209 41 - 1) : LX t w F (sm Mc 42 5 (Mc 42 5 - 1)) (sm Mr 209 41 x) := by
  have z := h.br tw (Mc 42 5 - 1)
  rw [e, h.2.1]; exact z
/-- a bracket is closed: before the next token -/
theorem sg_1 {t w : Nat} {F : Int} {Mc Mr C1 N1 N : zM} (tw : t < 41 ∧ w + 1 < 42 ∧ w ≠ t ∧ w + 1 ≠ t) (hv : LvI t w Mc) (h0 : Mc 42 6 = 0) (ho : 0 < Mc 42 5) (h : LQ t w F Mc Mr) (hb : LBh Mr) (eC : C1 = lyA w 1 (Mc 42 4).toNat Mc) (eN : N1 = bdM 1 (Mr 209 39).toNat Mr) (e : N = sm (sm N1 209 39 (N1 209 39 - 1)) 209 41 (N1 209 41 - 1)) : LQ t w F (sm (sm C1 42 4 (C1 42 4 - 1)) 42 5 (C1 42 5 - 1)) N ∧ LBh N ∧ 0 < N1 209 39 ∧ FrL F Mr N := by
  obtain ⟨b1, b2, b3, b4, b5, b6, b7⟩ := bd_rel (r := 1) (by decide) tw hv h hb eC eN
  obtain ⟨v1, v2, v3, v4, v5⟩ := id hv
  have ct := cl_top tw.2.1 hv h0 ho
  obtain ⟨y1, y2, y3, y4, y5, y6, y7⟩ := lyA_all (r := 1) tw.2.1 (Mc 42 4).toNat Mc v3 (by have := v3.1; omega) v4
  rw [← eC] at ct y1 y2 y3 y4 y5 y6 y7
  have a1 := b1.1.1
  have a2 := b1.1.2
  have top : N1 229 (N1 209 39 - 1) = 0 := by
    rw [a1, a2 _ (by omega) (by omega), y5 49 (by decide) (by omega) (by omega), ct.2]; rfl
  obtain ⟨s1, s2⟩ := nn_s (N1 229) (w := N1 209 39) (by omega)
  rw [top, if_neg (fun z => z rfl)] at s1
  rw [top, if_neg (fun z => z.1 rfl)] at s2
  have n9 : ∀ i : Int, i ≠ 39 → i ≠ 41 → N 209 i = N1 209 i := fun i a c => by rw [e, sm_k, us_n c, sm_k, us_n a]
  have n39 : N 209 39 = N1 209 39 - 1 := by rw [e]; simp (disch := decide) only [sm_n, sm_k, us_s, us_n]
  have n229 : N 229 = N1 229 := by rw [e, sm_n (by decide), sm_n (by decide)]
  have q := b1.pop ⟨tw.1, tw.2.1⟩
  have q2 := q.c41 (x := N1 209 41 - 1) ⟨tw.1, tw.2.1⟩ (by rw [sm_k, us_n (by decide)])
  rw [show sm C1 42 4 (C1 42 4 - 1) 42 5 = C1 42 5 by rw [sm_k, us_n (by decide)], ← e] at q2
  refine ⟨⟨q2, h.2.1, ?_⟩, ⟨?_, ?_⟩, by omega, ?_⟩
  · rw [n9 19 (by decide) (by decide), n229, n39, n9 42 (by decide) (by decide)]; omega
  · rw [n9 43 (by decide) (by decide), b6 43 (by decide) (by decide) (by decide)]; exact hb.1
  · rw [n9 40 (by decide) (by decide), n229, n39, b2.2.1]; omega
  · rw [e]; exact (b5.sm (i := 39) (by omega) _).sm (i := 41) (by omega) _
/-- a sign: the count is taken, it waits -/
theorem sg_2 {t w : Nat} {F s m : Int} {C1 N1 N : zM} (tw : t < 41 ∧ w + 1 < 42 ∧ w ≠ t ∧ w + 1 ≠ t) (lx : LX t w F C1 N1) (hF : 0 ≤ F) (bi : BdI N1) (hc : N1 209 19 + nzc (N1 229) (N1 209 39).toNat = N1 209 42) (hs : 0 ≤ s ∧ s ≤ 12 ∧ s ≠ 2) (h4 : 0 ≤ C1 42 4 ∧ C1 42 4 < 72) (hm : m ≠ 0 ↔ rnk s ≤ 3) (e : N = sm (sm (wfM (kc s) (sm N1 209 42 (N1 209 42 + 1))) 209 43 1) 209 44 m) : LQ t w F (paM s (sm C1 t 1 (C1 t 1 + 1))) N ∧ LWt (paM s (sm C1 t 1 (C1 t 1 + 1))) N := by
  have x42 := lx.2.2.1
  have x39 := lx.1.1
  have kr := kc_r s hs.1 (by omega)
  have k0 : kc s ≠ 0 := fun z => by have := kr.2.1.1 z; omega
  have k2 : kc s ≠ 2 := fun z => by have := kr.2.2.1.1 z; omega
  have e4 : sm C1 t 1 (C1 t 1 + 1) 42 4 = C1 42 4 := by rw [sm_n (by omega)]
  have y := ((lx.ct tw (C1 t 1 + 1)).push (s := s) ⟨tw.1, tw.2.1⟩ (by rw [e4]; exact h4))
  rw [x42] at e
  have n9 : ∀ i : Int, i ≠ 42 → i ≠ 39 → i ≠ 43 → i ≠ 44 → N 209 i = N1 209 i := fun i a b c d => by rw [e, sm_k, us_n d, sm_k, us_n c]; unfold wfM; rw [sm_k, us_n b, sm_n (by decide), sm_k, us_n a]
  have n39 : N 209 39 = N1 209 39 + 1 := by rw [e]; unfold wfM; simp (disch := decide) only [sm_n, sm_k, us_s, us_n]
  have n42 : N 209 42 = C1 t 1 + 1 := by rw [e]; unfold wfM; simp (disch := decide) only [sm_n, sm_k, us_s, us_n]
  have n43 : N 209 43 = 1 := by rw [e]; simp (disch := decide) only [sm_k, us_s, us_n]
  have n44 : N 209 44 = m := by rw [e]; simp (disch := decide) only [sm_k, us_s, us_n]
  have n229 : N 229 = us (N1 229) (N1 209 39) (kc s) := by rw [e]; unfold wfM; simp (disch := decide) only [sm_n, sm_k, us_n]
  obtain ⟨p1, p2⟩ := nn_p (N1 229) (w := N1 209 39) (by omega) (kc s)
  rw [if_pos k0] at p1
  rw [if_pos ⟨k0, k2⟩] at p2
  refine ⟨⟨y.of rfl rfl rfl rfl rfl rfl (fun i hi => ?_) (fun k k0 k1 => ?_), hF, ?_⟩, n43, ?_, ?_⟩
  · rw [e, sm_k, us_n (by omega), sm_k, us_n (by omega)]
  · rw [e, sm_n (by omega), sm_n (by omega)]
  · rw [n9 19 (by decide) (by decide) (by decide) (by decide), n229, n39, n42, p1]; omega
  · rw [n9 40 (by decide) (by decide) (by decide) (by decide), n229, n39, p2, bi.2.1]
  · rw [n44, pa_r (by rw [e4]; exact h4)]; exact hm
theorem sgH_c (M : zM) : (M 43 9 = 3 ∧ M 43 11 = 11 ∧ sgH M = 0) ∨ (M 43 9 = 3 ∧ M 43 11 = 12 ∧ sgH M = 1) ∨ (M 43 9 = 5 ∧ 3 ≤ M 43 11 ∧ M 43 11 ≤ 12 ∧ sgH M = M 43 11) ∨ (¬ (M 43 9 = 3 ∧ (M 43 11 = 11 ∨ M 43 11 = 12)) ∧ ¬ (M 43 9 = 5 ∧ 3 ≤ M 43 11 ∧ M 43 11 ≤ 12) ∧ sgH M = -1) := by
  by_cases a : M 43 9 = 3 ∧ M 43 11 = 11
  · exact Or.inl ⟨a.1, a.2, by unfold sgH; rw [if_pos a]⟩
  by_cases b : M 43 9 = 3 ∧ M 43 11 = 12
  · exact Or.inr (Or.inl ⟨b.1, b.2, by unfold sgH; rw [if_neg a, if_pos b]⟩)
  by_cases c : M 43 9 = 5 ∧ 3 ≤ M 43 11 ∧ M 43 11 ≤ 12
  · exact Or.inr (Or.inr (Or.inl ⟨c.1, c.2.1, c.2.2, by unfold sgH; rw [if_neg a, if_neg b, if_pos c]⟩))
  · exact Or.inr (Or.inr (Or.inr ⟨by omega, c, by unfold sgH; rw [if_neg a, if_neg b, if_neg c]⟩))
theorem sg9 (t w : Nat) (M C1 : zM) (r : Int) (er : r = if rnk (sgH M) = 4 then 5 else rnk (sgH M)) (e : C1 = lyA w r (M 42 4).toNat M) : sgM9 t w M = if rnk (sgH M) = 4 ∧ rkA C1 = 4 then flM C1 1 else paM (sgH M) (tcM t C1) := by
  have z : r = if rnk (sgH M) = 4 then rnk (sgH M) + 1 else rnk (sgH M) := by rw [er]; split <;> omega
  rw [e, z]
  rfl
/-- a sign's rank -/
theorem rk_s : ∀ s : Int, 0 ≤ s → s ≤ 12 → 1 ≤ rnk s ∧ rnk s ≤ 6 ∧ (s ≠ 2 → rnk s ≠ 3) := by
  have h : ∀ j : Fin 13, 1 ≤ rnk (j.val : Int) ∧ rnk (j.val : Int) ≤ 6 ∧ ((j.val : Int) ≠ 2 → rnk (j.val : Int) ≠ 3) := by decide +kernel
  intro c c0 c1
  have z := h ⟨c.toNat, by omega⟩
  rw [show ((c.toNat : Nat) : Int) = c by omega] at z
  exact z
/-- one step behind a part, against the class's -/
def SgR (f : Int → Int) (n : Int) (t w : Nat) (F : Int) (Mc : zM) (r : Int) (M' : zM) : Prop := ((0 < Mc 42 5 ∧ Mc 43 9 = 5 ∧ Mc 43 11 = 14) ∧ r = 1 ∧ clM w Mc 42 6 = 0 ∧ RTk f n (clM w Mc) M' ∧ LQ t w F (clM w Mc) M' ∧ LBh M') ∨ (¬ (0 < Mc 42 5 ∧ Mc 43 9 = 5 ∧ Mc 43 11 = 14) ∧ ((sgH Mc = -1 ∧ r = 0 ∧ FT (flM Mc 1) M') ∨ (sgH Mc ≠ -1 ∧ ((r = 0 ∧ sgM9 t w Mc 42 6 ≠ 0 ∧ FT (sgM9 t w Mc) M') ∨ (r = 1 ∧ sgM9 t w Mc 42 6 = 0 ∧ RTk f n (sgM9 t w Mc) M' ∧ LQ t w F (sgM9 t w Mc) M' ∧ LWt (sgM9 t w Mc) M')))))
/-- the class's memory behind the binding -/
theorem ly_rt {t w : Nat} {F r : Int} {f : Int → Int} {n : Int} {Mc M C1 N1 : zM} (tw : t < 41 ∧ w + 1 < 42) (ht : RTk f n Mc M) (eC : C1 = lyA w r (Mc 42 4).toNat Mc) (fr : FrL F M N1) (h9 : ∀ i : Int, i ≠ 19 → i ≠ 39 → i ≠ 40 → N1 209 i = M 209 i) : RTk f n C1 N1 := by
  refine ht.of ?_ ?_ ?_ ?_ (fun i a b => h9 i (by omega) (by omega) (by omega)) (funext fun i => fr.1 210 i (by omega) (by omega)) (funext fun i => fr.1 211 i (by omega) (by omega))
  all_goals (rw [eC]; exact lyA_n w r (by decide) (by omega) (by omega) _ _)
theorem zr1 {x : Int} {A B : Prop} (h : (x = 1 ∧ A) ∨ (x = 0 ∧ B)) : inR x := by
  rcases h with h | h <;> (rw [h.1]; decide)
theorem zy1 {x : Int} {A B : Prop} (h : (x = 1 ∧ A) ∨ (x = 0 ∧ B)) (n : x ≠ 0) : A := (h.resolve_right (fun z => n z.1)).2
theorem zn1 {x : Int} {A B : Prop} (h : (x = 1 ∧ A) ∨ (x = 0 ∧ B)) (n : x = 0) : B := (h.resolve_left (fun z => by rw [n] at z; exact absurd z.1 (by decide))).2
theorem sgt_and {Mc M : zM} (t4 : TKq (Mc 43 9) (Mc 43 11) (M 209 8) (M 209 9)) (h : M 209 8 = 1 ∧ M 209 9 = 11) : sgH Mc = 1 := by
  have sc := sgH_c Mc
  unfold TKq at t4
  omega
theorem sgt_or {Mc M : zM} (t4 : TKq (Mc 43 9) (Mc 43 11) (M 209 8) (M 209 9)) (h : M 209 8 = 1 ∧ M 209 9 = 12) : sgH Mc = 0 := by
  have sc := sgH_c Mc
  unfold TKq at t4
  omega
theorem sgt_cmp {Mc M : zM} (t4 : TKq (Mc 43 9) (Mc 43 11) (M 209 8) (M 209 9)) (h : M 209 8 = 5) : 0 ≤ M 209 9 ∧ M 209 9 ≤ 5 ∧ sgH Mc = 3 + M 209 9 := by
  have sc := sgH_c Mc
  unfold TKq at t4
  omega
theorem sgt_sg {Mc M : zM} (t4 : TKq (Mc 43 9) (Mc 43 11) (M 209 8) (M 209 9)) (h : M 209 8 = 4) : (M 209 9 = 43 → sgH Mc = 9) ∧ (M 209 9 = 45 → sgH Mc = 10) ∧ (M 209 9 = 42 → sgH Mc = 11) ∧ (M 209 9 = 47 → sgH Mc = 12) ∧ (M 209 9 ≠ 41 → ¬ (Mc 43 9 = 5 ∧ Mc 43 11 = 14)) := by
  have sc := sgH_c Mc
  unfold TKq at t4
  refine ⟨?_, ?_, ?_, ?_, ?_⟩ <;> intro e <;> omega
theorem sgt_cl {Mc M : zM} (t4 : TKq (Mc 43 9) (Mc 43 11) (M 209 8) (M 209 9)) (h : ¬ (M 209 8 = 4 ∧ M 209 9 = 41)) : ¬ (Mc 43 9 = 5 ∧ Mc 43 11 = 14) := by
  unfold TKq at t4
  omega
theorem sgt_cl2 {Mc M : zM} (t4 : TKq (Mc 43 9) (Mc 43 11) (M 209 8) (M 209 9)) (h : M 209 8 = 4 ∧ M 209 9 = 41) : Mc 43 9 = 5 ∧ Mc 43 11 = 14 := by
  unfold TKq at t4
  omega
theorem sgt_no {Mc M : zM} (t4 : TKq (Mc 43 9) (Mc 43 11) (M 209 8) (M 209 9)) (h1 : ¬ (M 209 8 = 1 ∧ M 209 9 = 11)) (h2 : ¬ (M 209 8 = 1 ∧ M 209 9 = 12)) (h3 : M 209 8 ≠ 5) (h4 : ¬ (M 209 8 = 4 ∧ M 209 9 = 43)) (h5 : ¬ (M 209 8 = 4 ∧ M 209 9 = 45)) (h6 : ¬ (M 209 8 = 4 ∧ M 209 9 = 42)) (h7 : ¬ (M 209 8 = 4 ∧ M 209 9 = 47)) : sgH Mc = -1 := by
  unfold TKq at t4
  unfold sgH
  rcases t4 with h | h | h | h | h | h | h
  · rw [if_neg (by omega), if_neg (by omega), if_neg (by omega)]
  · rw [if_neg (by omega), if_neg (by omega), if_neg (by omega)]
  · rw [if_neg (by omega), if_neg (by omega), if_neg (by omega)]
  · rw [if_neg (by omega), if_neg (by omega), if_neg (by omega)]
  · rw [if_neg (by omega), if_neg (by omega), if_neg (by omega)]
  · exact absurd h.2.1 h3
  · obtain ⟨a, b, c⟩ := h
    have e3 : M 209 9 ≠ 43 := fun z => h4 ⟨b, z⟩
    have e4 : M 209 9 ≠ 45 := fun z => h5 ⟨b, z⟩
    have e5 : M 209 9 ≠ 42 := fun z => h6 ⟨b, z⟩
    have e6 : M 209 9 ≠ 47 := fun z => h7 ⟨b, z⟩
    clear h1 h2 h3 h4 h5 h6 h7
    rw [if_neg (by omega), if_neg (by omega), if_neg (by omega)]
end ZRLS

set_option maxRecDepth 100000 in
set_option maxHeartbeats 4000000 in
theorem teX11_signs {G : zG} {l : Launch} {L : Nat} {P : zP} {f : Int → Int} {n : Int} {t w : Nat} {F : Int} {s k : Int} {Mc C1 N1 : zM} {M : zM} {Z : zZ} (hP : PFok P) (tt : t = 4 ∨ t = 23) (hwt : w = t + 13 ∨ w = t + 15 ∨ w = t + 17) (ht : RTk f n C1 N1) (h0 : C1 42 6 = 0) (hv : LvI t w C1) (lx : LX t w F C1 N1) (hF : 0 ≤ F) (bi : BdI N1) (hc : N1 209 19 + nzc (N1 229) (N1 209 39).toNat = N1 209 42) (fr0 : FrL F M N1) (hs : 0 ≤ s ∧ s ≤ 12 ∧ s ≠ 2) (es : s = sgH Mc) (e9 : sgM9 t w Mc = paM s (tcM t C1)) (ek : k = kc s) (nc : ¬ (0 < Mc 42 5 ∧ Mc 43 9 = 5 ∧ Mc 43 11 = 14)) (hs9 : C1 43 9 ≠ 0) (eZ : Z = zany (LAY L) P (fun r M' => FrL F M M' ∧ SgR f n t w F Mc r M')) : AW G l mdX11_signs Z 217 [some (aR 209), some (aI k)] [] (LAY L) P N1 0 0 := by
  have t3 := ht.2.2.1
  have tn := ht.nx
  have t5 := ht.2.2.2.2.1
  have t6 := ht.2.2.2.2.2
  have x39 := lx.1.1
  have x42 := lx.2.2.1
  obtain ⟨v1, v2, v3, v4, v5⟩ := id hv
  have v6 := (v5 h0).2
  have v7 := v3.1
  have v8 := v3.2.2
  have tw : t < 41 ∧ w + 1 < 42 ∧ w ≠ t ∧ w + 1 ≠ t := by omega
  have kr := kc_r s hs.1 (by omega)
  rw [← ek] at kr
  have rs := rk_s s hs.1 hs.2.1
  refine a_aloadn dX11_signs_217 rfl ?_
  refine a_anyV (as := []) (q := 209) dX11_signs_218 mvX11_278 ⟨by decide, by decide⟩ (L209 L) rfl rfl rfl (Nat.le_of_ble_eq_true rfl) ⟨rfl, rfl⟩ ⟨by decide, by decide⟩ (m_isCt1 (by omega)) (fun x218 M218 hM218 => ?_)
  refine a_if_ne (tgt := 226) dX11_signs_221 (by decide) ⟨by omega, by omega⟩ (fun hb221 => ?_) (fun hb221 => ?_)
  · refine a_aloadn dX11_signs_226 rfl ?_
    refine a_iloadn dX11_signs_227 rfl ?_
    obtain ⟨_, c218, rfl⟩ := hM218.resolve_left (by omega)
    refine a_callVv (as := [_]) (q := 209) dX11_signs_228 mvX11_267 ⟨by decide, by decide⟩ (L209 L) rfl rfl rfl (Nat.le_of_ble_eq_true rfl) ⟨rfl, rfl⟩ ⟨by decide, by decide⟩ (m_X11_waitsFor hP ⟨by omega, by omega⟩ (by rw [sm_k, us_n (by decide)]; omega)) ?_
    refine a_aloadn dX11_signs_231 rfl ?_
    refine a_iconst dX11_signs_232 ?_
    refine a_putZ (j' := 43) dX11_signs_233 flX11_284 rfl rfl (L209 L) (by decide) rfl (by omega) ?_
    refine a_aloadn dX11_signs_236 rfl ?_
    refine a_iloadn dX11_signs_237 rfl ?_
    refine a_callS (as := [_]) dX11_signs_238 mvX11_252 ⟨by decide, by decide⟩ rfl rfl (Nat.le_of_ble_eq_true rfl) ⟨rfl, rfl⟩ ⟨by decide, by decide⟩ (m_X11_rank ⟨by omega, by omega⟩) ?_
    refine a_iconst dX11_signs_241 ?_
    refine a_icmp_ge (tgt := 249) dX11_signs_242 (by decide) (rRk_in _) ⟨by omega, by omega⟩ (fun hb242 => ?_) (fun hb242 => ?_)
    · refine a_iconst dX11_signs_249 ?_
      refine a_putZ (j' := 44) dX11_signs_250 flX11_271 rfl rfl (L209 L) (by decide) rfl (by omega) ?_
      refine a_aloadn dX11_signs_253 rfl ?_
      obtain ⟨N0, eN0⟩ : ∃ N0, N0 = sm (sm (wfM k (sm N1 209 42 (N1 209 42 + 1))) 209 43 1) 209 44 0 := ⟨_, rfl⟩
      have rtN : RTk f n (sm C1 t 1 (C1 t 1 + 1)) N0 := ht.of (sm_n (by omega)) (sm_n (by omega)) (sm_n (by omega)) (sm_n (by omega)) (fun i i0 i1 => by rw [eN0, sm_k, us_n (by omega), sm_k, us_n (by omega)]; unfold wfM; rw [sm_k, us_n (by omega), sm_n (by decide), sm_k, us_n (by omega)]) (by rw [eN0]; unfold wfM; simp (disch := decide) only [sm_n, sm_k, us_s, us_n]) (by rw [eN0]; unfold wfM; simp (disch := decide) only [sm_n, sm_k, us_s, us_n])
      refine a_relVv (as := []) (q := 209) dX11_signs_254 mvX11_176 ⟨by decide, by decide⟩ (L209 L) rfl rfl rfl (Nat.le_of_ble_eq_true rfl) ⟨rfl, rfl⟩ ⟨by decide, by decide⟩ (by have z := m_X11_token (G := G) (l := l) (L := L) hP (by rw [rtN.2.2.2.2.1.1]; exact rtN.2.2.2.2.1.2.2) rtN.2.2.2.2.2 rtN.nx; rw [eN0] at z; exact z) (fun M1 hM1 => ?_)
      rw [← eN0] at hM1
      have ts : TkR f n (N0 209 7) N0 M1 := by rw [rtN.2.2.2.2.1.1, rtN.2.2.2.2.1.2.1] at hM1; exact hM1
      have fr := ts.2.2.2
      refine a_iconst dX11_signs_257 ?_
      have l2 := sg_2 (m := N0 209 44) (N := N0) tw lx hF bi hc hs (by omega) (by rw [eN0, sm_k, us_s]; omega) (by rw [← ek, eN0, sm_k, us_s])
      have eC : sgM9 t w Mc = paM s (stT (sm C1 t 1 (C1 t 1 + 1))) := by rw [e9]; unfold tcM; rw [if_pos (by omega)]
      have rt1 := rtN.step (by rw [sm_n (by omega)]; omega) ts
      have rt2 : RTk f n (paM s (stT (sm C1 t 1 (C1 t 1 + 1)))) M1 := rt1.of (pa_x _ _ (by decide) (by decide)) (pa_x _ _ (by decide) (by decide)) (pa_x _ _ (by decide) (by decide)) (pa_x _ _ (by decide) (by decide)) (fun _ _ _ => rfl) rfl rfl
      have F1 : FrL F M M1 := fr0.tr (((((FrL.rf F N1).sm (i := 42) (by omega) (N1 209 42 + 1)).wf k).sm (i := 43) (by omega) 1).sm (i := 44) (by omega) _ |>.tr (by rw [← eN0]; exact (fr.fl).frl F))
      have z6 : paM s (stT (sm C1 t 1 (C1 t 1 + 1))) 42 6 = 0 := by rw [paM_42 _ _ (by decide), stT_n _ (by decide), sm_n (by omega)]; exact h0
      exact a_zreturn dX11_signs_258 rfl rfl rfl (by omega) (by rw [eZ]; exact zany_i ⟨F1, Or.inr ⟨nc, Or.inr ⟨by omega, Or.inr ⟨rfl, by rw [eC]; exact z6, by rw [eC]; exact rt2, by rw [eC]; exact (l2.1.tok fr ⟨tw.1, tw.2.1⟩).cg ⟨tw.1, tw.2.1⟩ (fun k hk => pa_st hk), by rw [eC]; exact (l2.2.tok fr).cg (fun k hk => pa_st hk)⟩⟩⟩⟩)
    · refine a_iconst dX11_signs_245 ?_
      refine a_goto (tgt := 250) dX11_signs_246 (by decide) ?_
      refine a_putZ (j' := 44) dX11_signs_250 flX11_271 rfl rfl (L209 L) (by decide) rfl (by omega) ?_
      refine a_aloadn dX11_signs_253 rfl ?_
      obtain ⟨N0, eN0⟩ : ∃ N0, N0 = sm (sm (wfM k (sm N1 209 42 (N1 209 42 + 1))) 209 43 1) 209 44 1 := ⟨_, rfl⟩
      have rtN : RTk f n (sm C1 t 1 (C1 t 1 + 1)) N0 := ht.of (sm_n (by omega)) (sm_n (by omega)) (sm_n (by omega)) (sm_n (by omega)) (fun i i0 i1 => by rw [eN0, sm_k, us_n (by omega), sm_k, us_n (by omega)]; unfold wfM; rw [sm_k, us_n (by omega), sm_n (by decide), sm_k, us_n (by omega)]) (by rw [eN0]; unfold wfM; simp (disch := decide) only [sm_n, sm_k, us_s, us_n]) (by rw [eN0]; unfold wfM; simp (disch := decide) only [sm_n, sm_k, us_s, us_n])
      refine a_relVv (as := []) (q := 209) dX11_signs_254 mvX11_176 ⟨by decide, by decide⟩ (L209 L) rfl rfl rfl (Nat.le_of_ble_eq_true rfl) ⟨rfl, rfl⟩ ⟨by decide, by decide⟩ (by have z := m_X11_token (G := G) (l := l) (L := L) hP (by rw [rtN.2.2.2.2.1.1]; exact rtN.2.2.2.2.1.2.2) rtN.2.2.2.2.2 rtN.nx; rw [eN0] at z; exact z) (fun M1 hM1 => ?_)
      rw [← eN0] at hM1
      have ts : TkR f n (N0 209 7) N0 M1 := by rw [rtN.2.2.2.2.1.1, rtN.2.2.2.2.1.2.1] at hM1; exact hM1
      have fr := ts.2.2.2
      refine a_iconst dX11_signs_257 ?_
      have l2 := sg_2 (m := N0 209 44) (N := N0) tw lx hF bi hc hs (by omega) (by rw [eN0, sm_k, us_s]; omega) (by rw [← ek, eN0, sm_k, us_s])
      have eC : sgM9 t w Mc = paM s (stT (sm C1 t 1 (C1 t 1 + 1))) := by rw [e9]; unfold tcM; rw [if_pos (by omega)]
      have rt1 := rtN.step (by rw [sm_n (by omega)]; omega) ts
      have rt2 : RTk f n (paM s (stT (sm C1 t 1 (C1 t 1 + 1)))) M1 := rt1.of (pa_x _ _ (by decide) (by decide)) (pa_x _ _ (by decide) (by decide)) (pa_x _ _ (by decide) (by decide)) (pa_x _ _ (by decide) (by decide)) (fun _ _ _ => rfl) rfl rfl
      have F1 : FrL F M M1 := fr0.tr (((((FrL.rf F N1).sm (i := 42) (by omega) (N1 209 42 + 1)).wf k).sm (i := 43) (by omega) 1).sm (i := 44) (by omega) _ |>.tr (by rw [← eN0]; exact (fr.fl).frl F))
      have z6 : paM s (stT (sm C1 t 1 (C1 t 1 + 1))) 42 6 = 0 := by rw [paM_42 _ _ (by decide), stT_n _ (by decide), sm_n (by omega)]; exact h0
      exact a_zreturn dX11_signs_258 rfl rfl rfl (by omega) (by rw [eZ]; exact zany_i ⟨F1, Or.inr ⟨nc, Or.inr ⟨by omega, Or.inr ⟨rfl, by rw [eC]; exact z6, by rw [eC]; exact rt2, by rw [eC]; exact (l2.1.tok fr ⟨tw.1, tw.2.1⟩).cg ⟨tw.1, tw.2.1⟩ (fun k hk => pa_st hk), by rw [eC]; exact (l2.2.tok fr).cg (fun k hk => pa_st hk)⟩⟩⟩⟩)
  · refine a_iconst dX11_signs_224 ?_
    obtain ⟨_, c218, rfl⟩ := hM218.resolve_right (by omega)
    have eC : sgM9 t w Mc = paM s (flM C1 2) := by rw [e9]; unfold tcM; rw [if_neg (by omega)]
    exact a_zreturn dX11_signs_225 rfl rfl rfl (by omega) (by rw [eZ]; exact zany_i ⟨(fr0.sm (by omega) _).sm (by omega) _, Or.inr ⟨nc, Or.inr ⟨by omega, Or.inl ⟨rfl, by rw [eC, paM_42 _ _ (by decide), (flM_6 2 h0).1]; decide, by rw [eC]; exact ft_pa s (wr_ft h0 t3)⟩⟩⟩⟩)

set_option maxRecDepth 100000 in
set_option maxHeartbeats 4000000 in
theorem tdX11_signs {G : zG} {l : Launch} {L : Nat} {P : zP} {f : Int → Int} {n : Int} {t w : Nat} {F : Int} {s k r : Int} {Mc N1 : zM} {M : zM} {Z : zZ} (hP : PFok P) (ht : RTk f n Mc M) (h0 : Mc 42 6 = 0) (tt : t = 4 ∨ t = 23) (hwt : w = t + 13 ∨ w = t + 15 ∨ w = t + 17) (hv : LvI t w Mc) (hq : LQ t w F Mc M) (hb : LBh M) (hs : 0 ≤ s ∧ s ≤ 12 ∧ s ≠ 2) (es : s = sgH Mc) (ek : k = kc s) (er : r = if rRk k = 4 then 5 else rRk k) (eN : N1 = bdM r (M 209 39).toNat M) (nc : ¬ (0 < Mc 42 5 ∧ Mc 43 9 = 5 ∧ Mc 43 11 = 14)) (hs9 : Mc 43 9 ≠ 0) (eZ : Z = zany (LAY L) P (fun r M' => FrL F M M' ∧ SgR f n t w F Mc r M')) : AW G l mdX11_signs Z 178 [some (aR 209), some (aI k)] [] (LAY L) P N1 0 0 := by
  have t3 := ht.2.2.1
  have t4 := ht.2.2.2.1
  unfold TKq at t4
  obtain ⟨lx, hF, hc⟩ := id hq
  have x39 := lx.1.1
  have x41 := lx.2.1
  have x42 := lx.2.2.1
  have x19 := lx.2.2.2.1
  obtain ⟨v1, v2, v3, v4, v5⟩ := id hv
  have v6 := (v5 h0).2
  have v7 := v3.1
  have v8 := v3.2.2
  have tw : t < 41 ∧ w + 1 < 42 ∧ w ≠ t ∧ w + 1 ≠ t := by omega
  have kr := kc_r s hs.1 (by omega)
  rw [← ek] at kr
  have rs := rk_s s hs.1 hs.2.1
  have hr : 1 ≤ r := by rw [er]; split <;> omega
  obtain ⟨C1, eC⟩ : ∃ C1, C1 = lyA w r (Mc 42 4).toNat Mc := ⟨_, rfl⟩
  obtain ⟨b1, b2, b3, b4, b5, b6, b7⟩ := bd_rel hr tw hv hq hb eC eN
  obtain ⟨y1, y2, y3, y4, y5, y6, y7⟩ := lyA_all (r := r) tw.2.1 (Mc 42 4).toNat Mc v3 (by omega) v4
  rw [← eC] at y1 y2 y3 y4 y5 y6 y7
  have hv1 := hv.ly tw.1 tw.2.1 ⟨tw.2.2.1, tw.2.2.2⟩ hr
  rw [← eC] at hv1
  have rt := ly_rt (F := F) ⟨tw.1, tw.2.1⟩ ht eC b5 b6
  have s9 := sg9 t w Mc C1 r (by rw [er, kr.1, es]) eC
  rw [← es] at s9
  have z6 : C1 42 6 = 0 := by rw [y4 6 (by decide)]; exact h0
  have z9 : C1 43 9 ≠ 0 := by rw [y5 43 (by decide) (by omega) (by omega)]; exact hs9
  have q1 := b1.1.1
  have q2 := b1.1.2
  have ya := y1.1
  have yb := y1.2.1
  have rA : 0 < C1 42 4 → rkA C1 = rRk (N1 229 (N1 209 39 - 1)) := fun p => by unfold rkA; rw [if_pos p, q1, q2 _ (by omega) (by omega), (kc_r _ (yb _ (by omega) (by omega)).1 (yb _ (by omega) (by omega)).2).1]
  have rB : ¬ 0 < C1 42 4 → rkA C1 = 0 := fun p => by unfold rkA; rw [if_neg p]
  refine a_iloadn dX11_signs_178 rfl ?_
  refine a_callS (as := [_]) dX11_signs_179 mvX11_252 ⟨by decide, by decide⟩ rfl rfl (Nat.le_of_ble_eq_true rfl) ⟨rfl, rfl⟩ ⟨by decide, by decide⟩ (m_X11_rank ⟨by omega, by omega⟩) ?_
  refine a_iconst dX11_signs_182 ?_
  refine a_icmp_ne (tgt := 217) dX11_signs_183 (by decide) (rRk_in _) ⟨by omega, by omega⟩ (fun hb183 => ?_) (fun hb183 => ?_)
  · refine teX11_signs hP tt hwt rt z6 hv1 b1 hF b2 b4 b5 hs es ?_ ek nc z9 eZ
    rw [s9, if_neg]
    rintro ⟨c1, c2⟩
    by_cases p : 0 < C1 42 4
    · have := rA p; omega
    · have := rB p; omega
  · refine a_aloadn dX11_signs_186 rfl ?_
    refine b_getI (j' := 39) dX11_signs_187 flX11_249 rfl rfl (L209 L) (fun hr187 => ?_)
    refine a_if_le (tgt := 217) dX11_signs_190 (by decide) ⟨by omega, by omega⟩ (fun hb190 => ?_) (fun hb190 => ?_)
    · refine teX11_signs hP tt hwt rt z6 hv1 b1 hF b2 b4 b5 hs es ?_ ek nc z9 eZ
      rw [s9, if_neg]
      rintro ⟨c1, c2⟩
      by_cases p : 0 < C1 42 4
      · have := rA p; omega
      · have := rB p; omega
    · refine a_aloadn dX11_signs_193 rfl ?_
      refine a_getR (j' := 37) (y := 229) dX11_signs_194 flX11_72 rfl rfl (L209 L) (p209_37 hP) ?_
      refine a_aloadn dX11_signs_197 rfl ?_
      refine b_getI (j' := 39) dX11_signs_198 flX11_249 rfl rfl (L209 L) (fun hr198 => ?_)
      refine a_iconst dX11_signs_201 ?_
      refine a_isub dX11_signs_202 ?_
      refine b_iald (N := 96) dX11_signs_203 (L229 L) (by decide) (by omega) (by omega) (fun hr203 => ?_)
      refine a_callS (as := [_]) dX11_signs_204 mvX11_252 ⟨by decide, by decide⟩ rfl rfl (Nat.le_of_ble_eq_true rfl) ⟨rfl, rfl⟩ ⟨by decide, by decide⟩ (m_X11_rank hr203) ?_
      refine a_iconst dX11_signs_207 ?_
      refine a_icmp_ne (tgt := 217) dX11_signs_208 (by decide) (rRk_in _) ⟨by omega, by omega⟩ (fun hb208 => ?_) (fun hb208 => ?_)
      · refine teX11_signs hP tt hwt rt z6 hv1 b1 hF b2 b4 b5 hs es ?_ ek nc z9 eZ
        rw [s9, if_neg]
        rintro ⟨c1, c2⟩
        by_cases p : 0 < C1 42 4
        · have := rA p; omega
        · have := rB p; omega
      · refine a_aloadn dX11_signs_211 rfl ?_
        refine a_iconst dX11_signs_212 ?_
        refine a_callV (as := [_]) (q := 209) dX11_signs_213 mvX11_166 ⟨by decide, by decide⟩ (L209 L) rfl rfl rfl (Nat.le_of_ble_eq_true rfl) ⟨rfl, rfl⟩ ⟨by decide, by decide⟩ (m_X11_wrong ⟨by omega, by omega⟩) ?_
        have eC9 : sgM9 t w Mc = flM C1 1 := by rw [s9, if_pos ⟨by omega, by rw [rA (by omega)]; omega⟩]
        exact a_zreturn dX11_signs_216 rfl rfl rfl (by omega) (by rw [eZ]; exact zany_i ⟨(b5.sm (by omega) _).sm (by omega) _, Or.inr ⟨nc, Or.inr ⟨by omega, Or.inl ⟨rfl, by rw [eC9, (flM_6 1 z6).1]; decide, by rw [eC9]; exact wr_ft z6 rt.2.2.1⟩⟩⟩⟩)

set_option maxRecDepth 100000 in
set_option maxHeartbeats 4000000 in
theorem tbX11_signs {G : zG} {l : Launch} {L : Nat} {P : zP} {f : Int → Int} {n : Int} {t w : Nat} {F : Int} {k : Int} {Mc : zM} {M : zM} {Z : zZ} (hP : PFok P) (ht : RTk f n Mc M) (h0 : Mc 42 6 = 0) (tt : t = 4 ∨ t = 23) (hwt : w = t + 13 ∨ w = t + 15 ∨ w = t + 17) (hv : LvI t w Mc) (hq : LQ t w F Mc M) (hb : LBh M) (hk : (k = 0 ∧ sgH Mc = -1) ∨ (k = 3 ∧ sgH Mc = 1) ∨ (k = 4 ∧ sgH Mc = 0) ∨ (5 ≤ k ∧ k ≤ 14 ∧ sgH Mc = k - 2)) (nc : ¬ (0 < Mc 42 5 ∧ Mc 43 9 = 5 ∧ Mc 43 11 = 14)) (eZ : Z = zany (LAY L) P (fun r M' => FrL F M M' ∧ SgR f n t w F Mc r M')) : AW G l mdX11_signs Z 147 [some (aR 209), none] [aI k] (LAY L) P M 0 0 := by
  have t3 := ht.2.2.1
  have t4 := ht.2.2.2.1
  unfold TKq at t4
  obtain ⟨lx, hF, hc⟩ := id hq
  have x39 := lx.1.1
  have x41 := lx.2.1
  have x42 := lx.2.2.1
  have x19 := lx.2.2.2.1
  obtain ⟨v1, v2, v3, v4, v5⟩ := id hv
  have v6 := (v5 h0).2
  have v7 := v3.1
  have v8 := v3.2.2
  have tw : t < 41 ∧ w + 1 < 42 ∧ w ≠ t ∧ w + 1 ≠ t := by omega
  have sc := sgH_c Mc
  obtain ⟨s, es⟩ : ∃ s, s = sgH Mc := ⟨_, rfl⟩
  rw [← es] at sc hk
  have ek : k ≠ 0 → k = kc s := fun p => by unfold kc; (repeat' split) <;> omega
  have bd := hq.bdi hb hv
  have kq : k ≠ 0 → rRk k = rnk s ∧ 1 ≤ rnk s ∧ rnk s ≤ 6 := fun p => ⟨by rw [ek p]; exact (kc_r s (by omega) (by omega)).1, (rk_s s (by omega) (by omega)).1, (rk_s s (by omega) (by omega)).2.1⟩
  refine c_istoren (ls' := [_, _]) dX11_signs_147 (by decide) rfl rfl ?_
  refine a_iloadn dX11_signs_148 rfl ?_
  refine a_if_ne (tgt := 158) dX11_signs_149 (by decide) ⟨by omega, by omega⟩ (fun hb149 => ?_) (fun hb149 => ?_)
  · refine a_aloadn dX11_signs_158 rfl ?_
    refine a_iloadn dX11_signs_159 rfl ?_
    refine a_callS (as := [_]) dX11_signs_160 mvX11_252 ⟨by decide, by decide⟩ rfl rfl (Nat.le_of_ble_eq_true rfl) ⟨rfl, rfl⟩ ⟨by decide, by decide⟩ (m_X11_rank ⟨by omega, by omega⟩) ?_
    refine a_iconst dX11_signs_163 ?_
    refine a_icmp_ne (tgt := 171) dX11_signs_164 (by decide) (rRk_in _) ⟨by omega, by omega⟩ (fun hb164 => ?_) (fun hb164 => ?_)
    · refine a_iloadn dX11_signs_171 rfl ?_
      refine a_callS (as := [_]) dX11_signs_172 mvX11_252 ⟨by decide, by decide⟩ rfl rfl (Nat.le_of_ble_eq_true rfl) ⟨rfl, rfl⟩ ⟨by decide, by decide⟩ (m_X11_rank ⟨by omega, by omega⟩) ?_
      have kq9 := kq (by omega)
      refine a_callVv (as := [_]) (q := 209) dX11_signs_175 mvX11_287 ⟨by decide, by decide⟩ (L209 L) rfl rfl rfl (Nat.le_of_ble_eq_true rfl) ⟨rfl, rfl⟩ ⟨by decide, by decide⟩ (m_X11_bind hP ⟨by omega, by omega⟩ bd) ?_
      exact tdX11_signs hP ht h0 tt hwt hv hq hb ⟨by omega, by omega, by omega⟩ es (ek (by omega)) (by first | rw [if_pos (by omega)] | rw [if_neg (by omega)]) rfl nc (by omega) eZ
    · refine a_iconst dX11_signs_167 ?_
      refine a_goto (tgt := 175) dX11_signs_168 (by decide) ?_
      have kq9 := kq (by omega)
      refine a_callVv (as := [_]) (q := 209) dX11_signs_175 mvX11_287 ⟨by decide, by decide⟩ (L209 L) rfl rfl rfl (Nat.le_of_ble_eq_true rfl) ⟨rfl, rfl⟩ ⟨by decide, by decide⟩ (m_X11_bind hP ⟨by omega, by omega⟩ bd) ?_
      exact tdX11_signs hP ht h0 tt hwt hv hq hb ⟨by omega, by omega, by omega⟩ es (ek (by omega)) (by first | rw [if_pos (by omega)] | rw [if_neg (by omega)]) rfl nc (by omega) eZ
  · refine a_aloadn dX11_signs_152 rfl ?_
    refine a_iconst dX11_signs_153 ?_
    refine a_callV (as := [_]) (q := 209) dX11_signs_154 mvX11_166 ⟨by decide, by decide⟩ (L209 L) rfl rfl rfl (Nat.le_of_ble_eq_true rfl) ⟨rfl, rfl⟩ ⟨by decide, by decide⟩ (m_X11_wrong ⟨by omega, by omega⟩) ?_
    exact a_zreturn dX11_signs_157 rfl rfl rfl (by omega) (by rw [eZ]; exact zany_i ⟨((FrL.rf F M).sm (by omega) _).sm (by omega) _, Or.inr ⟨nc, Or.inl ⟨by omega, rfl, wr_ft h0 t3⟩⟩⟩)

set_option maxRecDepth 100000 in
set_option maxHeartbeats 4000000 in
theorem tgX11_signs {G : zG} {l : Launch} {L : Nat} {P : zP} {f : Int → Int} {n : Int} {t w : Nat} {F : Int} {Mc : zM} {M : zM} {Z : zZ} (hP : PFok P) (ht : RTk f n Mc M) (h0 : Mc 42 6 = 0) (tt : t = 4 ∨ t = 23) (hwt : w = t + 13 ∨ w = t + 15 ∨ w = t + 17) (hv : LvI t w Mc) (hq : LQ t w F Mc M) (hb : LBh M) (nc : ¬ (0 < Mc 42 5 ∧ Mc 43 9 = 5 ∧ Mc 43 11 = 14)) (eZ : Z = zany (LAY L) P (fun r M' => FrL F M M' ∧ SgR f n t w F Mc r M')) : AW G l mdX11_signs Z 47 [some (aR 209), none] [] (LAY L) P M 0 0 := by
  have t4 := ht.2.2.2.1
  refine a_aloadn dX11_signs_47 rfl ?_
  refine a_bipush (w := 11) dX11_signs_48 (by decide) ?_
  refine a_oneV (as := [_]) (q := 209) dX11_signs_50 mvX11_275 ⟨by decide, by decide⟩ (L209 L) rfl rfl rfl (Nat.le_of_ble_eq_true rfl) ⟨rfl, rfl⟩ ⟨by decide, by decide⟩ (m_isKy1 ⟨by decide, by decide⟩) (fun x50 hx50 => ?_)
  refine a_if_eq (tgt := 60) dX11_signs_53 (by decide) (zr1 hx50) (fun hb53 => ?_) (fun hb53 => ?_)
  · refine a_aloadn dX11_signs_60 rfl ?_
    refine a_bipush (w := 12) dX11_signs_61 (by decide) ?_
    refine a_oneV (as := [_]) (q := 209) dX11_signs_63 mvX11_275 ⟨by decide, by decide⟩ (L209 L) rfl rfl rfl (Nat.le_of_ble_eq_true rfl) ⟨rfl, rfl⟩ ⟨by decide, by decide⟩ (m_isKy1 ⟨by decide, by decide⟩) (fun x63 hx63 => ?_)
    refine a_if_eq (tgt := 73) dX11_signs_66 (by decide) (zr1 hx63) (fun hb66 => ?_) (fun hb66 => ?_)
    · refine a_aloadn dX11_signs_73 rfl ?_
      refine b_getI (j' := 8) dX11_signs_74 flX11_142 rfl rfl (L209 L) (fun hr74 => ?_)
      refine a_iconst dX11_signs_77 ?_
      refine a_icmp_ne (tgt := 90) dX11_signs_78 (by decide) hr74 (by decide) (fun hb78 => ?_) (fun hb78 => ?_)
      · refine a_aloadn dX11_signs_90 rfl ?_
        refine a_bipush (w := 43) dX11_signs_91 (by decide) ?_
        refine a_oneV (as := [_]) (q := 209) dX11_signs_93 mvX11_179 ⟨by decide, by decide⟩ (L209 L) rfl rfl rfl (Nat.le_of_ble_eq_true rfl) ⟨rfl, rfl⟩ ⟨by decide, by decide⟩ (m_isSg1 ⟨by decide, by decide⟩) (fun x93 hx93 => ?_)
        refine a_if_eq (tgt := 104) dX11_signs_96 (by decide) (zr1 hx93) (fun hb96 => ?_) (fun hb96 => ?_)
        · refine a_aloadn dX11_signs_104 rfl ?_
          refine a_bipush (w := 45) dX11_signs_105 (by decide) ?_
          refine a_oneV (as := [_]) (q := 209) dX11_signs_107 mvX11_179 ⟨by decide, by decide⟩ (L209 L) rfl rfl rfl (Nat.le_of_ble_eq_true rfl) ⟨rfl, rfl⟩ ⟨by decide, by decide⟩ (m_isSg1 ⟨by decide, by decide⟩) (fun x107 hx107 => ?_)
          refine a_if_eq (tgt := 118) dX11_signs_110 (by decide) (zr1 hx107) (fun hb110 => ?_) (fun hb110 => ?_)
          · refine a_aloadn dX11_signs_118 rfl ?_
            refine a_bipush (w := 42) dX11_signs_119 (by decide) ?_
            refine a_oneV (as := [_]) (q := 209) dX11_signs_121 mvX11_179 ⟨by decide, by decide⟩ (L209 L) rfl rfl rfl (Nat.le_of_ble_eq_true rfl) ⟨rfl, rfl⟩ ⟨by decide, by decide⟩ (m_isSg1 ⟨by decide, by decide⟩) (fun x121 hx121 => ?_)
            refine a_if_eq (tgt := 132) dX11_signs_124 (by decide) (zr1 hx121) (fun hb124 => ?_) (fun hb124 => ?_)
            · refine a_aloadn dX11_signs_132 rfl ?_
              refine a_bipush (w := 47) dX11_signs_133 (by decide) ?_
              refine a_oneV (as := [_]) (q := 209) dX11_signs_135 mvX11_179 ⟨by decide, by decide⟩ (L209 L) rfl rfl rfl (Nat.le_of_ble_eq_true rfl) ⟨rfl, rfl⟩ ⟨by decide, by decide⟩ (m_isSg1 ⟨by decide, by decide⟩) (fun x135 hx135 => ?_)
              refine a_if_eq (tgt := 146) dX11_signs_138 (by decide) (zr1 hx135) (fun hb138 => ?_) (fun hb138 => ?_)
              · refine a_iconst dX11_signs_146 ?_
                exact tbX11_signs hP ht h0 tt hwt hv hq hb (Or.inl ⟨rfl, sgt_no t4 (zn1 hx50 hb53) (zn1 hx63 hb66) hb78 (zn1 hx93 hb96) (zn1 hx107 hb110) (zn1 hx121 hb124) (zn1 hx135 hb138)⟩) nc eZ
              · refine a_bipush (w := 14) dX11_signs_141 (by decide) ?_
                refine a_goto (tgt := 147) dX11_signs_143 (by decide) ?_
                exact tbX11_signs hP ht h0 tt hwt hv hq hb (Or.inr (Or.inr (Or.inr ⟨by decide, by decide, (sgt_sg t4 (zy1 hx135 hb138).1).2.2.2.1 (zy1 hx135 hb138).2⟩))) nc eZ
            · refine a_bipush (w := 13) dX11_signs_127 (by decide) ?_
              refine a_goto (tgt := 147) dX11_signs_129 (by decide) ?_
              exact tbX11_signs hP ht h0 tt hwt hv hq hb (Or.inr (Or.inr (Or.inr ⟨by decide, by decide, (sgt_sg t4 (zy1 hx121 hb124).1).2.2.1 (zy1 hx121 hb124).2⟩))) nc eZ
          · refine a_bipush (w := 12) dX11_signs_113 (by decide) ?_
            refine a_goto (tgt := 147) dX11_signs_115 (by decide) ?_
            exact tbX11_signs hP ht h0 tt hwt hv hq hb (Or.inr (Or.inr (Or.inr ⟨by decide, by decide, (sgt_sg t4 (zy1 hx107 hb110).1).2.1 (zy1 hx107 hb110).2⟩))) nc eZ
        · refine a_bipush (w := 11) dX11_signs_99 (by decide) ?_
          refine a_goto (tgt := 147) dX11_signs_101 (by decide) ?_
          exact tbX11_signs hP ht h0 tt hwt hv hq hb (Or.inr (Or.inr (Or.inr ⟨by decide, by decide, (sgt_sg t4 (zy1 hx93 hb96).1).1 (zy1 hx93 hb96).2⟩))) nc eZ
      · refine a_iconst dX11_signs_81 ?_
        refine a_aloadn dX11_signs_82 rfl ?_
        refine b_getI (j' := 9) dX11_signs_83 flX11_153 rfl rfl (L209 L) (fun hr83 => ?_)
        refine a_iadd dX11_signs_86 ?_
        refine a_goto (tgt := 147) dX11_signs_87 (by decide) ?_
        have sm9 := sgt_cmp t4 hb78
        clear hx50 hx63 t4
        exact tbX11_signs hP ht h0 tt hwt hv hq hb (Or.inr (Or.inr (Or.inr ⟨by omega, by omega, by omega⟩))) nc eZ
    · refine a_iconst dX11_signs_69 ?_
      refine a_goto (tgt := 147) dX11_signs_70 (by decide) ?_
      exact tbX11_signs hP ht h0 tt hwt hv hq hb (Or.inr (Or.inr (Or.inl ⟨rfl, sgt_or t4 (zy1 hx63 hb66)⟩))) nc eZ
  · refine a_iconst dX11_signs_56 ?_
    refine a_goto (tgt := 147) dX11_signs_57 (by decide) ?_
    exact tbX11_signs hP ht h0 tt hwt hv hq hb (Or.inr (Or.inl ⟨rfl, sgt_and t4 (zy1 hx50 hb53)⟩)) nc eZ

set_option maxRecDepth 100000 in
set_option maxHeartbeats 4000000 in
theorem taX11_signs {G : zG} {l : Launch} {L : Nat} {P : zP} {f : Int → Int} {n : Int} {t w : Nat} {F : Int} {Mc : zM} {M : zM} {Z : zZ} (hP : PFok P) (ht : RTk f n Mc M) (h0 : Mc 42 6 = 0) (tt : t = 4 ∨ t = 23) (hwt : w = t + 13 ∨ w = t + 15 ∨ w = t + 17) (hv : LvI t w Mc) (hq : LQ t w F Mc M) (hb : LBh M) (eZ : Z = zany (LAY L) P (fun r M' => FrL F M M' ∧ SgR f n t w F Mc r M')) : AW G l mdX11_signs Z 0 [some (aR 209), none] [] (LAY L) P M 0 0 := by
  have t3 := ht.2.2.1
  have t4 := ht.2.2.2.1
  obtain ⟨lx, hF, hc⟩ := id hq
  have x39 := lx.1.1
  have x41 := lx.2.1
  have x42 := lx.2.2.1
  have x19 := lx.2.2.2.1
  obtain ⟨v1, v2, v3, v4, v5⟩ := id hv
  have v6 := (v5 h0).2
  have v7 := v3.1
  have v8 := v3.2.2
  have tw : t < 41 ∧ w + 1 < 42 ∧ w ≠ t ∧ w + 1 ≠ t := by omega
  have bd := hq.bdi hb hv
  refine a_aloadn dX11_signs_0 rfl ?_
  refine a_bipush (w := 41) dX11_signs_1 (by decide) ?_
  refine a_oneV (as := [_]) (q := 209) dX11_signs_3 mvX11_179 ⟨by decide, by decide⟩ (L209 L) rfl rfl rfl (Nat.le_of_ble_eq_true rfl) ⟨rfl, rfl⟩ ⟨by decide, by decide⟩ (m_isSg1 ⟨by omega, by omega⟩) (fun x3 hx3 => ?_)
  refine a_if_eq (tgt := 47) dX11_signs_6 (by decide) (zr1 hx3) (fun hb6 => ?_) (fun hb6 => ?_)
  · refine tgX11_signs hP ht h0 tt hwt hv hq hb ?_ eZ
    first
    | exact (fun z => sgt_cl ht.2.2.2.1 (zn1 hx3 hb6) z.2)
    | exact (fun z => by have z1 := z.1; omega)
  · refine a_aloadn dX11_signs_9 rfl ?_
    refine b_getI (j' := 41) dX11_signs_10 flX11_264 rfl rfl (L209 L) (fun hr10 => ?_)
    refine a_if_le (tgt := 47) dX11_signs_13 (by decide) ⟨by omega, by omega⟩ (fun hb13 => ?_) (fun hb13 => ?_)
    · refine tgX11_signs hP ht h0 tt hwt hv hq hb ?_ eZ
      first
      | exact (fun z => sgt_cl ht.2.2.2.1 (zn1 hx3 hb6) z.2)
      | exact (fun z => by have z1 := z.1; omega)
    · refine a_aloadn dX11_signs_16 rfl ?_
      refine a_iconst dX11_signs_17 ?_
      obtain ⟨C1, eC1⟩ : ∃ C1, C1 = lyA w 1 (Mc 42 4).toNat Mc := ⟨_, rfl⟩
      obtain ⟨y1, y2, y3, y4, y5, y6, y7⟩ := lyA_all (r := 1) tw.2.1 (Mc 42 4).toNat Mc v3 (by omega) v4
      rw [← eC1] at y1 y2 y3 y4 y5 y6 y7
      obtain ⟨N1, eN1⟩ : ∃ N1, N1 = bdM 1 (M 209 39).toNat M := ⟨_, rfl⟩
      obtain ⟨b1, b2, b3, b4, b5, b6, b7⟩ := bd_rel (r := 1) (by decide) tw hv hq hb eC1 eN1
      have rt := ly_rt (F := F) ⟨tw.1, tw.2.1⟩ ht eC1 b5 b6
      obtain ⟨N0, eN0'⟩ : ∃ N0, N0 = sm (sm N1 209 39 (N1 209 39 - 1)) 209 41 (N1 209 41 - 1) := ⟨_, rfl⟩
      have l1 := sg_1 tw hv h0 (by omega) hq hb eC1 eN1 eN0'
      have q1 := b1.1.1
      have q41 := b6 41 (by decide) (by decide) (by decide)
      refine a_callVv (as := [_]) (q := 209) dX11_signs_18 mvX11_287 ⟨by decide, by decide⟩ (L209 L) rfl rfl rfl (Nat.le_of_ble_eq_true rfl) ⟨rfl, rfl⟩ ⟨by decide, by decide⟩ (m_X11_bind hP ⟨by omega, by omega⟩ bd) ?_
      rw [← eN1]
      refine a_aloadn dX11_signs_21 rfl ?_
      refine a_dupR dX11_signs_22 ?_
      refine b_getI (j' := 39) dX11_signs_23 flX11_249 rfl rfl (L209 L) (fun hr23 => ?_)
      refine a_iconst dX11_signs_26 ?_
      refine a_isub dX11_signs_27 ?_
      refine a_putI (j' := 39) dX11_signs_28 flX11_249 rfl rfl (L209 L) (by decide) rfl ⟨by omega, by omega⟩ ?_
      refine a_aloadn dX11_signs_31 rfl ?_
      refine a_dupR dX11_signs_32 ?_
      refine b_getI (j' := 41) dX11_signs_33 flX11_264 rfl rfl (L209 L) (fun hr33 => ?_)
      refine a_iconst dX11_signs_36 ?_
      refine a_isub dX11_signs_37 ?_
      refine a_putI (j' := 41) dX11_signs_38 flX11_264 rfl rfl (L209 L) (by decide) rfl (by rw [sm_k, us_n (by decide)]; exact ⟨by omega, by omega⟩) ?_
      refine a_aloadn dX11_signs_41 rfl ?_
      have eN0 : N0 = sm (sm N1 209 39 (N1 209 39 - 1)) 209 41 (sm N1 209 39 (N1 209 39 - 1) 209 41 - 1) := by rw [eN0', sm_k, us_n (by decide)]
      have rtN : RTk f n (sm (sm C1 42 4 (C1 42 4 - 1)) 42 5 (C1 42 5 - 1)) N0 := rt.of (by rw [sm_n (by decide), sm_n (by decide)]) (by rw [sm_n (by decide), sm_n (by decide)]) (by rw [sm_n (by decide), sm_n (by decide)]) (by rw [sm_n (by decide), sm_n (by decide)]) (fun i i0 i1 => by rw [eN0, sm_k, us_n (by omega), sm_k, us_n (by omega)]) (by rw [eN0]; simp (disch := decide) only [sm_n, sm_k, us_s, us_n]) (by rw [eN0]; simp (disch := decide) only [sm_n, sm_k, us_s, us_n])
      refine a_relVv (as := []) (q := 209) dX11_signs_42 mvX11_176 ⟨by decide, by decide⟩ (L209 L) rfl rfl rfl (Nat.le_of_ble_eq_true rfl) ⟨rfl, rfl⟩ ⟨by decide, by decide⟩ (by have z := m_X11_token (G := G) (l := l) (L := L) hP (by rw [rtN.2.2.2.2.1.1]; exact rtN.2.2.2.2.1.2.2) rtN.2.2.2.2.2 rtN.nx; rw [eN0] at z; exact z) (fun M1 hM1 => ?_)
      rw [← eN0] at hM1
      have ts : TkR f n (N0 209 7) N0 M1 := by rw [rtN.2.2.2.2.1.1, rtN.2.2.2.2.1.2.1] at hM1; exact hM1
      have fr := ts.2.2.2
      refine a_iconst dX11_signs_45 ?_
      have tq := sgt_cl2 t4 (zy1 hx3 hb6)
      have eC : clM w Mc = stT (sm (sm C1 42 4 (C1 42 4 - 1)) 42 5 (C1 42 5 - 1)) := by rw [eC1]; rfl
      have rt1 := rtN.step (by rw [sm_n (by decide), sm_n (by decide), y5 43 (by decide) (by omega) (by omega)]; omega) ts
      have F1 : FrL F M M1 := l1.2.2.2.tr ((fr.fl).frl F)
      have z6 : stT (sm (sm C1 42 4 (C1 42 4 - 1)) 42 5 (C1 42 5 - 1)) 42 6 = 0 := by rw [stT_n _ (by decide), sm_k, us_n (by decide), sm_k, us_n (by decide), y4 6 (by decide)]; exact h0
      exact a_zreturn dX11_signs_46 rfl rfl rfl (by omega) (by rw [eZ]; exact zany_i ⟨F1, Or.inl ⟨⟨by omega, tq.1, tq.2⟩, rfl, by rw [eC]; exact z6, by rw [eC]; exact rt1, by rw [eC]; exact l1.1.tok fr ⟨tw.1, tw.2.1⟩, l1.2.1.tok fr⟩⟩)

theorem m_X11_signs {G : zG} {l : Launch} {L : Nat} {P : zP} {M : zM} {f : Int → Int} {n : Int} {t w : Nat} {F : Int} {Mc : zM} (hP : PFok P) (ht : RTk f n Mc M) (h0 : Mc 42 6 = 0) (tt : t = 4 ∨ t = 23) (hwt : w = t + 13 ∨ w = t + 15 ∨ w = t + 17) (hv : LvI t w Mc) (hq : LQ t w F Mc M) (hb : LBh M) : AM G l yX11_signs mdX11_signs [aR 209] (LAY L) P M (zany (LAY L) P (fun r M' => FrL F M M' ∧ SgR f n t w F Mc r M')) := by
  refine AM.go [some (aR 209), none] rfl (Nat.le_of_ble_eq_true rfl) ?_ (by decide) rfl rfl
  exact taX11_signs hP ht h0 tt hwt hv hq hb rfl
