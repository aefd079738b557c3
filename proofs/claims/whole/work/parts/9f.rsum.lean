section ZRSU
theorem lyA_4 {w : Nat} {r : Int} (hw : w + 1 < 42) {i : Int} (hi : i ≠ 4) : ∀ (n : Nat) (M : zM), lyA w r n M 42 i = M 42 i
  | 0, M => rfl
  | n + 1, M => by
    rw [lyA_s]
    by_cases c : 0 < M 42 4 ∧ r ≤ rkA M
    · rw [if_pos c, lyA_4 hw hi n]
      unfold pop1
      rw [la_x _ _ _ (by omega) (by omega), sm_k, us_n hi]
    · rw [if_neg c]
/-- the class's law from within a part; from behind one -/
def fnW (t w m a : Nat) (M : zM) : zM := if lfM t w (rpL t a M) 42 6 ≠ 0 then lfM t w (rpL t a M) else lwL t w m (rbM t w (lfM t w (rpL t a M))).2 (rbM t w (lfM t w (rpL t a M))).1
def fnB (t w m b : Nat) (M : zM) : zM := lwL t w m (rbT t w (rbL w b M)).2 (rbT t w (rbL w b M)).1
theorem fnW_i {t w m a : Nat} {M : zM} (h0 : M 42 6 = 0) (hi : iaV M ≠ 0) : fnW t w m (a + 1) M = fnW t w m a (rpB t M) := by
  have e : rpL t (a + 1) M = rpL t a (rpB t M) := by rw [rpL_s, if_pos ⟨h0, hi⟩]
  unfold fnW
  rw [e]
theorem fnW_f {t w m a : Nat} {M : zM} (h : M 42 6 ≠ 0) : fnW t w m a M = M := by
  have e : rpL t a M = M := by
    cases a with
    | zero => rfl
    | succ n => rw [rpL_s, if_neg (fun z => h z.1)]
  have e2 : lfM t w M = M := by unfold lfM; rw [if_pos h]
  unfold fnW
  rw [e, e2, if_pos h]
theorem fnW_l {t w m a : Nat} {M : zM} (hi : iaV M = 0) : fnW t w m a M = if lfM t w M 42 6 ≠ 0 then lfM t w M else fnB t w m 9 (lfM t w M) := by
  have e : rpL t a M = M := by
    cases a with
    | zero => rfl
    | succ n => rw [rpL_s, if_neg (fun z => z.2 hi)]
  unfold fnW
  rw [e]
  rfl
theorem fnB_c {t w m b : Nat} {M : zM} (h : 0 < M 42 5 ∧ M 43 9 = 5 ∧ M 43 11 = 14) : fnB t w m (b + 1) M = fnB t w m b (clM w M) := by
  unfold fnB
  rw [rbL_s, if_pos h]
theorem rbL_e {w b : Nat} {M : zM} (h : ¬ (0 < M 42 5 ∧ M 43 9 = 5 ∧ M 43 11 = 14)) : rbL w b M = M := by
  cases b with
  | zero => rfl
  | succ n => rw [rbL_s, if_neg h]
theorem fnB_0 {t w m b : Nat} {M : zM} (h : ¬ (0 < M 42 5 ∧ M 43 9 = 5 ∧ M 43 11 = 14)) (hs : sgH M = -1) : fnB t w m b M = if 0 < M 42 5 then flM M 1 else M := by
  unfold fnB
  rw [rbL_e h]
  unfold rbT
  rw [if_pos hs]
  exact lwL_0 _ _ _ _
theorem sg9_6 {t w : Nat} {M : zM} (h0 : M 42 6 = 0) (hw : w + 1 < 42) (h : sgM9 t w M 42 6 = 0) : ¬ (rnk (sgH M) = 4 ∧ rkA (lyA w (if rnk (sgH M) = 4 then rnk (sgH M) + 1 else rnk (sgH M)) (M 42 4).toNat M) = 4) := by
  intro c
  have e : sgM9 t w M = flM (lyA w (if rnk (sgH M) = 4 then rnk (sgH M) + 1 else rnk (sgH M)) (M 42 4).toNat M) 1 := by
    unfold sgM9
    exact if_pos c
  rw [e, (flM_6 1 (by rw [lyA_4 hw (by decide)]; exact h0)).1] at h
  exact absurd h (by decide)
theorem fnB_f {t w m b : Nat} {M : zM} (h : ¬ (0 < M 42 5 ∧ M 43 9 = 5 ∧ M 43 11 = 14)) (hs : sgH M ≠ -1) (h6 : sgM9 t w M 42 6 ≠ 0) : fnB t w m b M = sgM9 t w M := by
  unfold fnB
  rw [rbL_e h]
  unfold rbT
  rw [if_neg hs]
  by_cases c : rnk (sgH M) = 4 ∧ rkA (lyA w (if rnk (sgH M) = 4 then rnk (sgH M) + 1 else rnk (sgH M)) (M 42 4).toNat M) = 4
  · simp only
    rw [if_pos c]
    exact lwL_0 _ _ _ _
  · simp only
    rw [if_neg c, if_neg h6]
    exact lwL_0 _ _ _ _
theorem lwL_W {t w m : Nat} {M : zM} : lwL t w (m + 1) 1 M = fnW t w m 701 M := by
  rw [lwL_s, if_neg (by decide)]
  unfold fnW
  rw [lwL_0]
  rfl
theorem fnB_s {t w m b : Nat} {M : zM} (h : ¬ (0 < M 42 5 ∧ M 43 9 = 5 ∧ M 43 11 = 14)) (hs : sgH M ≠ -1) (h0 : M 42 6 = 0) (hw : w + 1 < 42) (h6 : sgM9 t w M 42 6 = 0) : fnB t w (m + 1) b M = fnW t w m 701 (sgM9 t w M) := by
  have e : rbT t w M = (sgM9 t w M, 1) := by
    unfold rbT
    rw [if_neg hs, if_neg (sg9_6 h0 hw h6), if_pos h6]
  unfold fnB
  rw [rbL_e h, e]
  exact lwL_W
/-- each takes one token -/
theorem tc_5 {t : Nat} {M : zM} (ht : t ≠ 43) (h0 : M 42 6 = 0) (h : tcM t M 42 6 = 0) : tcM t M 43 4 = M 43 4 ∧ tcM t M 43 5 = M 43 5 + 1 := by
  unfold tcM at h ⊢
  by_cases c : M t 1 < 64
  · rw [if_pos c]
    have s := stT_4 (sm M t 1 (M t 1 + 1))
    rw [s.1, s.2.1, sm_n (Ne.symm ht)]; exact ⟨rfl, rfl⟩
  · rw [if_neg c, (flM_6 2 h0).1] at h
    exact absurd h (by decide)
theorem rpB_5 {t : Nat} {M : zM} (ht : t ≠ 43) (h0 : M 42 6 = 0) (h : rpB t M 42 6 = 0) : rpB t M 43 4 = M 43 4 ∧ rpB t M 43 5 = M 43 5 + 1 := by
  unfold rpB at h ⊢
  by_cases c : M 43 9 = 5 ∧ M 43 11 = 13
  · rw [if_pos c] at h ⊢
    unfold toM at h ⊢
    by_cases d : M 42 5 < 8
    · rw [if_pos d]
      have s := stT_4 (paM 13 (sm M 42 5 (M 42 5 + 1)))
      rw [s.1, s.2.1, pa43]; exact ⟨rfl, rfl⟩
    · rw [if_neg d, (flM_6 2 h0).1] at h
      exact absurd h (by decide)
  · rw [if_neg c] at h ⊢
    rw [paM_42 _ _ (by decide)] at h
    rw [pa_x _ _ (by decide) (by decide)]
    exact tc_5 ht h0 h
theorem la42 {w : Nat} {x : Int} {M : zM} (hw : w + 1 < 42) : laM w x M 42 = M 42 ∧ laM w x M 43 = M 43 := ⟨la_x _ _ _ (by omega) (by omega), la_x _ _ _ (by omega) (by omega)⟩
theorem lfM_5 {t w : Nat} {M : zM} (ht : t ≠ 43) (hw : w + 1 < 42) (h0 : M 42 6 = 0) (h : lfM t w M 42 6 = 0) : lfM t w M 43 4 = M 43 4 ∧ lfM t w M 43 5 = M 43 5 + 1 := by
  unfold lfM at h ⊢
  rw [if_neg (fun z => z h0)] at h ⊢
  by_cases c : M 43 9 = 3 ∧ 14 ≤ M 43 11
  · rw [if_pos c, (la42 hw).1] at h
    rw [if_pos c, (la42 hw).2]
    exact tc_5 ht h0 h
  · rw [if_neg c] at h ⊢
    by_cases d : lnM 0 9999 M 42 6 = 0
    · rw [if_pos d, (la42 hw).1] at h
      rw [if_pos d, (la42 hw).2]
      have z := tc_5 ht d h
      rw [lnM_n 0 9999 M (k := 43) (by decide)] at z
      exact z
    · rw [if_neg d] at h
      exact absurd h d
theorem clM_5 {w : Nat} {M : zM} (hw : w + 1 < 42) : clM w M 43 4 = M 43 4 ∧ clM w M 43 5 = M 43 5 + 1 := by
  obtain ⟨C, eC⟩ : ∃ C, C = lyA w 1 (M 42 4).toNat M := ⟨_, rfl⟩
  have e : clM w M = stT (sm (sm C 42 4 (C 42 4 - 1)) 42 5 (C 42 5 - 1)) := by rw [eC]; rfl
  have s := stT_4 (sm (sm C 42 4 (C 42 4 - 1)) 42 5 (C 42 5 - 1))
  have q : C 43 = M 43 := by rw [eC]; exact lyA_n w 1 (by decide) (by omega) (by omega) _ _
  rw [e, s.1, s.2.1, sm_n (by decide), sm_n (by decide), q]; exact ⟨rfl, rfl⟩
theorem sgM9_5 {t w : Nat} {M : zM} (ht : t ≠ 43) (hw : w + 1 < 42) (h0 : M 42 6 = 0) (h : sgM9 t w M 42 6 = 0) : sgM9 t w M 43 4 = M 43 4 ∧ sgM9 t w M 43 5 = M 43 5 + 1 := by
  obtain ⟨C, eC⟩ : ∃ C, C = lyA w (if rnk (sgH M) = 4 then 5 else rnk (sgH M)) (M 42 4).toNat M := ⟨_, rfl⟩
  have s9 := sg9 t w M C _ rfl eC
  have c6 : C 42 6 = 0 := by rw [eC, lyA_4 hw (by decide)]; exact h0
  have q : C 43 = M 43 := by rw [eC]; exact lyA_n w _ (by decide) (by omega) (by omega) _ _
  by_cases c : rnk (sgH M) = 4 ∧ rkA C = 4
  · rw [s9, if_pos c, (flM_6 1 c6).1] at h
    exact absurd h (by decide)
  · rw [if_neg c] at s9
    rw [s9, paM_42 _ _ (by decide)] at h
    rw [s9, pa_x _ _ (by decide) (by decide)]
    have z := tc_5 ht c6 h
    rw [q] at z
    exact z
theorem cn13_0 (f : Int → Int) : ∀ n : Nat, 0 ≤ cn13 f n
  | 0 => by simp only [cn13]; omega
  | n + 1 => by have := cn13_0 f n; simp only [cn13]; split <;> omega
theorem cn13_p (f : Int → Int) {w : Int} (h : 0 < w) (e : f (w - 1) = 13) : 1 ≤ cn13 f w.toNat := by
  obtain ⟨m, hm⟩ : ∃ m : Nat, w = (m : Int) + 1 := ⟨(w - 1).toNat, by omega⟩
  rw [show w.toNat = m + 1 by omega]
  rw [show w - 1 = (m : Int) by omega] at e
  have := cn13_0 f m
  simp only [cn13]
  rw [if_pos e]; omega
/-- a law read, against the class's -/
def SuR (f : Int → Int) (n : Int) (t w : Nat) (F : Int) (X : zM) (r : Int) (M' : zM) : Prop := (r = 0 ∧ ((X 42 6 ≠ 0 ∧ FT X M') ∨ (X 42 6 = 0 ∧ ¬ (X 43 9 = 5 ∧ X 43 11 = 15) ∧ FT (flM X 1) M'))) ∨ (r = 1 ∧ X 42 6 = 0 ∧ (X 43 9 = 5 ∧ X 43 11 = 15) ∧ RTk f n X M' ∧ KN (X (w + 1)) F (X w 1).toNat M' ∧ (M' 209 19 = F + X w 1 ∧ M' 209 42 = X t 1 ∧ M' 209 19 = M' 209 42) ∧ (pst (X (w + 1)) F (X w 1).toNat).length = 1)
theorem ft_ly {w : Nat} {r : Int} {n : Nat} {C M : zM} (hw : w + 1 < 42) (h : FT C M) : FT (lyA w r n C) M := by
  unfold FT at *
  rw [lyA_4 hw (by decide), lyA_4 hw (by decide)]; exact h
theorem ft_fl {C X M : zM} {c : Int} (h6 : C 42 6 = 0) (e6 : X 42 6 = C 42 6) (e3 : X 43 = C 43) (h : FT (flM C c) M) : FT (flM X c) M := by
  unfold FT flM at *
  rw [if_pos h6] at h
  rw [if_pos (by rw [e6]; exact h6), e3]
  simp (disch := decide) only [sm_k, us_s, us_n] at h ⊢
  exact h
/-- the end of a law -/
theorem su_end {f : Int → Int} {n : Int} {t w : Nat} {F : Int} {Mc M N X : zM} (tw : t < 41 ∧ w + 1 < 42 ∧ w ≠ t ∧ w + 1 ≠ t) (ht : RTk f n Mc M) (h0 : Mc 42 6 = 0) (hv : LvI t w Mc) (hq : LQ t w F Mc M) (hb : LBh M) (h5 : Mc 42 5 = 0) (hs : Mc 43 9 = 5 ∧ Mc 43 11 = 15) (eX : X = lyA w 1 (Mc 42 4).toNat Mc) (eN : N = bdM 1 (M 209 39).toNat M) : SuR f n t w F X 1 N ∧ FrL F M N := by
  obtain ⟨b1, b2, b3, b4, b5, b6, b7⟩ := bd_rel (r := 1) (by decide) tw hv hq hb eX eN
  obtain ⟨v1, v2, v3, v4, v5⟩ := id hv
  obtain ⟨y1, y2, y3, y4, y5, y6, y7⟩ := lyA_all (r := 1) tw.2.1 (Mc 42 4).toNat Mc v3 (by have := v3.1; omega) v4
  rw [← eX] at y1 y2 y3 y4 y5 y6 y7
  have c := (v5 h0).1
  have c2 := y6 (by decide)
  have x49 : X 49 = Mc 49 := y5 49 (by decide) (by omega) (by omega)
  have x4 : X 42 4 = 0 := by
    by_cases p : 0 < X 42 4
    · exfalso
      have r1 := y7 p
      unfold rkA at r1
      rw [if_pos p] at r1
      have q := y1.2.1 (X 42 4 - 1) (by omega) (by omega)
      have e13 : X 49 (X 42 4 - 1) = 13 := by
        by_cases z : X 49 (X 42 4 - 1) = 13
        · exact z
        · have := (rk_s _ q.1 (by omega)).1
          omega
      rw [x49] at e13
      have := cn13_p (Mc 49) p e13
      omega
    · have := y1.1; omega
  have n39 : N 209 39 = 0 := by rw [b1.1.1]; exact x4
  have e43 : X 43 = Mc 43 := y5 43 (by decide) (by omega) (by omega)
  have h40 : N 209 40 = 1 := by rw [b2.2.1, n39]; rfl
  have h19 : N 209 19 = N 209 42 := by rw [← b4, n39]; show _ = _ + (0 : Int); omega
  have rt := ly_rt (F := F) ⟨tw.1, tw.2.1⟩ ht eX b5 b6
  have ln := b1.2.2.2.2.2.len
  refine ⟨Or.inr ⟨rfl, by rw [y4 6 (by decide)]; exact h0, by rw [e43]; exact hs, rt, b1.2.2.2.2.1, ⟨b1.2.2.2.1, b1.2.2.1, h19⟩, by omega⟩, b5⟩
/-- how many tokens are left -/
def tkL (M : zM) : Int := M 43 4 - 1 - M 43 5
theorem tkL_p {M : zM} (h : TV M) (hs : M 43 9 ≠ 0) : 1 ≤ tkL M := by
  have := h.lt hs
  unfold tkL; omega
theorem LQ.ini {t w : Nat} {Mc M M0 : zM} (tw : t < 41 ∧ w + 1 < 42 ∧ w ≠ t ∧ w + 1 ≠ t) (hw0 : Mc w 1 = 0) (h42 : M 209 42 = Mc t 1) (h19 : M 209 19 = Mc t 1) (hk : 0 ≤ Mc t 1) (e : M0 = sm (sm (sm (sm (sm M 209 39 0) 209 40 0) 209 41 0) 209 43 1) 209 44 1) : LQ t w (M 209 19) (sm (sm Mc 42 4 0) 42 5 0) M0 ∧ LWt (sm (sm Mc 42 4 0) 42 5 0) M0 := by
  have n39 : M0 209 39 = 0 := by rw [e]; simp (disch := decide) only [sm_k, us_s, us_n]
  have n40 : M0 209 40 = 0 := by rw [e]; simp (disch := decide) only [sm_k, us_s, us_n]
  have n41 : M0 209 41 = 0 := by rw [e]; simp (disch := decide) only [sm_k, us_s, us_n]
  have n43 : M0 209 43 = 1 := by rw [e]; simp (disch := decide) only [sm_k, us_s, us_n]
  have n44 : M0 209 44 = 1 := by rw [e]; simp (disch := decide) only [sm_k, us_s, us_n]
  have n42 : M0 209 42 = M 209 42 := by rw [e]; simp (disch := decide) only [sm_k, us_s, us_n]
  have n19 : M0 209 19 = M 209 19 := by rw [e]; simp (disch := decide) only [sm_k, us_s, us_n]
  have c4 : sm (sm Mc 42 4 0) 42 5 0 42 4 = 0 := by simp (disch := decide) only [sm_k, us_s, us_n]
  have c5 : sm (sm Mc 42 4 0) 42 5 0 42 5 = 0 := by simp (disch := decide) only [sm_k, us_s, us_n]
  have ck : ∀ k : Nat, k ≠ 42 → sm (sm Mc 42 4 0) 42 5 0 k = Mc k := fun k a => by rw [sm_n a, sm_n a]
  refine ⟨⟨⟨⟨by rw [n39, c4], fun j a b => ?_⟩, by rw [n41, c5], by rw [n42, ck t (by omega)]; exact h42, by rw [n19, ck w (by omega), hw0]; omega, ?_, ?_⟩, by omega, ?_⟩, n43, ?_, ?_⟩
  · rw [c4] at b; omega
  · rw [ck w (by omega), hw0]; exact fun j hj => absurd hj (Nat.not_lt_zero j)
  · rw [ck w (by omega), hw0, n40]; rfl
  · rw [n19, n39, n42, h42, h19]; show _ + (0 : Int) = _; omega
  · rw [n40, n39]; rfl
  · rw [n44]
    have : rkA (sm (sm Mc 42 4 0) 42 5 0) = 0 := by unfold rkA; rw [c4, if_neg (by decide)]
    rw [this]; decide
theorem LvI.ini {t w : Nat} {Mc : zM} (tw : t < 41 ∧ w + 1 < 42) (hv : TV Mc) (hk : 0 ≤ Mc t 1 ∧ Mc t 1 ≤ 64) (hw0 : Mc w 1 = 0) : LvI t w (sm (sm Mc 42 4 0) 42 5 0) := by
  have c4 : sm (sm Mc 42 4 0) 42 5 0 42 4 = 0 := by simp (disch := decide) only [sm_k, us_s, us_n]
  have c5 : sm (sm Mc 42 4 0) 42 5 0 42 5 = 0 := by simp (disch := decide) only [sm_k, us_s, us_n]
  have ck : ∀ k : Nat, k ≠ 42 → sm (sm Mc 42 4 0) 42 5 0 k = Mc k := fun k a => by rw [sm_n a, sm_n a]
  refine ⟨?_, by rw [ck t (by omega)]; exact hk, ⟨by rw [c4]; omega, fun j a b => by rw [c4] at b; omega, by rw [c5]; omega⟩, by rw [ck w (by omega), hw0]; omega, fun _ => ⟨by rw [c4, c5]; rfl, by rw [c4, c5, ck t (by omega)]; omega⟩⟩
  unfold TV at *
  rw [ck 43 (by decide), ck 45 (by decide), ck 46 (by decide), ck 47 (by decide)]; exact hv
end ZRSU

set_option maxRecDepth 100000 in
set_option maxHeartbeats 4000000 in
theorem swX11_sumRead {G : zG} {l : Launch} {L : Nat} {P : zP} {f : Int → Int} {n : Int} {t w : Nat} {F : Int} {Mc Fin X M0 M : zM} {Z : zZ} (hP : PFok P) (ht : RTk f n Mc M) (h0 : Mc 42 6 = 0) (tt : t = 4 ∨ t = 23) (hwt : w = t + 13 ∨ w = t + 15 ∨ w = t + 17) (hv : LvI t w Mc) (hq : LQ t w F Mc M) (hw : LWt Mc M) (eX : X = lyA w 1 (Fin 42 4).toNat Fin) (eZ : Z = zany (LAY L) P (fun r M' => FrL F M0 M' ∧ SuR f n t w F X r M')) (fr0 : FrL F M0 M) (m a : Nat) (hm : tkL Mc ≤ m) (ha : tkL Mc ≤ a) (eF : Fin = fnW t w m a Mc) (kk : ∀ C N : zM, tkL C < tkL Mc → RTk f n C N → C 42 6 = 0 → LvI t w C → LQ t w F C N → FrL F M0 N → ((LWt C N ∧ ∃ m a : Nat, tkL C ≤ m ∧ tkL C ≤ a ∧ Fin = fnW t w m a C) ∨ (LBh N ∧ ∃ m b : Nat, tkL C ≤ m ∧ C 42 5 ≤ b ∧ Fin = fnB t w m b C)) → AW G l mdX11_sumRead Z 25 [some (aR 209)] [] (LAY L) P N 0 0) : AW G l mdX11_sumRead Z 25 [some (aR 209)] [] (LAY L) P M 0 0 := by
  have t4 := ht.2.2.2.1
  unfold TKq at t4
  have tw : t < 41 ∧ w + 1 < 42 ∧ w ≠ t ∧ w + 1 ≠ t := by omega
  have tv := ht.1.2
  have v8 := hv.2.2.1.2.2
  have w3 := hw.1
  refine a_aloadn dX11_sumRead_25 rfl ?_
  refine a_bipush (w := 59) dX11_sumRead_26 (by decide) ?_
  refine a_oneV (as := [_]) (q := 209) dX11_sumRead_28 mvX11_179 ⟨by decide, by decide⟩ (L209 L) rfl rfl rfl (Nat.le_of_ble_eq_true rfl) ⟨rfl, rfl⟩ ⟨by decide, by decide⟩ (m_isSg1 ⟨by omega, by omega⟩) (fun x28 hx28 => ?_)
  refine a_if_eq (tgt := 48) dX11_sumRead_31 (by decide) ⟨by omega, by omega⟩ (fun hb31 => ?_) (fun hb31 => ?_)
  · refine a_aloadn dX11_sumRead_48 rfl ?_
    refine b_getZ (j' := 43) dX11_sumRead_49 flX11_284 rfl rfl (L209 L) (fun hr49 => ?_)
    refine a_if_eq (tgt := 65) dX11_sumRead_52 (by decide) ⟨by omega, by omega⟩ (fun hb52 => ?_) (fun hb52 => ?_)
    · exfalso; omega
    · refine a_aloadn dX11_sumRead_55 rfl ?_
      refine a_anyV (as := []) (q := 209) dX11_sumRead_56 mvX11_290 ⟨by decide, by decide⟩ (L209 L) rfl rfl rfl (Nat.le_of_ble_eq_true rfl) ⟨rfl, rfl⟩ ⟨by decide, by decide⟩ (m_X11_leafRead hP ht h0 tt hwt hv hq hw) (fun x56 M1 hM1 => ?_)
      obtain ⟨fr1, lf⟩ := hM1
      have hx56 : x56 = 0 ∨ x56 = 1 := by rcases lf with ⟨_, ⟨e, _⟩ | ⟨e, _⟩⟩ | ⟨_, ⟨e, _⟩ | ⟨e, _⟩⟩ <;> omega
      refine a_if_eq (tgt := 72) dX11_sumRead_59 (by decide) ⟨by omega, by omega⟩ (fun hb59 => ?_) (fun hb59 => ?_)
      · refine a_iconst dX11_sumRead_72 ?_
        rcases lf with ⟨ia, ⟨_, z6, ft⟩ | ⟨e, _⟩⟩ | ⟨ia, ⟨_, z6, ft⟩ | ⟨e, _⟩⟩
        · have hs : Mc 43 9 ≠ 0 := by intro z; apply ia; unfold iaV; rw [if_neg (by omega)]
          have tp := tkL_p tv hs
          obtain ⟨a', rfl⟩ : ∃ a', a = a' + 1 := ⟨a - 1, by omega⟩
          rw [fnW_i h0 ia, fnW_f z6] at eF
          exact a_zreturn dX11_sumRead_73 rfl rfl rfl (by omega) (by rw [eZ]; exact zany_i ⟨fr0.tr fr1, Or.inl ⟨rfl, Or.inl ⟨by rw [eX, lyA_4 tw.2.1 (by decide), eF]; exact z6, by rw [eX]; exact ft_ly tw.2.1 (by rw [eF]; exact ft)⟩⟩⟩)
        · omega
        · rw [fnW_l ia, if_pos z6] at eF
          exact a_zreturn dX11_sumRead_73 rfl rfl rfl (by omega) (by rw [eZ]; exact zany_i ⟨fr0.tr fr1, Or.inl ⟨rfl, Or.inl ⟨by rw [eX, lyA_4 tw.2.1 (by decide), eF]; exact z6, by rw [eX]; exact ft_ly tw.2.1 (by rw [eF]; exact ft)⟩⟩⟩)
        · omega
      · refine a_goto (tgt := 25) dX11_sumRead_62 (by decide) ?_
        rcases lf with ⟨ia, ⟨e, _⟩ | ⟨_, z6, rt, lq, lw⟩⟩ | ⟨ia, ⟨e, _⟩ | ⟨_, z6, rt, lq, lb⟩⟩
        · omega
        · have hs : Mc 43 9 ≠ 0 := by intro z; apply ia; unfold iaV; rw [if_neg (by omega)]
          have tp := tkL_p tv hs
          have q := rpB_5 (t := t) (by omega) h0 z6
          obtain ⟨a', rfl⟩ : ∃ a', a = a' + 1 := ⟨a - 1, by omega⟩
          have tq : tkL (rpB t Mc) = tkL Mc - 1 := by unfold tkL; rw [q.1, q.2]; omega
          exact kk _ _ (by omega) rt z6 (hv.rpB tw.1 (by omega) tw.2.2.1 h0 ia) lq (fr0.tr fr1) (Or.inl ⟨lw, m, a', by omega, by omega, by rw [eF, fnW_i h0 ia]⟩)
        · omega
        · have q := lfM_5 (t := t) (by omega) tw.2.1 h0 z6
          have tq : tkL (lfM t w Mc) = tkL Mc - 1 := by unfold tkL; rw [q.1, q.2]; omega
          have lv := hv.lf tw.1 tw.2.1 ⟨tw.2.2.1, tw.2.2.2⟩
          exact kk _ _ (by omega) rt z6 lv lq (fr0.tr fr1) (Or.inr ⟨lb, m, 9, by omega, by have := lv.2.2.1.2.2; omega, by rw [eF, fnW_l ia, if_neg (by omega)]⟩)
  · refine a_aloadn dX11_sumRead_34 rfl ?_
    refine b_getZ (j' := 43) dX11_sumRead_35 flX11_284 rfl rfl (L209 L) (fun hr35 => ?_)
    refine a_if_ne (tgt := 48) dX11_sumRead_38 (by decide) ⟨by omega, by omega⟩ (fun hb38 => ?_) (fun hb38 => ?_)
    · refine a_aloadn dX11_sumRead_48 rfl ?_
      refine b_getZ (j' := 43) dX11_sumRead_49 flX11_284 rfl rfl (L209 L) (fun hr49 => ?_)
      refine a_if_eq (tgt := 65) dX11_sumRead_52 (by decide) ⟨by omega, by omega⟩ (fun hb52 => ?_) (fun hb52 => ?_)
      · exfalso; omega
      · refine a_aloadn dX11_sumRead_55 rfl ?_
        refine a_anyV (as := []) (q := 209) dX11_sumRead_56 mvX11_290 ⟨by decide, by decide⟩ (L209 L) rfl rfl rfl (Nat.le_of_ble_eq_true rfl) ⟨rfl, rfl⟩ ⟨by decide, by decide⟩ (m_X11_leafRead hP ht h0 tt hwt hv hq hw) (fun x56 M1 hM1 => ?_)
        obtain ⟨fr1, lf⟩ := hM1
        have hx56 : x56 = 0 ∨ x56 = 1 := by rcases lf with ⟨_, ⟨e, _⟩ | ⟨e, _⟩⟩ | ⟨_, ⟨e, _⟩ | ⟨e, _⟩⟩ <;> omega
        refine a_if_eq (tgt := 72) dX11_sumRead_59 (by decide) ⟨by omega, by omega⟩ (fun hb59 => ?_) (fun hb59 => ?_)
        · refine a_iconst dX11_sumRead_72 ?_
          rcases lf with ⟨ia, ⟨_, z6, ft⟩ | ⟨e, _⟩⟩ | ⟨ia, ⟨_, z6, ft⟩ | ⟨e, _⟩⟩
          · have hs : Mc 43 9 ≠ 0 := by intro z; apply ia; unfold iaV; rw [if_neg (by omega)]
            have tp := tkL_p tv hs
            obtain ⟨a', rfl⟩ : ∃ a', a = a' + 1 := ⟨a - 1, by omega⟩
            rw [fnW_i h0 ia, fnW_f z6] at eF
            exact a_zreturn dX11_sumRead_73 rfl rfl rfl (by omega) (by rw [eZ]; exact zany_i ⟨fr0.tr fr1, Or.inl ⟨rfl, Or.inl ⟨by rw [eX, lyA_4 tw.2.1 (by decide), eF]; exact z6, by rw [eX]; exact ft_ly tw.2.1 (by rw [eF]; exact ft)⟩⟩⟩)
          · omega
          · rw [fnW_l ia, if_pos z6] at eF
            exact a_zreturn dX11_sumRead_73 rfl rfl rfl (by omega) (by rw [eZ]; exact zany_i ⟨fr0.tr fr1, Or.inl ⟨rfl, Or.inl ⟨by rw [eX, lyA_4 tw.2.1 (by decide), eF]; exact z6, by rw [eX]; exact ft_ly tw.2.1 (by rw [eF]; exact ft)⟩⟩⟩)
          · omega
        · refine a_goto (tgt := 25) dX11_sumRead_62 (by decide) ?_
          rcases lf with ⟨ia, ⟨e, _⟩ | ⟨_, z6, rt, lq, lw⟩⟩ | ⟨ia, ⟨e, _⟩ | ⟨_, z6, rt, lq, lb⟩⟩
          · omega
          · have hs : Mc 43 9 ≠ 0 := by intro z; apply ia; unfold iaV; rw [if_neg (by omega)]
            have tp := tkL_p tv hs
            have q := rpB_5 (t := t) (by omega) h0 z6
            obtain ⟨a', rfl⟩ : ∃ a', a = a' + 1 := ⟨a - 1, by omega⟩
            have tq : tkL (rpB t Mc) = tkL Mc - 1 := by unfold tkL; rw [q.1, q.2]; omega
            exact kk _ _ (by omega) rt z6 (hv.rpB tw.1 (by omega) tw.2.2.1 h0 ia) lq (fr0.tr fr1) (Or.inl ⟨lw, m, a', by omega, by omega, by rw [eF, fnW_i h0 ia]⟩)
          · omega
          · have q := lfM_5 (t := t) (by omega) tw.2.1 h0 z6
            have tq : tkL (lfM t w Mc) = tkL Mc - 1 := by unfold tkL; rw [q.1, q.2]; omega
            have lv := hv.lf tw.1 tw.2.1 ⟨tw.2.2.1, tw.2.2.2⟩
            exact kk _ _ (by omega) rt z6 lv lq (fr0.tr fr1) (Or.inr ⟨lb, m, 9, by omega, by have := lv.2.2.1.2.2; omega, by rw [eF, fnW_l ia, if_neg (by omega)]⟩)
    · exfalso; omega

set_option maxRecDepth 100000 in
set_option maxHeartbeats 4000000 in
theorem sbX11_sumRead {G : zG} {l : Launch} {L : Nat} {P : zP} {f : Int → Int} {n : Int} {t w : Nat} {F : Int} {Mc Fin X M0 M : zM} {Z : zZ} (hP : PFok P) (ht : RTk f n Mc M) (h0 : Mc 42 6 = 0) (tt : t = 4 ∨ t = 23) (hwt : w = t + 13 ∨ w = t + 15 ∨ w = t + 17) (hv : LvI t w Mc) (hq : LQ t w F Mc M) (hb : LBh M) (eX : X = lyA w 1 (Fin 42 4).toNat Fin) (eZ : Z = zany (LAY L) P (fun r M' => FrL F M0 M' ∧ SuR f n t w F X r M')) (fr0 : FrL F M0 M) (m b : Nat) (hm : tkL Mc ≤ m) (h5 : Mc 42 5 ≤ b) (eF : Fin = fnB t w m b Mc) (kk : ∀ C N : zM, tkL C < tkL Mc → RTk f n C N → C 42 6 = 0 → LvI t w C → LQ t w F C N → FrL F M0 N → ((LWt C N ∧ ∃ m a : Nat, tkL C ≤ m ∧ tkL C ≤ a ∧ Fin = fnW t w m a C) ∨ (LBh N ∧ ∃ m b : Nat, tkL C ≤ m ∧ C 42 5 ≤ b ∧ Fin = fnB t w m b C)) → AW G l mdX11_sumRead Z 25 [some (aR 209)] [] (LAY L) P N 0 0) : AW G l mdX11_sumRead Z 25 [some (aR 209)] [] (LAY L) P M 0 0 := by
  have t4 := ht.2.2.2.1
  unfold TKq at t4
  have tw : t < 41 ∧ w + 1 < 42 ∧ w ≠ t ∧ w + 1 ≠ t := by omega
  have tv := ht.1.2
  have v8 := hv.2.2.1.2.2
  have w3 := hb.1
  have x41 := hq.1.2.1
  have bd := hq.bdi hb hv
  have sc := sgH_c Mc
  refine a_aloadn dX11_sumRead_25 rfl ?_
  refine a_bipush (w := 59) dX11_sumRead_26 (by decide) ?_
  refine a_oneV (as := [_]) (q := 209) dX11_sumRead_28 mvX11_179 ⟨by decide, by decide⟩ (L209 L) rfl rfl rfl (Nat.le_of_ble_eq_true rfl) ⟨rfl, rfl⟩ ⟨by decide, by decide⟩ (m_isSg1 ⟨by omega, by omega⟩) (fun x28 hx28 => ?_)
  refine a_if_eq (tgt := 48) dX11_sumRead_31 (by decide) ⟨by omega, by omega⟩ (fun hb31 => ?_) (fun hb31 => ?_)
  · refine a_aloadn dX11_sumRead_48 rfl ?_
    refine b_getZ (j' := 43) dX11_sumRead_49 flX11_284 rfl rfl (L209 L) (fun hr49 => ?_)
    refine a_if_eq (tgt := 65) dX11_sumRead_52 (by decide) ⟨by omega, by omega⟩ (fun hb52 => ?_) (fun hb52 => ?_)
    · refine a_aloadn dX11_sumRead_65 rfl ?_
      refine a_anyV (as := []) (q := 209) dX11_sumRead_66 mvX11_293 ⟨by decide, by decide⟩ (L209 L) rfl rfl rfl (Nat.le_of_ble_eq_true rfl) ⟨rfl, rfl⟩ ⟨by decide, by decide⟩ (m_X11_signs hP ht h0 tt hwt hv hq hb) (fun x66 M1 hM1 => ?_)
      obtain ⟨fr1, lf⟩ := hM1
      have hx66 : x66 = 0 ∨ x66 = 1 := by rcases lf with ⟨_, e, _⟩ | ⟨_, ⟨_, e, _⟩ | ⟨_, ⟨e, _⟩ | ⟨e, _⟩⟩⟩ <;> omega
      refine a_if_ne (tgt := 25) dX11_sumRead_69 (by decide) ⟨by omega, by omega⟩ (fun hb69 => ?_) (fun hb69 => ?_)
      · rcases lf with ⟨cl, _, z6, rt, lq, lb⟩ | ⟨nc, ⟨_, e, _⟩ | ⟨hs, ⟨e, _⟩ | ⟨_, z6, rt, lq, lw⟩⟩⟩
        · have tp := tkL_p tv (by omega)
          have q := clM_5 (M := Mc) tw.2.1
          have tq : tkL (clM w Mc) = tkL Mc - 1 := by unfold tkL; rw [q.1, q.2]; omega
          obtain ⟨b', rfl⟩ : ∃ b', b = b' + 1 := ⟨b - 1, by omega⟩
          have q5 : clM w Mc 42 5 = Mc 42 5 - 1 := by
            obtain ⟨C, eC⟩ : ∃ C, C = lyA w 1 (Mc 42 4).toNat Mc := ⟨_, rfl⟩
            have e : clM w Mc = stT (sm (sm C 42 4 (C 42 4 - 1)) 42 5 (C 42 5 - 1)) := by rw [eC]; rfl
            rw [e, stT_n _ (by decide), sm_k, us_s, eC, lyA_4 tw.2.1 (by decide)]
          exact kk _ _ (by omega) rt z6 (hv.cl tw.1 tw.2.1 ⟨tw.2.2.1, tw.2.2.2⟩ h0 cl.1 (by omega)) lq (fr0.tr fr1) (Or.inr ⟨lb, m, b', by omega, by omega, by rw [eF, fnB_c cl]⟩)
        · omega
        · omega
        · have tp := tkL_p tv (by omega)
          have q := sgM9_5 (t := t) (by omega) tw.2.1 h0 z6
          have tq : tkL (sgM9 t w Mc) = tkL Mc - 1 := by unfold tkL; rw [q.1, q.2]; omega
          obtain ⟨m', rfl⟩ : ∃ m', m = m' + 1 := ⟨m - 1, by omega⟩
          have lv := hv.sg tw.1 tw.2.1 ⟨tw.2.2.1, tw.2.2.2⟩ h0 hs
          have t7 := lv.1.1
          exact kk _ _ (by omega) rt z6 lv lq (fr0.tr fr1) (Or.inl ⟨lw, m', 701, by omega, by unfold tkL; omega, by rw [eF, fnB_s nc hs h0 tw.2.1 z6]⟩)
      · refine a_iconst dX11_sumRead_72 ?_
        rcases lf with ⟨_, e, _⟩ | ⟨nc, ⟨hs, _, ft⟩ | ⟨hs, ⟨_, z6, ft⟩ | ⟨e, _⟩⟩⟩
        · omega
        · rw [fnB_0 nc hs] at eF
          by_cases p : 0 < Mc 42 5
          · rw [if_pos p] at eF
            exact a_zreturn dX11_sumRead_73 rfl rfl rfl (by omega) (by rw [eZ]; exact zany_i ⟨fr0.tr fr1, Or.inl ⟨rfl, Or.inl ⟨by rw [eX, lyA_4 tw.2.1 (by decide), eF, (flM_6 1 h0).1]; decide, by rw [eX]; exact ft_ly tw.2.1 (by rw [eF]; exact ft)⟩⟩⟩)
          · rw [if_neg p] at eF
            have e6 : X 42 6 = Mc 42 6 := by rw [eX, lyA_4 tw.2.1 (by decide), eF]
            have e3 : X 43 = Mc 43 := by rw [eX, lyA_n w 1 (by decide) (by omega) (by omega), eF]
            exact a_zreturn dX11_sumRead_73 rfl rfl rfl (by omega) (by rw [eZ]; exact zany_i ⟨fr0.tr fr1, Or.inl ⟨rfl, Or.inr ⟨by rw [e6]; exact h0, by rw [e3]; omega, ft_fl h0 e6 e3 ft⟩⟩⟩)
        · rw [fnB_f nc hs z6] at eF
          exact a_zreturn dX11_sumRead_73 rfl rfl rfl (by omega) (by rw [eZ]; exact zany_i ⟨fr0.tr fr1, Or.inl ⟨rfl, Or.inl ⟨by rw [eX, lyA_4 tw.2.1 (by decide), eF]; exact z6, by rw [eX]; exact ft_ly tw.2.1 (by rw [eF]; exact ft)⟩⟩⟩)
        · omega
    · exfalso; omega
  · refine a_aloadn dX11_sumRead_34 rfl ?_
    refine b_getZ (j' := 43) dX11_sumRead_35 flX11_284 rfl rfl (L209 L) (fun hr35 => ?_)
    refine a_if_ne (tgt := 48) dX11_sumRead_38 (by decide) ⟨by omega, by omega⟩ (fun hb38 => ?_) (fun hb38 => ?_)
    · exfalso; omega
    · refine a_aloadn dX11_sumRead_41 rfl ?_
      refine b_getI (j' := 41) dX11_sumRead_42 flX11_264 rfl rfl (L209 L) (fun hr42 => ?_)
      refine a_if_le (tgt := 74) dX11_sumRead_45 (by decide) ⟨by omega, by omega⟩ (fun hb45 => ?_) (fun hb45 => ?_)
      · refine a_aloadn dX11_sumRead_74 rfl ?_
        refine a_iconst dX11_sumRead_75 ?_
        refine a_callVv (as := [_]) (q := 209) dX11_sumRead_76 mvX11_287 ⟨by decide, by decide⟩ (L209 L) rfl rfl rfl (Nat.le_of_ble_eq_true rfl) ⟨rfl, rfl⟩ ⟨by decide, by decide⟩ (m_X11_bind hP ⟨by omega, by omega⟩ bd) ?_
        refine a_iconst dX11_sumRead_79 ?_
        rw [fnB_0 (by omega) (by omega), if_neg (by omega)] at eF
        have su := su_end (X := X) tw ht h0 hv hq hb (by omega) (by omega) (by rw [eX, eF]) rfl
        exact a_zreturn dX11_sumRead_80 rfl rfl rfl (by omega) (by rw [eZ]; exact zany_i ⟨fr0.tr su.2, su.1⟩)
      · refine a_aloadn dX11_sumRead_48 rfl ?_
        refine b_getZ (j' := 43) dX11_sumRead_49 flX11_284 rfl rfl (L209 L) (fun hr49 => ?_)
        refine a_if_eq (tgt := 65) dX11_sumRead_52 (by decide) ⟨by omega, by omega⟩ (fun hb52 => ?_) (fun hb52 => ?_)
        · refine a_aloadn dX11_sumRead_65 rfl ?_
          refine a_anyV (as := []) (q := 209) dX11_sumRead_66 mvX11_293 ⟨by decide, by decide⟩ (L209 L) rfl rfl rfl (Nat.le_of_ble_eq_true rfl) ⟨rfl, rfl⟩ ⟨by decide, by decide⟩ (m_X11_signs hP ht h0 tt hwt hv hq hb) (fun x66 M1 hM1 => ?_)
          obtain ⟨fr1, lf⟩ := hM1
          have hx66 : x66 = 0 ∨ x66 = 1 := by rcases lf with ⟨_, e, _⟩ | ⟨_, ⟨_, e, _⟩ | ⟨_, ⟨e, _⟩ | ⟨e, _⟩⟩⟩ <;> omega
          refine a_if_ne (tgt := 25) dX11_sumRead_69 (by decide) ⟨by omega, by omega⟩ (fun hb69 => ?_) (fun hb69 => ?_)
          · rcases lf with ⟨cl, _, z6, rt, lq, lb⟩ | ⟨nc, ⟨_, e, _⟩ | ⟨hs, ⟨e, _⟩ | ⟨_, z6, rt, lq, lw⟩⟩⟩
            · have tp := tkL_p tv (by omega)
              have q := clM_5 (M := Mc) tw.2.1
              have tq : tkL (clM w Mc) = tkL Mc - 1 := by unfold tkL; rw [q.1, q.2]; omega
              obtain ⟨b', rfl⟩ : ∃ b', b = b' + 1 := ⟨b - 1, by omega⟩
              have q5 : clM w Mc 42 5 = Mc 42 5 - 1 := by
                obtain ⟨C, eC⟩ : ∃ C, C = lyA w 1 (Mc 42 4).toNat Mc := ⟨_, rfl⟩
                have e : clM w Mc = stT (sm (sm C 42 4 (C 42 4 - 1)) 42 5 (C 42 5 - 1)) := by rw [eC]; rfl
                rw [e, stT_n _ (by decide), sm_k, us_s, eC, lyA_4 tw.2.1 (by decide)]
              exact kk _ _ (by omega) rt z6 (hv.cl tw.1 tw.2.1 ⟨tw.2.2.1, tw.2.2.2⟩ h0 cl.1 (by omega)) lq (fr0.tr fr1) (Or.inr ⟨lb, m, b', by omega, by omega, by rw [eF, fnB_c cl]⟩)
            · omega
            · omega
            · have tp := tkL_p tv (by omega)
              have q := sgM9_5 (t := t) (by omega) tw.2.1 h0 z6
              have tq : tkL (sgM9 t w Mc) = tkL Mc - 1 := by unfold tkL; rw [q.1, q.2]; omega
              obtain ⟨m', rfl⟩ : ∃ m', m = m' + 1 := ⟨m - 1, by omega⟩
              have lv := hv.sg tw.1 tw.2.1 ⟨tw.2.2.1, tw.2.2.2⟩ h0 hs
              have t7 := lv.1.1
              exact kk _ _ (by omega) rt z6 lv lq (fr0.tr fr1) (Or.inl ⟨lw, m', 701, by omega, by unfold tkL; omega, by rw [eF, fnB_s nc hs h0 tw.2.1 z6]⟩)
          · refine a_iconst dX11_sumRead_72 ?_
            rcases lf with ⟨_, e, _⟩ | ⟨nc, ⟨hs, _, ft⟩ | ⟨hs, ⟨_, z6, ft⟩ | ⟨e, _⟩⟩⟩
            · omega
            · rw [fnB_0 nc hs] at eF
              by_cases p : 0 < Mc 42 5
              · rw [if_pos p] at eF
                exact a_zreturn dX11_sumRead_73 rfl rfl rfl (by omega) (by rw [eZ]; exact zany_i ⟨fr0.tr fr1, Or.inl ⟨rfl, Or.inl ⟨by rw [eX, lyA_4 tw.2.1 (by decide), eF, (flM_6 1 h0).1]; decide, by rw [eX]; exact ft_ly tw.2.1 (by rw [eF]; exact ft)⟩⟩⟩)
              · rw [if_neg p] at eF
                have e6 : X 42 6 = Mc 42 6 := by rw [eX, lyA_4 tw.2.1 (by decide), eF]
                have e3 : X 43 = Mc 43 := by rw [eX, lyA_n w 1 (by decide) (by omega) (by omega), eF]
                exact a_zreturn dX11_sumRead_73 rfl rfl rfl (by omega) (by rw [eZ]; exact zany_i ⟨fr0.tr fr1, Or.inl ⟨rfl, Or.inr ⟨by rw [e6]; exact h0, by rw [e3]; omega, ft_fl h0 e6 e3 ft⟩⟩⟩)
            · rw [fnB_f nc hs z6] at eF
              exact a_zreturn dX11_sumRead_73 rfl rfl rfl (by omega) (by rw [eZ]; exact zany_i ⟨fr0.tr fr1, Or.inl ⟨rfl, Or.inl ⟨by rw [eX, lyA_4 tw.2.1 (by decide), eF]; exact z6, by rw [eX]; exact ft_ly tw.2.1 (by rw [eF]; exact ft)⟩⟩⟩)
            · omega
        · exfalso; omega

set_option maxRecDepth 100000 in
set_option maxHeartbeats 4000000 in
theorem lpX11_sum {G : zG} {l : Launch} {L : Nat} {P : zP} {f : Int → Int} {n : Int} {t w : Nat} {F : Int} {Fin X M0 : zM} {Z : zZ} (hP : PFok P) (tt : t = 4 ∨ t = 23) (hwt : w = t + 13 ∨ w = t + 15 ∨ w = t + 17) (eX : X = lyA w 1 (Fin 42 4).toNat Fin) (eZ : Z = zany (LAY L) P (fun r M' => FrL F M0 M' ∧ SuR f n t w F X r M')) : ∀ (q : Nat) (C N : zM), tkL C ≤ q → RTk f n C N → C 42 6 = 0 → LvI t w C → LQ t w F C N → FrL F M0 N → ((LWt C N ∧ ∃ m a : Nat, tkL C ≤ m ∧ tkL C ≤ a ∧ Fin = fnW t w m a C) ∨ (LBh N ∧ ∃ m b : Nat, tkL C ≤ m ∧ C 42 5 ≤ b ∧ Fin = fnB t w m b C)) → AW G l mdX11_sumRead Z 25 [some (aR 209)] [] (LAY L) P N 0 0 := by
  intro q
  induction q with
  | zero =>
    intro C N hq0 rt z6 lv lq fr dj
    have t0 : 0 ≤ tkL C := by have := lv.1.1; unfold tkL; omega
    have ab : ∀ C' N' : zM, tkL C' < tkL C → RTk f n C' N' → C' 42 6 = 0 → LvI t w C' → LQ t w F C' N' → FrL F M0 N' → ((LWt C' N' ∧ ∃ m a : Nat, tkL C' ≤ m ∧ tkL C' ≤ a ∧ Fin = fnW t w m a C') ∨ (LBh N' ∧ ∃ m b : Nat, tkL C' ≤ m ∧ C' 42 5 ≤ b ∧ Fin = fnB t w m b C')) → AW G l mdX11_sumRead Z 25 [some (aR 209)] [] (LAY L) P N' 0 0 := fun C' N' h1 _ _ lv' _ _ _ => by
      exfalso
      have := lv'.1.1
      unfold tkL at *
      omega
    rcases dj with ⟨lw, m, a, h1, h2, h3⟩ | ⟨lb, m, b, h1, h2, h3⟩
    · exact swX11_sumRead hP rt z6 tt hwt lv lq lw eX eZ fr m a h1 h2 h3 ab
    · exact sbX11_sumRead hP rt z6 tt hwt lv lq lb eX eZ fr m b h1 h2 h3 ab
  | succ q ih =>
    intro C N hq0 rt z6 lv lq fr dj
    rcases dj with ⟨lw, m, a, h1, h2, h3⟩ | ⟨lb, m, b, h1, h2, h3⟩
    · exact swX11_sumRead hP rt z6 tt hwt lv lq lw eX eZ fr m a h1 h2 h3 (fun C' N' g1 g2 g3 g4 g5 g6 g7 => ih C' N' (by omega) g2 g3 g4 g5 g6 g7)
    · exact sbX11_sumRead hP rt z6 tt hwt lv lq lb eX eZ fr m b h1 h2 h3 (fun C' N' g1 g2 g3 g4 g5 g6 g7 => ih C' N' (by omega) g2 g3 g4 g5 g6 g7)

set_option maxRecDepth 100000 in
set_option maxHeartbeats 4000000 in
theorem m_X11_sumRead {G : zG} {l : Launch} {L : Nat} {P : zP} {M : zM} {f : Int → Int} {n : Int} {t w : Nat} {Mc X : zM} (hP : PFok P) (ht : RTk f n Mc M) (h0 : Mc 42 6 = 0) (tt : t = 4 ∨ t = 23) (hwt : w = t + 13 ∨ w = t + 15 ∨ w = t + 17) (hk : 0 ≤ Mc t 1 ∧ Mc t 1 ≤ 64) (hw0 : Mc w 1 = 0) (h42 : M 209 42 = Mc t 1) (h19 : M 209 19 = Mc t 1) (eX : X = lyA w 1 (lwL t w 701 1 (sm (sm Mc 42 4 0) 42 5 0) 42 4).toNat (lwL t w 701 1 (sm (sm Mc 42 4 0) 42 5 0))) : AM G l yX11_sumRead mdX11_sumRead [aR 209] (LAY L) P M (zany (LAY L) P (fun r M' => FrL (M 209 19) M M' ∧ SuR f n t w (M 209 19) X r M')) := by
  refine AM.go [some (aR 209)] rfl (Nat.le_of_ble_eq_true rfl) ?_ (by decide) rfl rfl
  refine a_aloadn dX11_sumRead_0 rfl ?_
  refine a_iconst dX11_sumRead_1 ?_
  refine a_putI (j' := 39) dX11_sumRead_2 flX11_249 rfl rfl (L209 L) (by decide) rfl ⟨by omega, by omega⟩ ?_
  refine a_aloadn dX11_sumRead_5 rfl ?_
  refine a_iconst dX11_sumRead_6 ?_
  refine a_putI (j' := 40) dX11_sumRead_7 flX11_246 rfl rfl (L209 L) (by decide) rfl ⟨by omega, by omega⟩ ?_
  refine a_aloadn dX11_sumRead_10 rfl ?_
  refine a_iconst dX11_sumRead_11 ?_
  refine a_putI (j' := 41) dX11_sumRead_12 flX11_264 rfl rfl (L209 L) (by decide) rfl ⟨by omega, by omega⟩ ?_
  refine a_aloadn dX11_sumRead_15 rfl ?_
  refine a_iconst dX11_sumRead_16 ?_
  refine a_putZ (j' := 43) dX11_sumRead_17 flX11_284 rfl rfl (L209 L) (by decide) rfl (by omega) ?_
  refine a_aloadn dX11_sumRead_20 rfl ?_
  refine a_iconst dX11_sumRead_21 ?_
  refine a_putZ (j' := 44) dX11_sumRead_22 flX11_271 rfl rfl (L209 L) (by decide) rfl (by omega) ?_
  have tw : t < 41 ∧ w + 1 < 42 ∧ w ≠ t ∧ w + 1 ≠ t := by omega
  obtain ⟨N0, eN0⟩ : ∃ N0, N0 = sm (sm (sm (sm (sm M 209 39 0) 209 40 0) 209 41 0) 209 43 1) 209 44 1 := ⟨_, rfl⟩
  have lq := LQ.ini tw hw0 h42 h19 hk.1 eN0
  have lv := LvI.ini (t := t) (w := w) ⟨tw.1, tw.2.1⟩ ht.1.2 hk hw0
  have fr : FrL (M 209 19) M N0 := by rw [eN0]; exact (((((FrL.rf _ M).sm (i := 39) (by omega) 0).sm (i := 40) (by omega) 0).sm (i := 41) (by omega) 0).sm (i := 43) (by omega) 1).sm (i := 44) (by omega) 1
  have rt : RTk f n (sm (sm Mc 42 4 0) 42 5 0) N0 := ht.of (by rw [sm_n (by decide), sm_n (by decide)]) (by rw [sm_n (by decide), sm_n (by decide)]) (by rw [sm_n (by decide), sm_n (by decide)]) (by rw [sm_n (by decide), sm_n (by decide)]) (fun i a b => by rw [eN0]; rw [sm_k, us_n (by omega), sm_k, us_n (by omega), sm_k, us_n (by omega), sm_k, us_n (by omega), sm_k, us_n (by omega)]) (by rw [eN0]; simp (disch := decide) only [sm_n, sm_k, us_s, us_n]) (by rw [eN0]; simp (disch := decide) only [sm_n, sm_k, us_s, us_n])
  have z6 : sm (sm Mc 42 4 0) 42 5 0 42 6 = 0 := by simp (disch := decide) only [sm_k, us_n]; exact h0
  have t7 := lv.1.1
  rw [← eN0]
  exact lpX11_sum hP tt hwt eX rfl 700 _ N0 (by unfold tkL; omega) rt z6 lv lq.1 fr (Or.inl ⟨lq.2, 700, 701, by unfold tkL; omega, by unfold tkL; omega, lwL_W⟩)
