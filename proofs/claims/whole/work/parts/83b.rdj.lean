section ZLJ
/-- what a law's reading does to the tokens, to the text's other numbers, to its knots -/
def LJ (t w : Nat) (M M' : zM) : Prop := (M' 43 4 = M 43 4 ∧ M 43 5 ≤ M' 43 5) ∧ (∀ i : Int, i ≠ 1 → M' t i = M t i) ∧ (LwI M w → LwI M' w)
theorem LJ.rf (t w : Nat) (M : zM) : LJ t w M M := ⟨⟨rfl, Int.le_refl _⟩, fun _ _ => rfl, id⟩
theorem LJ.tr {t w : Nat} {M M1 M2 : zM} (h : LJ t w M M1) (h2 : LJ t w M1 M2) : LJ t w M M2 := ⟨⟨h2.1.1.trans h.1.1, Int.le_trans h.1.2 h2.1.2⟩, fun i hi => (h2.2.1 i hi).trans (h.2.1 i hi), fun z => h2.2.2 (h.2.2 z)⟩
theorem LwI.of {M M' : zM} {w : Nat} (h : LwI M w) (h1 : M' w = M w) (h2 : M' (w + 1) = M (w + 1)) : LwI M' w := by
  unfold LwI at *
  rw [h1, h2]; exact h
theorem LJ.of {t w : Nat} {M M' : zM} (h4 : M' 43 4 = M 43 4) (h5 : M' 43 5 = M 43 5) (ht : ∀ i : Int, i ≠ 1 → M' t i = M t i) (hw : M' w = M w) (hw1 : M' (w + 1) = M (w + 1)) : LJ t w M M' := ⟨⟨h4, by rw [h5]; exact Int.le_refl _⟩, ht, fun z => z.of hw hw1⟩
theorem LJ.st {t w : Nat} (M : zM) (ht : t ≠ 43) (hw : w ≠ 43 ∧ w + 1 ≠ 43) : LJ t w M (stT M) := by
  have s := stT_4 M
  exact ⟨⟨s.1, by rw [s.2.1]; omega⟩, fun i _ => by rw [stT_n M ht], fun z => z.of (stT_n M hw.1) (stT_n M hw.2)⟩
theorem LJ.fl {t w : Nat} (M : zM) (c : Int) (ht : t ≠ 42) (hw : w ≠ 42 ∧ w + 1 ≠ 42) : LJ t w M (flM M c) := LJ.of (by rw [flM_n M c (by decide)]) (by rw [flM_n M c (by decide)]) (fun i _ => by rw [flM_n M c ht]) (flM_n M c hw.1) (flM_n M c hw.2)
theorem LJ.s42 {t w : Nat} (M : zM) (i v : Int) (ht : t ≠ 42) (hw : w ≠ 42 ∧ w + 1 ≠ 42) : LJ t w M (sm M 42 i v) := LJ.of (by rw [sm_n (by decide)]) (by rw [sm_n (by decide)]) (fun i _ => by rw [sm_n ht]) (sm_n hw.1) (sm_n hw.2)
theorem LJ.pa {t w : Nat} (M : zM) (s : Int) (ht : t ≠ 42 ∧ t ≠ 49) (hw : w + 1 < 42) : LJ t w M (paM s M) := LJ.of (by rw [paM_n s M (by decide) (by decide)]) (by rw [paM_n s M (by decide) (by decide)]) (fun i _ => by rw [paM_n s M ht.1 ht.2]) (paM_n s M (by omega) (by omega)) (paM_n s M (by omega) (by omega))
theorem LJ.tc {t w : Nat} (M : zM) (ht : t < 41) (hw : w + 1 < 42) (hne : w ≠ t ∧ w + 1 ≠ t) : LJ t w M (tcM t M) := by
  unfold tcM
  split
  · refine LJ.tr (M1 := sm M t 1 (M t 1 + 1)) (LJ.of (by rw [sm_n (by omega)]) (by rw [sm_n (by omega)]) (fun i hi => by rw [sm_k, us_n hi]) (sm_n hne.1) (sm_n hne.2)) (LJ.st _ (by omega) (by omega))
  · exact LJ.fl M 2 (by omega) (by omega)
theorem LJ.to {t w : Nat} (M : zM) (ht : t < 41) (hw : w + 1 < 42) : LJ t w M (toM M) := by
  unfold toM
  split
  · exact ((LJ.s42 M 5 _ (by omega) (by omega)).tr (LJ.pa _ 13 (by omega) hw)).tr (LJ.st _ (by omega) (by omega))
  · exact LJ.fl M 2 (by omega) (by omega)
theorem LJ.la {t w : Nat} (M : zM) {x : Int} (hx : kok x) (ht : t < 41) (hw : w + 1 < 42) (hne : w ≠ t ∧ w + 1 ≠ t) : LJ t w M (laM w x M) := by
  refine ⟨⟨by rw [laM_n w x M (by omega) (by omega)], by rw [laM_n w x M (by omega) (by omega)]; exact Int.le_refl _⟩, fun i _ => by rw [laM_n w x M (by omega) (by omega)], fun z => ?_⟩
  obtain ⟨z1, z2⟩ := z
  unfold laM
  by_cases c : M w 1 < 64
  · rw [if_pos c]
    refine ⟨by rw [sm_s]; omega, fun i i0 i1 => ?_⟩
    rw [sm_s] at i1
    rw [sm_n (by omega), sm_k]
    by_cases e : i = M w 1
    · rw [e, us_s]; exact hx
    · rw [us_n e]; exact z2 i i0 (by omega)
  · rw [if_neg c]; exact ⟨z1, z2⟩
theorem LJ.ly {t w : Nat} {r : Int} (hr : 1 ≤ r) (ht : t < 41) (hw : w + 1 < 42) (hne : w ≠ t ∧ w + 1 ≠ t) : ∀ (n : Nat) (M : zM), AsI M → LJ t w M (lyA w r n M)
  | 0, M, _ => LJ.rf t w M
  | n + 1, M, hA => by
    rw [lyA_s]
    by_cases c : 0 < M 42 4 ∧ r ≤ rkA M
    · rw [if_pos c]
      have a := hA.2.1 (M 42 4 - 1) (by omega) (by omega)
      have q := rnk_in a
      have hk : rkA M = rnk (M 49 (M 42 4 - 1)) := by unfold rkA; rw [if_pos c.1]
      have hne13 : M 49 (M 42 4 - 1) ≠ 13 := fun z => by have := q.2.2.mpr z; omega
      have hx : kok (20000 + M 49 (M 42 4 - 1)) := by unfold kok; omega
      have h1 : LJ t w M (pop1 w M) := (LJ.s42 M 4 _ (by omega) (by omega)).tr (LJ.la _ hx ht hw hne)
      exact h1.tr (LJ.ly hr ht hw hne n _ (pop1_as hw hA c.1))
    · rw [if_neg c]; exact LJ.rf t w M
theorem LJ.rpB {t w : Nat} (M : zM) (ht : t < 41) (hw : w + 1 < 42) (hne : w ≠ t ∧ w + 1 ≠ t) : LJ t w M (rpB t M) := by
  unfold _root_.Jvm.Pilot.@@N@@.rpB
  split
  · exact LJ.to M ht hw
  · exact (LJ.tc M ht hw hne).tr (LJ.pa _ 2 (by omega) hw)
theorem LJ.rp {t w : Nat} (ht : t < 41) (hw : w + 1 < 42) (hne : w ≠ t ∧ w + 1 ≠ t) : ∀ (n : Nat) (M : zM), LJ t w M (rpL t n M)
  | 0, M => LJ.rf t w M
  | n + 1, M => by
    rw [rpL_s]
    split
    · exact (LJ.rpB M ht hw hne).tr (LJ.rp ht hw hne n _)
    · exact LJ.rf t w M
theorem LJ.ln {t w : Nat} (M : zM) (lo hi : Int) (ht : t ≠ 42) (hw : w ≠ 42 ∧ w + 1 ≠ 42) : LJ t w M (lnM lo hi M) := LJ.of (by rw [lnM_n _ _ _ (by decide)]) (by rw [lnM_n _ _ _ (by decide)]) (fun i _ => by rw [lnM_n _ _ _ ht]) (lnM_n _ _ _ hw.1) (lnM_n _ _ _ hw.2)
theorem LJ.lf {t w : Nat} (M : zM) (ht : t < 41) (hw : w + 1 < 42) (hne : w ≠ t ∧ w + 1 ≠ t) (hv : M 43 9 = 3 → M 43 11 ≤ 20) : LJ t w M (lfM t w M) := by
  unfold lfM
  split
  · exact LJ.rf t w M
  · split
    · rename_i c
      exact (LJ.tc M ht hw hne).tr (LJ.la _ (by have := hv c.1; unfold kok; omega) ht hw hne)
    · split
      · have g := lnV_in 0 9999 (M := M) (by decide)
        exact ((LJ.ln M 0 9999 (by omega) (by omega)).tr (LJ.tc _ ht hw hne)).tr (LJ.la _ (by unfold kok; omega) ht hw hne)
      · exact LJ.ln M 0 9999 (by omega) (by omega)
/-- words are numbered to 20 -/
def WdI (M : zM) : Prop := ∀ i : Int, 0 ≤ i → i < M 43 4 → M 45 i = 3 → 0 ≤ M 47 i ∧ M 47 i ≤ 20
theorem WdI.at {M : zM} (h : WdI M) (hv : TV M) (h3 : M 43 9 = 3) : 0 ≤ M 43 11 ∧ M 43 11 ≤ 20 := by
  obtain ⟨h1, h2, h4⟩ := hv
  rw [h2.2.2]
  exact h _ h1.1 (by omega) (by rw [← h2.1]; exact h3)
theorem WdI.of {M M' : zM} (h : WdI M) (h4 : M' 43 4 = M 43 4) (h45 : M' 45 = M 45) (h47 : M' 47 = M 47) : WdI M' := by
  unfold WdI at *
  rw [h4, h45, h47]; exact h
theorem LJ.rpm {t w : Nat} {M : zM} (ht : t < 41) (hw : w + 1 < 42) (hne : w ≠ t ∧ w + 1 ≠ t) (h : LvI t w M) (hd : WdI M) : LJ t w M (rpM t w M) := by
  have j := LJ.rp ht hw hne 701 M
  have v := LvI.rp ht hw hne 701 M h
  have d : WdI (rpL t 701 M) := hd.of j.1.1 (rpL_n t (by decide) (by decide) (by decide) (by omega) 701 M) (rpL_n t (by decide) (by decide) (by decide) (by omega) 701 M)
  exact j.tr (LJ.lf _ ht hw hne (fun z => (d.at v.1 z).2))
theorem LJ.cl {t w : Nat} {M : zM} (ht : t < 41) (hw : w + 1 < 42) (hne : w ≠ t ∧ w + 1 ≠ t) (hA : AsI M) : LJ t w M (clM w M) := by
  unfold clM
  exact (((LJ.ly (r := 1) (by decide) ht hw hne (M 42 4).toNat M hA).tr (LJ.s42 _ 4 _ (by omega) (by omega))).tr (LJ.s42 _ 5 _ (by omega) (by omega))).tr (LJ.st _ (by omega) (by omega))
theorem LJ.rbl {t w : Nat} (ht : t < 41) (hw : w + 1 < 42) (hne : w ≠ t ∧ w + 1 ≠ t) : ∀ (n : Nat) (M : zM), LvI t w M → M 42 6 = 0 → LJ t w M (rbL w n M)
  | 0, M, _, _ => LJ.rf t w M
  | n + 1, M, h, h0 => by
    rw [rbL_s]
    split
    · rename_i c
      exact (LJ.cl ht hw hne h.2.2.1).tr (LJ.rbl ht hw hne n _ (h.cl ht hw hne h0 c.1 (by omega)) (by rw [cl_f hw h.2.2.1 h.2.2.2.1]; exact h0))
    · exact LJ.rf t w M
theorem LJ.sg {t w : Nat} {M : zM} (ht : t < 41) (hw : w + 1 < 42) (hne : w ≠ t ∧ w + 1 ≠ t) (hA : AsI M) (hs : sgH M ≠ -1) : LJ t w M (sgM9 t w M) := by
  have q := sgH_in M
  have r1 : 1 ≤ rnk (sgH M) := by
    obtain ⟨k, hk⟩ : ∃ k : Nat, sgH M = (k : Int) := ⟨(sgH M).toNat, by omega⟩
    rw [hk]; exact rnk_12 ⟨k, by omega⟩
  unfold sgM9
  obtain ⟨r9, er⟩ : ∃ r9, r9 = (if rnk (sgH M) = 4 then rnk (sgH M) + 1 else rnk (sgH M)) := ⟨_, rfl⟩
  show LJ t w M (if rnk (sgH M) = 4 ∧ rkA (lyA w (if rnk (sgH M) = 4 then rnk (sgH M) + 1 else rnk (sgH M)) (M 42 4).toNat M) = 4 then flM (lyA w (if rnk (sgH M) = 4 then rnk (sgH M) + 1 else rnk (sgH M)) (M 42 4).toNat M) 1 else paM (sgH M) (tcM t (lyA w (if rnk (sgH M) = 4 then rnk (sgH M) + 1 else rnk (sgH M)) (M 42 4).toNat M)))
  rw [← er]
  have hr9 : 1 ≤ r9 := by rw [er]; split <;> omega
  have j := LJ.ly (t := t) (w := w) hr9 ht hw hne (M 42 4).toNat M hA
  split
  · exact j.tr (LJ.fl _ 1 (by omega) (by omega))
  · exact (j.tr (LJ.tc _ ht hw hne)).tr (LJ.pa _ _ (by omega) hw)
theorem LJ.rb {t w : Nat} {M : zM} (ht : t < 41) (hw : w + 1 < 42) (hne : w ≠ t ∧ w + 1 ≠ t) (h : LvI t w M) (h0 : M 42 6 = 0) : LJ t w M (rbM t w M).1 := by
  rw [rbM_e]
  have j := LJ.rbl ht hw hne 9 M h h0
  obtain ⟨z1, z2⟩ := LvI.rbl ht hw hne 9 M h h0
  unfold rbT
  split
  · show LJ t w M (if 0 < rbL w 9 M 42 5 then flM (rbL w 9 M) 1 else rbL w 9 M)
    split
    · exact j.tr (LJ.fl _ 1 (by omega) (by omega))
    · exact j
  · rename_i c
    exact j.tr (LJ.sg ht hw hne z1.2.2.1 c)
theorem LJ.lw {t w : Nat} (ht : t < 41) (hw : w + 1 < 42) (hne : w ≠ t ∧ w + 1 ≠ t) : ∀ (n : Nat) (g : Int) (M : zM), LvI t w M → WdI M → LJ t w M (lwL t w n g M)
  | 0, g, M, _, _ => LJ.rf t w M
  | n + 1, g, M, h, hd => by
    rw [lwL_s]
    split
    · exact LJ.rf t w M
    · have h1 := h.rpm ht hw hne
      have j1 := LJ.rpm ht hw hne h hd
      have d1 : WdI (rpM t w M) := hd.of j1.1.1 (rpM_n t w M (by decide) (by decide) (by decide) (by omega) (by omega) (by omega)) (rpM_n t w M (by decide) (by decide) (by decide) (by omega) (by omega) (by omega))
      split
      · exact j1.tr (LJ.lw ht hw hne n 0 _ h1 d1)
      · rename_i c
        have h0 : rpM t w M 42 6 = 0 := by omega
        have j2 := LJ.rb ht hw hne h1 h0
        have d2 : WdI (rbM t w (rpM t w M)).1 := d1.of j2.1.1 (rbM_n t w _ (by decide) (by decide) (by decide) (by omega) (by omega) (by omega)) (rbM_n t w _ (by decide) (by decide) (by decide) (by omega) (by omega) (by omega))
        exact (j1.tr j2).tr (LJ.lw ht hw hne n _ _ (h1.rb ht hw hne h0) d2)
end ZLJ
