section ZH5
theorem tdM_cong {t a : Nat} (ht : t ≤ 25) (ha : 54 ≤ a) : ∀ (n : Nat) (i : Int) (Ma M : zM), Ec Ma M → Ec (tdM t a n i Ma) (tdM t a n i M)
  | 0, i, Ma, M, h => h
  | n + 1, i, Ma, M, h => by
    unfold tdM
    rw [h (t + 5) i (by omega) (by omega) (by omega), h a 5 (by omega) (by omega) (by omega), h (t + 4) i (by omega) (by omega) (by omega), h (t + 6) i (by omega) (by omega) (by omega)]
    split
    · exact tdM_cong ht ha n (i + 1) _ _ (h.sm2 _ _ _)
    · exact tdM_cong ht ha n (i + 1) _ _ h
theorem srM_cong {t a : Nat} (ht : t ≤ 25) (ha : 54 ≤ a) : ∀ (n : Nat) (i : Int) (Ma M : zM), Ec Ma M → Ec (srM t a n i Ma) (srM t a n i M)
  | 0, i, Ma, M, h => h
  | n + 1, i, Ma, M, h => by
    unfold srM
    rw [h (t + 8) i (by omega) (by omega) (by omega), h a 5 (by omega) (by omega) (by omega), h (t + 7) i (by omega) (by omega) (by omega), h 50 5 (by omega) (by omega) (by omega), h (t + 9) i (by omega) (by omega) (by omega), h t 2 (by omega) (by omega) (by omega)]
    split
    · exact srM_cong ht ha n (i + 1) _ _ (sdM_cong ht ha _ _ _ _ _ _ _ h).1
    · exact srM_cong ht ha n (i + 1) _ _ h
theorem drv_cong {t a : Nat} (ht : t ≤ 25) (ha : 54 ≤ a) {Ma M : zM} (h : Ec Ma M) (i : Int) : drv M t a i = drv Ma t a i := by
  unfold drv
  rw [h.lwq (w := t + 17) (by omega), h.row (k := a) (by omega) (by omega) (by omega), h.row (k := a + 1) (by omega) (by omega) (by omega), h.row (k := a + 2) (by omega) (by omega) (by omega), h.row (k := a + 3) (by omega) (by omega) (by omega)]
theorem drM_cong {t a : Nat} (ht : t ≤ 25) (ha : 54 ≤ a) : ∀ (n : Nat) (i : Int) (Ma M : zM), Ec Ma M → Ec (drM t a n i Ma) (drM t a n i M)
  | 0, i, Ma, M, h => h
  | n + 1, i, Ma, M, h => by
    unfold drM
    rw [drv_cong ht ha h]
    exact drM_cong ht ha n (i + 1) _ _ (h.sm2 _ _ _)
theorem fvM_cong {t a : Nat} (ht : t ≤ 25) (ha : 54 ≤ a) : ∀ (n : Nat) (i : Int) (Ma M : zM), Ec Ma M → Ec (fvM t a n i Ma) (fvM t a n i M)
  | 0, i, Ma, M, h => h
  | n + 1, i, Ma, M, h => by
    have e1 : M 50 2 = Ma 50 2 := h _ _ (by omega) (by omega) (by omega)
    have e2 : M a 6 = Ma a 6 := h _ _ (by omega) (by omega) (by omega)
    have e3 : M (t + 10) 2 = Ma (t + 10) 2 := h _ _ (by omega) (by omega) (by omega)
    have e4 : M (a + 2) i = Ma (a + 2) i := h _ _ (by omega) (by omega) (by omega)
    have hf : Ec (fdM t a Ma) (fdM t a M) := by
      unfold fdM
      rw [e1, e2]
      split
      · exact h
      · exact h.sm2 _ _ _
    unfold fvM fdf
    rw [e1, e2, e3, e4]
    split
    · exact fvM_cong ht ha n (i + 1) _ _ (hf.sm2 _ _ _)
    · exact fvM_cong ht ha n (i + 1) _ _ hf
def tnM (t a : Nat) (M : zM) : zM := if M 50 4 = 0 then M else tdM t a (M t 6).toNat 0 M
theorem tnM_cong {t a : Nat} (ht : t ≤ 25) (ha : 54 ≤ a) {Ma M : zM} (h : Ec Ma M) : Ec (tnM t a Ma) (tnM t a M) := by
  unfold tnM
  rw [h 50 4 (by omega) (by omega) (by omega), h t 6 (by omega) (by omega) (by omega)]
  split
  · exact h
  · exact tdM_cong ht ha _ _ _ _ h
theorem tnM_Fa (t a : Nat) (M : zM) : Fa a M (tnM t a M) := by
  unfold tnM
  split
  · exact Fa.rf a M
  · exact tdM_Fa t a _ _ M
theorem tnM_h (t a : Nat) (M : zM) : tnM t a M a = M a := by
  unfold tnM
  split
  · rfl
  · exact tdM_h t a _ _ M
theorem tnM_I {t a : Nat} (ht : t ≤ 25) (ha : 54 ≤ a) {M : zM} (h : CI M t a) : StI (tnM t a M) a := by
  unfold tnM
  split
  · exact h.2.2.1
  · exact tdM_I t a ht ha _ _ M h (by omega) (by have := h.1.2.1; omega)
theorem hourM1_eq (t a : Nat) (M : zM) : hourM1 t a M = if M a 5 ≤ 99 then srM t a (M t 10).toNat 0 (tnM t a M) else M := rfl
theorem hourM1_Fa (t a : Nat) (M : zM) : Fa a M (hourM1 t a M) := by
  rw [hourM1_eq]
  split
  · exact (tnM_Fa t a M).tr (srM_Fa t a _ _ _)
  · exact Fa.rf a M
theorem hourM1_h (t a : Nat) (M : zM) : hourM1 t a M a = M a := by
  rw [hourM1_eq]
  split
  · rw [srM_h, tnM_h]
  · rfl
theorem hourM1_I {t a : Nat} (ht : t ≤ 25) (ha : 54 ≤ a) {M : zM} (h : CI M t a) : CI (hourM1 t a M) t a := by
  refine (hourM1_Fa t a M).ci ha ht h ?_
  rw [hourM1_eq]
  split
  · exact srM_I t a ht ha _ _ _ ((tnM_Fa t a M).ci ha ht h (tnM_I ht ha h)) (by omega) (by have := h.1.2.2.1; omega)
  · exact h.2.2.1
theorem hourM2_Fa (t a : Nat) (M : zM) : Fa a M (hourM2 t a M) := by
  unfold hourM2
  split
  · exact (hourM1_Fa t a M).tr (drM_Fa t a _ _ _)
  · exact hourM1_Fa t a M
theorem hourM2_h (t a : Nat) (M : zM) : hourM2 t a M a = M a := by
  unfold hourM2
  split
  · rw [drM_h, hourM1_h]
  · exact hourM1_h t a M
theorem hourM2_I {t a : Nat} (ht : t ≤ 25) (ha : 54 ≤ a) {M : zM} (h : CI M t a) : CI (hourM2 t a M) t a := by
  refine (hourM2_Fa t a M).ci ha ht h ?_
  unfold hourM2
  split
  · exact drM_I t a ha _ _ _ (hourM1_I ht ha h).2.2.1
  · exact (hourM1_I ht ha h).2.2.1
theorem hourM3_Fa (t a : Nat) (M : zM) : Fa a M (hourM3 t a M) := by
  unfold hourM3
  split
  · exact (hourM2_Fa t a M).tr (fvM_Fa t a _ _ _)
  · exact hourM2_Fa t a M
theorem hourM3_h (t a : Nat) (M : zM) : hourM3 t a M a 5 = M a 5 := by
  unfold hourM3
  split
  · rw [fvM_h, hourM2_h]
  · rw [hourM2_h]
theorem hourM3_I {t a : Nat} (ht : t ≤ 25) (ha : 54 ≤ a) {M : zM} (h : CI M t a) : CI (hourM3 t a M) t a := by
  refine (hourM3_Fa t a M).ci ha ht h ?_
  unfold hourM3
  split
  · exact fvM_I t a _ _ _ (hourM2_I ht ha h).2.2.1 (by omega) (by have := h.1.1; omega)
  · exact (hourM2_I ht ha h).2.2.1
theorem hourM_Fa (t a : Nat) (M : zM) : Fa a M (hourM t a M) := by
  unfold hourM
  exact (hourM3_Fa t a M).sm (by omega) _ _
theorem hourM_h (t a : Nat) (M : zM) : hourM t a M a 5 = M a 5 + 1 := by unfold hourM; rw [sm_s]
theorem hourM_I {t a : Nat} (ht : t ≤ 25) (ha : 54 ≤ a) {M : zM} (h : CI M t a) (hh : M a 5 + 1 ≤ 9999) : CI (hourM t a M) t a := by
  have q := h.2.2.1.2.2.2.2.2.1
  exact (hourM_Fa t a M).ci ha ht h ((hourM3_I ht ha h).2.2.1.h ⟨by omega, hh⟩)
theorem passM_Fa (t a : Nat) : ∀ (n : Nat) (M : zM), Fa a M (passM t a n M)
  | 0, M => Fa.rf a M
  | n + 1, M => (hourM_Fa t a M).tr (passM_Fa t a n _)
theorem passM_I {t a : Nat} (ht : t ≤ 25) (ha : 54 ≤ a) : ∀ (n : Nat) (M : zM), CI M t a → M a 5 + n ≤ 9999 → CI (passM t a n M) t a
  | 0, M, h, _ => h
  | n + 1, M, h, hh => passM_I ht ha n _ (hourM_I ht ha h (by omega)) (by rw [hourM_h]; omega)
theorem passM_h (t a : Nat) : ∀ (n : Nat) (M : zM), passM t a n M a 5 = M a 5 + n
  | 0, M => by simp [passM]
  | n + 1, M => by
    unfold passM
    rw [passM_h t a n _, hourM_h]
    omega
section
variable {G : zG} {l : Launch} {L : Nat} {P : zP} {Ma M : zM} {a t : Nat}
theorem m_turnDials2 (hc : CS L P t a) (hE : Ec Ma M) (hi : CI Ma t a) : AM G l yX0_turnDials mdX0_turnDials [aR 50, aR a] (LAY L) P M (zrel none (LAY L) P (fun M' => Ec (tnM t a Ma) M')) := by
  have ht := hc.2.2.2.1
  have ha := hc.2.2.2.2.2
  refine (m_X0_turnDials (G := G) (l := l) hc (hE.ci (by omega) (by omega) hi)).mono ?_
  rintro r lay P' M' ⟨h1, h2, h3, rfl⟩
  exact ⟨h1, h2, h3, tnM_cong (by omega) (by omega) hE⟩
theorem m_soundInRooms2 (hc : CS L P t a) (hE : Ec Ma M) (hi : CI Ma t a) : AM G l yX0_soundInRooms mdX0_soundInRooms [aR 50, aR a] (LAY L) P M (zrel none (LAY L) P (fun M' => Ec (srM t a (Ma t 10).toNat 0 Ma) M')) := by
  have ht := hc.2.2.2.1
  have ha := hc.2.2.2.2.2
  refine (m_X0_soundInRooms (G := G) (l := l) hc (hE.ci (by omega) (by omega) hi)).mono ?_
  rintro r lay P' M' ⟨h1, h2, h3, h4⟩
  rw [hE t 10 (by omega) (by omega) (by omega)] at h4
  exact ⟨h1, h2, h3, (srM_cong (by omega) (by omega) _ _ _ _ hE).tr h4⟩
theorem m_driftDials2 (hc : CS L P t a) (hE : Ec Ma M) (hi : CI Ma t a) : AM G l yX0_driftDials mdX0_driftDials [aR 50, aR a] (LAY L) P M (zrel none (LAY L) P (fun M' => Ec (drM t a (Ma t 2).toNat 0 Ma) M')) := by
  have ht := hc.2.2.2.1
  have ha := hc.2.2.2.2.2
  refine (m_X0_driftDials (G := G) (l := l) hc (hE.ci (by omega) (by omega) hi)).mono ?_
  rintro r lay P' M' ⟨h1, h2, h3, h4⟩
  rw [hE t 2 (by omega) (by omega) (by omega)] at h4
  exact ⟨h1, h2, h3, (drM_cong (by omega) (by omega) _ _ _ _ hE).tr h4⟩
theorem m_fadeValves2 (hc : CS L P t a) (hE : Ec Ma M) (hi : CI Ma t a) : AM G l yX0_fadeValves mdX0_fadeValves [aR 50, aR a] (LAY L) P M (zrel none (LAY L) P (fun M' => Ec (fvM t a (Ma t 2).toNat 0 Ma) M')) := by
  have ht := hc.2.2.2.1
  have ha := hc.2.2.2.2.2
  refine (m_X0_fadeValves (G := G) (l := l) hc (hE.ci (by omega) (by omega) hi)).mono ?_
  rintro r lay P' M' ⟨h1, h2, h3, rfl⟩
  rw [hE t 2 (by omega) (by omega) (by omega)]
  exact ⟨h1, h2, h3, fvM_cong (by omega) (by omega) _ _ _ _ hE⟩
end
end ZH5
