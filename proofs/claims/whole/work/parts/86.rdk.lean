section ZRJ
/-- the tokens go on -/
def Cm (M M' : zM) : Prop := M' 43 4 = M 43 4 ∧ M 43 5 ≤ M' 43 5
theorem Cm.rf (M : zM) : Cm M M := ⟨rfl, Int.le_refl _⟩
theorem Cm.tr {M M1 M2 : zM} (h : Cm M M1) (h2 : Cm M1 M2) : Cm M M2 := ⟨h2.1.trans h.1, Int.le_trans h.2 h2.2⟩
theorem Cm.of {M M' : zM} (h : M' 43 = M 43) : Cm M M' := ⟨by rw [h], by rw [h]; exact Int.le_refl _⟩
theorem Cm.st (M : zM) : Cm M (stT M) := by have s := stT_4 M; exact ⟨s.1, by rw [s.2.1]; omega⟩
theorem Cm.fl (M : zM) (c : Int) : Cm M (flM M c) := Cm.of (flM_n M c (by decide))
theorem Cm.lw (a m : Int) (M : zM) : Cm M (lwM a m M) := by
  unfold lwM
  split
  · exact Cm.st M
  · exact Cm.fl M 2
theorem Cm.ln (lo hi : Int) (M : zM) : Cm M (lnM lo hi M) := Cm.of (lnM_n _ _ _ (by decide))
theorem Cm.tk (lo hi : Int) (M : zM) : Cm M (tkM lo hi M) := by
  unfold tkM
  split
  · exact (Cm.ln lo hi M).tr (Cm.st _)
  · exact Cm.ln lo hi M
theorem Cm.nm (t : Nat) (b : Int) (M : zM) : Cm M (nmM9 t b M) := by
  unfold nmM9
  split
  · exact Cm.rf M
  · split
    · exact Cm.fl M 1
    · split
      · exact Cm.fl M 3
      · split
        · exact Cm.fl M 4
        · exact Cm.st M
theorem ToI.h {M M' : zM} {t : Nat} {c y z : Int} (h : ToI M t) (hc : c = M t 2) (hl : c < 6) (hy : 0 ≤ y ∧ y ≤ 99) (hz : 0 ≤ z ∧ z ≤ 9) (e0 : M' t = us (M t) 2 (c + 1)) (e2 : M' (t + 2) = us (M (t + 2)) c y) (e3 : M' (t + 3) = us (M (t + 3)) c z) (er : ∀ k : Nat, t + 4 ≤ k → k ≤ t + 18 → M' k = M k) : ToI M' t := by
  unfold ToI at *
  obtain ⟨a1, a2, a3, a4, a5, a6, a7, a8⟩ := h
  rw [e0, e2, e3, er (t + 4) (by omega) (by omega), er (t + 5) (by omega) (by omega), er (t + 6) (by omega) (by omega), er (t + 7) (by omega) (by omega), er (t + 8) (by omega) (by omega), er (t + 9) (by omega) (by omega), er (t + 10) (by omega) (by omega)]
  refine ⟨by rw [us_s]; omega, by rw [us_n (by decide)]; exact a2, by rw [us_n (by decide)]; exact a3, fun i i0 i1 => ?_, fun i i0 i1 => ?_, a6, a7, a8⟩
  · unfold us
    split
    · exact hy
    · exact a4 i i0 i1
  · unfold us
    split
    · exact hz
    · exact a5 i i0 i1
theorem ToI.t {M M' : zM} {t : Nat} {c x y z : Int} (h : ToI M t) (hc : c = M t 6) (hl : c < 10) (hx : 0 ≤ x ∧ x ≤ 5) (hy : 0 ≤ y ∧ y ≤ 99) (hz : 0 ≤ z ∧ z ≤ 99) (e0 : M' t = us (M t) 6 (c + 1)) (e4 : M' (t + 4) = us (M (t + 4)) c x) (e5 : M' (t + 5) = us (M (t + 5)) c y) (e6 : M' (t + 6) = us (M (t + 6)) c z) (er : ∀ k : Nat, t + 1 ≤ k → k ≤ t + 18 → k ≠ t + 4 → k ≠ t + 5 → k ≠ t + 6 → M' k = M k) : ToI M' t := by
  unfold ToI at *
  obtain ⟨a1, a2, a3, a4, a5, a6, a7, a8⟩ := h
  rw [e0, e4, e5, e6, er (t + 2) (by omega) (by omega) (by omega) (by omega) (by omega), er (t + 3) (by omega) (by omega) (by omega) (by omega) (by omega), er (t + 7) (by omega) (by omega) (by omega) (by omega) (by omega), er (t + 8) (by omega) (by omega) (by omega) (by omega) (by omega), er (t + 9) (by omega) (by omega) (by omega) (by omega) (by omega), er (t + 10) (by omega) (by omega) (by omega) (by omega) (by omega)]
  refine ⟨by rw [us_n (by decide)]; exact a1, by rw [us_s]; omega, by rw [us_n (by decide)]; exact a3, a4, a5, fun i i0 i1 => ?_, a7, a8⟩
  unfold us
  by_cases e : i = c
  · rw [if_pos e, if_pos e, if_pos e]; exact ⟨hx, hy, hz⟩
  · rw [if_neg e, if_neg e, if_neg e]; exact a6 i i0 i1
theorem ToI.s {M M' : zM} {t : Nat} {c x y z : Int} (h : ToI M t) (hc : c = M t 10) (hl : c < 12) (hx : 0 ≤ x ∧ x ≤ 5) (hy : 0 ≤ y ∧ y ≤ 99) (hz : 0 ≤ z ∧ z ≤ 9) (e0 : M' t = us (M t) 10 (c + 1)) (e7 : M' (t + 7) = us (M (t + 7)) c x) (e8 : M' (t + 8) = us (M (t + 8)) c y) (e9 : M' (t + 9) = us (M (t + 9)) c z) (er : ∀ k : Nat, t + 1 ≤ k → k ≤ t + 18 → k ≠ t + 7 → k ≠ t + 8 → k ≠ t + 9 → M' k = M k) : ToI M' t := by
  unfold ToI at *
  obtain ⟨a1, a2, a3, a4, a5, a6, a7, a8⟩ := h
  rw [e0, e7, e8, e9, er (t + 2) (by omega) (by omega) (by omega) (by omega) (by omega), er (t + 3) (by omega) (by omega) (by omega) (by omega) (by omega), er (t + 4) (by omega) (by omega) (by omega) (by omega) (by omega), er (t + 5) (by omega) (by omega) (by omega) (by omega) (by omega), er (t + 6) (by omega) (by omega) (by omega) (by omega) (by omega), er (t + 10) (by omega) (by omega) (by omega) (by omega) (by omega)]
  refine ⟨by rw [us_n (by decide)]; exact a1, by rw [us_n (by decide)]; exact a2, by rw [us_s]; omega, a4, a5, a6, fun i i0 i1 => ?_, a8⟩
  unfold us
  by_cases e : i = c
  · rw [if_pos e, if_pos e, if_pos e]; exact ⟨hx, hy, hz⟩
  · rw [if_neg e, if_neg e, if_neg e]; exact a7 i i0 i1
/-- a line was read -/
def RdJ (t : Nat) (M M' : zM) : Prop := TV M' ∧ ToI M' t ∧ (0 ≤ M' t 1 ∧ M' t 1 ≤ 64) ∧ (LwI M' (t + 13) ∧ LwI M' (t + 15) ∧ LwI M' (t + 17)) ∧ M' t 0 = M t 0 ∧ Cm M M' ∧ ∀ k : Nat, k ≠ 42 → k ≠ 43 → k ≠ 49 → ¬ (t ≤ k ∧ k ≤ t + 18) → M' k = M k
/-- between two lines -/
def RdI (t : Nat) (M : zM) : Prop := TV M ∧ ToI M t ∧ (0 ≤ M t 1 ∧ M t 1 ≤ 64) ∧ (LwI M (t + 13) ∧ LwI M (t + 15) ∧ LwI M (t + 17)) ∧ (0 ≤ M t 0 ∧ M t 0 ≤ M 43 5) ∧ (∀ i : Int, 0 ≤ i → i < M 43 4 → inR (M 47 i)) ∧ (∀ i : Int, 0 ≤ i → i < 14 → M 1 i = rnk i) ∧ WdI M
theorem RdJ.same {t : Nat} {M M' : zM} (h : RdI t M) (v : TV M') (c : Cm M M') (r : ∀ k : Nat, k ≠ 42 → k ≠ 43 → M' k = M k) (ht : t = 4 ∨ t = 23) : RdJ t M M' := by
  obtain ⟨h1, h2, h3, h4, h5, h6, h7, h8⟩ := h
  refine ⟨v, h2.eq (fun k k1 k2 => r k (by omega) (by omega)), by rw [r t (by omega) (by omega)]; exact h3, ⟨h4.1.of (r _ (by omega) (by omega)) (r _ (by omega) (by omega)), h4.2.1.of (r _ (by omega) (by omega)) (r _ (by omega) (by omega)), h4.2.2.of (r _ (by omega) (by omega)) (r _ (by omega) (by omega))⟩, by rw [r t (by omega) (by omega)], c, fun k k1 k2 k3 k4 => r k k1 k2⟩

theorem rh_J {t : Nat} {M : zM} (ht : t = 4 ∨ t = 23) (h : RdI t M) (h0 : M 42 6 = 0) (hs : M 43 9 ≠ 0) : RdJ t M (rhM t M) := by
  obtain ⟨h1, h2, h3, h4, h5, h6, h7, h8⟩ := id h
  have q1 := h2.1
  have q6 := h2.2.1
  have q10 := h2.2.2.1
  obtain ⟨M1, e1⟩ : ∃ M1, M1 = lwM (M t 2) 6 M := ⟨_, rfl⟩
  have v1 : TV M1 := by rw [e1]; exact h1.lw hs _ _
  have r1 : ∀ k : Nat, k ≠ 42 → k ≠ 43 → M1 k = M k := fun k k1 k2 => by rw [e1, lwM_n _ _ _ k1 k2]
  have c1 : Cm M M1 := by rw [e1]; exact Cm.lw _ _ _
  obtain ⟨M2, e2⟩ : ∃ M2, M2 = nmM9 t 1 M1 := ⟨_, rfl⟩
  have v2 : TV M2 := by rw [e2]; exact v1.tn _ _
  have r2 : ∀ k : Nat, k ≠ 42 → k ≠ 43 → M2 k = M k := fun k k1 k2 => by rw [e2, nmM9_n _ _ _ k1 k2]; exact r1 k k1 k2
  have c2 : Cm M M2 := by rw [e2]; exact c1.tr (Cm.nm _ _ _)
  obtain ⟨M3, e3⟩ : ∃ M3, M3 = tkM 0 99 M2 := ⟨_, rfl⟩
  have v3 : TV M3 := by rw [e3]; exact v2.tk _ _
  have r3 : ∀ k : Nat, k ≠ 42 → k ≠ 43 → M3 k = M k := fun k k1 k2 => by rw [e3, tkM_n _ _ _ k1 k2]; exact r2 k k1 k2
  have c3 : Cm M M3 := by rw [e3]; exact c2.tr (Cm.tk _ _ _)
  obtain ⟨M4, e4⟩ : ∃ M4, M4 = tkM 0 9 M3 := ⟨_, rfl⟩
  have v4 : TV M4 := by rw [e4]; exact v3.tk _ _
  have r4 : ∀ k : Nat, k ≠ 42 → k ≠ 43 → M4 k = M k := fun k k1 k2 => by rw [e4, tkM_n _ _ _ k1 k2]; exact r3 k k1 k2
  have c4 : Cm M M4 := by rw [e4]; exact c3.tr (Cm.tk _ _ _)
  have ef : rhM t M = if M4 42 6 ≠ 0 then M4 else sm (sm (sm (sm M4 (t + 1) (M4 t 2) (tnV M1)) (t + 2) (M4 t 2) (lnV 0 99 M2)) (t + 3) (M4 t 2) (lnV 0 9 M3)) t 2 (M4 t 2 + 1) := by unfold rhM; simp only []; rw [← e1, ← e2, ← e3, ← e4]
  rw [ef]
  by_cases cf : M4 42 6 ≠ 0
  · rw [if_pos cf]; exact RdJ.same h v4 c4 r4 ht
  rw [if_neg cf]
  have k4 : M4 42 6 = 0 := by omega
  have k3 : M3 42 6 = 0 := tk_f (by rw [← e4]; exact k4)
  have k2 : M2 42 6 = 0 := tk_f (by rw [← e3]; exact k3)
  have k1 := tn_ok (by rw [← e2]; exact k2)
  have hlt := (lwM_ok h0 (by rw [← e1]; exact k1.1)).1
  have et : M4 t = M t := r4 t (by omega) (by omega)
  rw [et]
  obtain ⟨M9, e9⟩ : ∃ M9, M9 = sm (sm (sm (sm M4 (t + 1) (M t 2) (tnV M1)) (t + 2) (M t 2) (lnV 0 99 M2)) (t + 3) (M t 2) (lnV 0 9 M3)) t 2 (M t 2 + 1) := ⟨_, rfl⟩
  rw [← e9]
  have n9 : ∀ k : Nat, k ≠ t → k ≠ t + 1 → k ≠ t + 2 → k ≠ t + 3 → M9 k = M4 k := fun k a b c d => by rw [e9, sm_n a, sm_n d, sm_n c, sm_n b]
  have z0 : M9 t = us (M t) 2 (M t 2 + 1) := by rw [e9, sm_k, sm_n (by omega), sm_n (by omega), sm_n (by omega), et]
  have z1 : M9 (t + 1) = us (M (t + 1)) (M t 2) (tnV M1) := by rw [e9, sm_n (by omega), sm_n (by omega), sm_n (by omega), sm_k, r4 _ (by omega) (by omega)]
  have z2 : M9 (t + 2) = us (M (t + 2)) (M t 2) (lnV 0 99 M2) := by rw [e9, sm_n (by omega), sm_n (by omega), sm_k, sm_n (by omega), r4 _ (by omega) (by omega)]
  have z3 : M9 (t + 3) = us (M (t + 3)) (M t 2) (lnV 0 9 M3) := by rw [e9, sm_n (by omega), sm_k, sm_n (by omega), sm_n (by omega), r4 _ (by omega) (by omega)]
  have nn : ∀ k : Nat, k ≠ 42 → k ≠ 43 → k ≠ t → k ≠ t + 1 → k ≠ t + 2 → k ≠ t + 3 → M9 k = M k := fun k k1 k2 a b c d => (n9 k a b c d).trans (r4 k k1 k2)
  refine ⟨v4.of (n9 43 (by omega) (by omega) (by omega) (by omega)) (n9 45 (by omega) (by omega) (by omega) (by omega)) (n9 46 (by omega) (by omega) (by omega) (by omega)) (n9 47 (by omega) (by omega) (by omega) (by omega)), h2.h rfl hlt (lnV_in 0 99 (by decide)) (lnV_in 0 9 (by decide)) z0 z2 z3 (fun k a b => nn k (by omega) (by omega) (by omega) (by omega) (by omega) (by omega)), by rw [z0, us_n (by decide)]; exact h3, ⟨h4.1.of (nn _ (by omega) (by omega) (by omega) (by omega) (by omega) (by omega)) (nn _ (by omega) (by omega) (by omega) (by omega) (by omega) (by omega)), h4.2.1.of (nn _ (by omega) (by omega) (by omega) (by omega) (by omega) (by omega)) (nn _ (by omega) (by omega) (by omega) (by omega) (by omega) (by omega)), h4.2.2.of (nn _ (by omega) (by omega) (by omega) (by omega) (by omega) (by omega)) (nn _ (by omega) (by omega) (by omega) (by omega) (by omega) (by omega))⟩, by rw [z0, us_n (by decide)], c4.tr (Cm.of (n9 43 (by omega) (by omega) (by omega) (by omega))), fun k k1 k2 k3 k4 => nn k k1 k2 (by omega) (by omega) (by omega) (by omega)⟩

theorem rt_J {t : Nat} {M : zM} (ht : t = 4 ∨ t = 23) (h : RdI t M) (h0 : M 42 6 = 0) (hs : M 43 9 ≠ 0) : RdJ t M (rtM t M) := by
  obtain ⟨h1, h2, h3, h4, h5, h6, h7, h8⟩ := id h
  have q1 := h2.1
  have q6 := h2.2.1
  have q10 := h2.2.2.1
  obtain ⟨M1, e1⟩ : ∃ M1, M1 = lwM (M t 6) 10 M := ⟨_, rfl⟩
  have v1 : TV M1 := by rw [e1]; exact h1.lw hs _ _
  have r1 : ∀ k : Nat, k ≠ 42 → k ≠ 43 → M1 k = M k := fun k k1 k2 => by rw [e1, lwM_n _ _ _ k1 k2]
  have c1 : Cm M M1 := by rw [e1]; exact Cm.lw _ _ _
  obtain ⟨M2, e2⟩ : ∃ M2, M2 = nmM9 t 0 M1 := ⟨_, rfl⟩
  have v2 : TV M2 := by rw [e2]; exact v1.tn _ _
  have r2 : ∀ k : Nat, k ≠ 42 → k ≠ 43 → M2 k = M k := fun k k1 k2 => by rw [e2, nmM9_n _ _ _ k1 k2]; exact r1 k k1 k2
  have c2 : Cm M M2 := by rw [e2]; exact c1.tr (Cm.nm _ _ _)
  obtain ⟨M3, e3⟩ : ∃ M3, M3 = tkM 0 99 M2 := ⟨_, rfl⟩
  have v3 : TV M3 := by rw [e3]; exact v2.tk _ _
  have r3 : ∀ k : Nat, k ≠ 42 → k ≠ 43 → M3 k = M k := fun k k1 k2 => by rw [e3, tkM_n _ _ _ k1 k2]; exact r2 k k1 k2
  have c3 : Cm M M3 := by rw [e3]; exact c2.tr (Cm.tk _ _ _)
  obtain ⟨M4, e4⟩ : ∃ M4, M4 = tkM 0 99 M3 := ⟨_, rfl⟩
  have v4 : TV M4 := by rw [e4]; exact v3.tk _ _
  have r4 : ∀ k : Nat, k ≠ 42 → k ≠ 43 → M4 k = M k := fun k k1 k2 => by rw [e4, tkM_n _ _ _ k1 k2]; exact r3 k k1 k2
  have c4 : Cm M M4 := by rw [e4]; exact c3.tr (Cm.tk _ _ _)
  have ef : rtM t M = if M4 42 6 ≠ 0 then M4 else sm (sm (sm (sm M4 (t + 4) (M4 t 6) (hoT t M2 (tnV M1))) (t + 5) (M4 t 6) (lnV 0 99 M2)) (t + 6) (M4 t 6) (lnV 0 99 M3)) t 6 (M4 t 6 + 1) := by unfold rtM; simp only []; rw [← e1, ← e2, ← e3, ← e4]
  rw [ef]
  by_cases cf : M4 42 6 ≠ 0
  · rw [if_pos cf]; exact RdJ.same h v4 c4 r4 ht
  rw [if_neg cf]
  have k4 : M4 42 6 = 0 := by omega
  have k3 : M3 42 6 = 0 := tk_f (by rw [← e4]; exact k4)
  have k2 : M2 42 6 = 0 := tk_f (by rw [← e3]; exact k3)
  have k1 := tn_ok (by rw [← e2]; exact k2)
  have hlt := (lwM_ok h0 (by rw [← e1]; exact k1.1)).1
  have ho := k1.2.2.2.2 rfl
  have i2 : ToI M2 t := h2.eq (fun k a b => r2 k (by omega) (by omega))
  have hh := hoT_in i2 (tnV M1)
  have eh : hoT t M2 (tnV M1) = hoT t M1 (M1 43 11) := by
    unfold hoT tnV
    rw [if_neg (by omega), r2 (t + 1) (by omega) (by omega), r2 t (by omega) (by omega), r1 (t + 1) (by omega) (by omega), r1 t (by omega) (by omega)]
  have et : M4 t = M t := r4 t (by omega) (by omega)
  rw [et]
  obtain ⟨M9, e9⟩ : ∃ M9, M9 = sm (sm (sm (sm M4 (t + 4) (M t 6) (hoT t M2 (tnV M1))) (t + 5) (M t 6) (lnV 0 99 M2)) (t + 6) (M t 6) (lnV 0 99 M3)) t 6 (M t 6 + 1) := ⟨_, rfl⟩
  rw [← e9]
  have n9 : ∀ k : Nat, k ≠ t → k ≠ t + 4 → k ≠ t + 5 → k ≠ t + 6 → M9 k = M4 k := fun k a b c d => by rw [e9, sm_n a, sm_n d, sm_n c, sm_n b]
  have z0 : M9 t = us (M t) 6 (M t 6 + 1) := by rw [e9, sm_k, sm_n (by omega), sm_n (by omega), sm_n (by omega), et]
  have z1 : M9 (t + 4) = us (M (t + 4)) (M t 6) (hoT t M2 (tnV M1)) := by rw [e9, sm_n (by omega), sm_n (by omega), sm_n (by omega), sm_k, r4 _ (by omega) (by omega)]
  have z2 : M9 (t + 5) = us (M (t + 5)) (M t 6) (lnV 0 99 M2) := by rw [e9, sm_n (by omega), sm_n (by omega), sm_k, sm_n (by omega), r4 _ (by omega) (by omega)]
  have z3 : M9 (t + 6) = us (M (t + 6)) (M t 6) (lnV 0 99 M3) := by rw [e9, sm_n (by omega), sm_k, sm_n (by omega), sm_n (by omega), r4 _ (by omega) (by omega)]
  have nn : ∀ k : Nat, k ≠ 42 → k ≠ 43 → k ≠ t → k ≠ t + 4 → k ≠ t + 5 → k ≠ t + 6 → M9 k = M k := fun k k1 k2 a b c d => (n9 k a b c d).trans (r4 k k1 k2)
  refine ⟨v4.of (n9 43 (by omega) (by omega) (by omega) (by omega)) (n9 45 (by omega) (by omega) (by omega) (by omega)) (n9 46 (by omega) (by omega) (by omega) (by omega)) (n9 47 (by omega) (by omega) (by omega) (by omega)), h2.t rfl hlt ⟨by omega, by omega⟩ (lnV_in 0 99 (by decide)) (lnV_in 0 99 (by decide)) z0 z1 z2 z3 (fun k a b c d e => nn k (by omega) (by omega) (by omega) c d e), by rw [z0, us_n (by decide)]; exact h3, ⟨h4.1.of (nn _ (by omega) (by omega) (by omega) (by omega) (by omega) (by omega)) (nn _ (by omega) (by omega) (by omega) (by omega) (by omega) (by omega)), h4.2.1.of (nn _ (by omega) (by omega) (by omega) (by omega) (by omega) (by omega)) (nn _ (by omega) (by omega) (by omega) (by omega) (by omega) (by omega)), h4.2.2.of (nn _ (by omega) (by omega) (by omega) (by omega) (by omega) (by omega)) (nn _ (by omega) (by omega) (by omega) (by omega) (by omega) (by omega))⟩, by rw [z0, us_n (by decide)], c4.tr (Cm.of (n9 43 (by omega) (by omega) (by omega) (by omega))), fun k k1 k2 k3 k4 => nn k k1 k2 (by omega) (by omega) (by omega) (by omega)⟩

theorem rd_J {t : Nat} {M : zM} (ht : t = 4 ∨ t = 23) (h : RdI t M) (h0 : M 42 6 = 0) (hs : M 43 9 ≠ 0) : RdJ t M (rdM t M) := by
  obtain ⟨h1, h2, h3, h4, h5, h6, h7, h8⟩ := id h
  have q1 := h2.1
  have q6 := h2.2.1
  have q10 := h2.2.2.1
  obtain ⟨M1, e1⟩ : ∃ M1, M1 = lwM (M t 10) 12 M := ⟨_, rfl⟩
  have v1 : TV M1 := by rw [e1]; exact h1.lw hs _ _
  have r1 : ∀ k : Nat, k ≠ 42 → k ≠ 43 → M1 k = M k := fun k k1 k2 => by rw [e1, lwM_n _ _ _ k1 k2]
  have c1 : Cm M M1 := by rw [e1]; exact Cm.lw _ _ _
  obtain ⟨M2, e2⟩ : ∃ M2, M2 = nmM9 t 0 M1 := ⟨_, rfl⟩
  have v2 : TV M2 := by rw [e2]; exact v1.tn _ _
  have r2 : ∀ k : Nat, k ≠ 42 → k ≠ 43 → M2 k = M k := fun k k1 k2 => by rw [e2, nmM9_n _ _ _ k1 k2]; exact r1 k k1 k2
  have c2 : Cm M M2 := by rw [e2]; exact c1.tr (Cm.nm _ _ _)
  obtain ⟨M3, e3⟩ : ∃ M3, M3 = lnM 0 99 M2 := ⟨_, rfl⟩
  have v3 : TV M3 := by rw [e3]; exact v2.ln _ _
  have r3 : ∀ k : Nat, k ≠ 42 → k ≠ 43 → M3 k = M k := fun k k1 k2 => by rw [e3, lnM_n _ _ _ k1]; exact r2 k k1 k2
  have c3 : Cm M M3 := by rw [e3]; exact c2.tr (Cm.ln _ _ _)
  obtain ⟨M4, e4⟩ : ∃ M4, M4 = if M3 42 6 = 0 ∧ sdT t M3 (hoT t M2 (tnV M1)) (lnV 0 99 M2) ≠ 0 then flM M3 3 else M3 := ⟨_, rfl⟩
  have v4 : TV M4 := by rw [e4]; split; exact v3.fl 3; exact v3
  have r4 : ∀ k : Nat, k ≠ 42 → k ≠ 43 → M4 k = M k := fun k k1 k2 => by rw [e4]; split; (rw [flM_n _ _ k1]; exact r3 k k1 k2); exact r3 k k1 k2
  have c4 : Cm M M4 := by rw [e4]; split; exact c3.tr (Cm.fl _ _); exact c3
  have m4 : M4 42 6 = 0 → M3 42 6 = 0 ∧ M4 = M3 := fun z => by
    rw [e4] at z ⊢
    by_cases c : M3 42 6 = 0 ∧ sdT t M3 (hoT t M2 (tnV M1)) (lnV 0 99 M2) ≠ 0
    · rw [if_pos c, (flM_6 3 c.1).1] at z; omega
    · rw [if_neg c] at z ⊢; exact ⟨z, rfl⟩
  obtain ⟨M5, e5⟩ : ∃ M5, M5 = if M4 42 6 = 0 then stT M4 else M4 := ⟨_, rfl⟩
  have v5 : TV M5 := by
    rw [e5]
    by_cases k4 : M4 42 6 = 0
    · rw [if_pos k4]
      have k3 := m4 k4
      have k2 := lnM_ok (lo := 0) (hi := 99) (M := M2) (by rw [← e3]; exact k3.1)
      exact v4.st (by rw [k3.2, e3, lnM_n _ _ _ (by decide)]; omega)
    · rw [if_neg k4]; exact v4
  have r5 : ∀ k : Nat, k ≠ 42 → k ≠ 43 → M5 k = M k := fun k k1 k2 => by
    rw [e5]
    by_cases k4 : M4 42 6 = 0
    · rw [if_pos k4, stT_n _ k2]; exact r4 k k1 k2
    · rw [if_neg k4]; exact r4 k k1 k2
  have c5 : Cm M M5 := by rw [e5]; split; exact c4.tr (Cm.st _); exact c4
  obtain ⟨M6, e6⟩ : ∃ M6, M6 = tkM 1 9 M5 := ⟨_, rfl⟩
  have v6 : TV M6 := by rw [e6]; exact v5.tk _ _
  have r6 : ∀ k : Nat, k ≠ 42 → k ≠ 43 → M6 k = M k := fun k k1 k2 => by rw [e6, tkM_n _ _ _ k1 k2]; exact r5 k k1 k2
  have c6 : Cm M M6 := by rw [e6]; exact c5.tr (Cm.tk _ _ _)
  have ef : rdM t M = if M6 42 6 ≠ 0 then M6 else sm (sm (sm (sm M6 (t + 7) (M6 t 10) (hoT t M2 (tnV M1))) (t + 8) (M6 t 10) (lnV 0 99 M2)) (t + 9) (M6 t 10) (lnV 1 9 M5)) t 10 (M6 t 10 + 1) := by unfold rdM; simp only []; rw [← e1, ← e2, ← e3, ← e4, ← e5, ← e6]
  rw [ef]
  by_cases cf : M6 42 6 ≠ 0
  · rw [if_pos cf]; exact RdJ.same h v6 c6 r6 ht
  rw [if_neg cf]
  have k6 : M6 42 6 = 0 := by omega
  have k5 : M5 42 6 = 0 := tk_f (by rw [← e6]; exact k6)
  have k4 : M4 42 6 = 0 := by
    by_cases c : M4 42 6 = 0
    · exact c
    · rw [e5, if_neg c] at k5; exact k5
  have k3 := m4 k4
  have k2 := lnM_ok (lo := 0) (hi := 99) (M := M2) (by rw [← e3]; exact k3.1)
  have k1 := tn_ok (t := t) (b := 0) (M := M1) (by rw [← e2]; exact k2.2.1)
  have hlt := (lwM_ok h0 (by rw [← e1]; exact k1.1)).1
  have ho := k1.2.2.2.2 rfl
  have i2 : ToI M2 t := h2.eq (fun k a b => r2 k (by omega) (by omega))
  have hh := hoT_in i2 (tnV M1)
  have eh : hoT t M2 (tnV M1) = hoT t M1 (M1 43 11) := by
    unfold hoT tnV
    rw [if_neg (by omega), r2 (t + 1) (by omega) (by omega), r2 t (by omega) (by omega), r1 (t + 1) (by omega) (by omega), r1 t (by omega) (by omega)]
  have et : M6 t = M t := r6 t (by omega) (by omega)
  rw [et]
  obtain ⟨M9, e9⟩ : ∃ M9, M9 = sm (sm (sm (sm M6 (t + 7) (M t 10) (hoT t M2 (tnV M1))) (t + 8) (M t 10) (lnV 0 99 M2)) (t + 9) (M t 10) (lnV 1 9 M5)) t 10 (M t 10 + 1) := ⟨_, rfl⟩
  rw [← e9]
  have n9 : ∀ k : Nat, k ≠ t → k ≠ t + 7 → k ≠ t + 8 → k ≠ t + 9 → M9 k = M6 k := fun k a b c d => by rw [e9, sm_n a, sm_n d, sm_n c, sm_n b]
  have z0 : M9 t = us (M t) 10 (M t 10 + 1) := by rw [e9, sm_k, sm_n (by omega), sm_n (by omega), sm_n (by omega), et]
  have z1 : M9 (t + 7) = us (M (t + 7)) (M t 10) (hoT t M2 (tnV M1)) := by rw [e9, sm_n (by omega), sm_n (by omega), sm_n (by omega), sm_k, r6 _ (by omega) (by omega)]
  have z2 : M9 (t + 8) = us (M (t + 8)) (M t 10) (lnV 0 99 M2) := by rw [e9, sm_n (by omega), sm_n (by omega), sm_k, sm_n (by omega), r6 _ (by omega) (by omega)]
  have z3 : M9 (t + 9) = us (M (t + 9)) (M t 10) (lnV 1 9 M5) := by rw [e9, sm_n (by omega), sm_k, sm_n (by omega), sm_n (by omega), r6 _ (by omega) (by omega)]
  have nn : ∀ k : Nat, k ≠ 42 → k ≠ 43 → k ≠ t → k ≠ t + 7 → k ≠ t + 8 → k ≠ t + 9 → M9 k = M k := fun k k1 k2 a b c d => (n9 k a b c d).trans (r6 k k1 k2)
  refine ⟨v6.of (n9 43 (by omega) (by omega) (by omega) (by omega)) (n9 45 (by omega) (by omega) (by omega) (by omega)) (n9 46 (by omega) (by omega) (by omega) (by omega)) (n9 47 (by omega) (by omega) (by omega) (by omega)), h2.s rfl hlt ⟨by omega, by omega⟩ (lnV_in 0 99 (by decide)) ⟨by have := lnV_in 1 9 (M := M5) (by decide); omega, (lnV_in 1 9 (by decide)).2⟩ z0 z1 z2 z3 (fun k a b c d e => nn k (by omega) (by omega) (by omega) c d e), by rw [z0, us_n (by decide)]; exact h3, ⟨h4.1.of (nn _ (by omega) (by omega) (by omega) (by omega) (by omega) (by omega)) (nn _ (by omega) (by omega) (by omega) (by omega) (by omega) (by omega)), h4.2.1.of (nn _ (by omega) (by omega) (by omega) (by omega) (by omega) (by omega)) (nn _ (by omega) (by omega) (by omega) (by omega) (by omega) (by omega)), h4.2.2.of (nn _ (by omega) (by omega) (by omega) (by omega) (by omega) (by omega)) (nn _ (by omega) (by omega) (by omega) (by omega) (by omega) (by omega))⟩, by rw [z0, us_n (by decide)], c6.tr (Cm.of (n9 43 (by omega) (by omega) (by omega) (by omega))), fun k k1 k2 k3 k4 => nn k k1 k2 (by omega) (by omega) (by omega) (by omega)⟩

theorem re0_J {t : Nat} {M : zM} (ht : t = 4 ∨ t = 23) (h : RdI t M) (h0 : M 42 6 = 0) (hs : M 43 9 ≠ 0) : RdJ t M (reM t 0 0 20 M) := by
  obtain ⟨h1, h2, h3, h4, h5, h6, h7, h8⟩ := id h
  have q1 := h2.1
  have q6 := h2.2.1
  have q10 := h2.2.2.1
  unfold reM
  by_cases cs : M (t + 11) 0 ≠ 0
  · rw [if_pos cs]; exact RdJ.same h (h1.fl 3) (Cm.fl M 3) (fun k k1 k2 => flM_n M 3 k1) ht
  rw [if_neg cs]
  obtain ⟨M1, e1⟩ : ∃ M1, M1 = stT M := ⟨_, rfl⟩
  have v1 : TV M1 := by rw [e1]; exact h1.st hs
  have r1 : ∀ k : Nat, k ≠ 42 → k ≠ 43 → M1 k = M k := fun k k1 k2 => by rw [e1, stT_n _ k2]
  have c1 : Cm M M1 := by rw [e1]; exact Cm.st M
  obtain ⟨M2, e2⟩ : ∃ M2, M2 = tkM 0 20 M1 := ⟨_, rfl⟩
  have v2 : TV M2 := by rw [e2]; exact v1.tk _ _
  have r2 : ∀ k : Nat, k ≠ 42 → k ≠ 43 → M2 k = M k := fun k k1 k2 => by rw [e2, tkM_n _ _ _ k1 k2]; exact r1 k k1 k2
  have c2 : Cm M M2 := by rw [e2]; exact c1.tr (Cm.tk _ _ _)
  show RdJ t M (if tkM 0 20 (stT M) 42 6 ≠ 0 then tkM 0 20 (stT M) else sm (sm (tkM 0 20 (stT M)) (t + 11) 0 1) (t + 10) 0 (lnV 0 20 (stT M)))
  rw [← e1, ← e2]
  by_cases cf : M2 42 6 ≠ 0
  · rw [if_pos cf]; exact RdJ.same h v2 c2 r2 ht
  rw [if_neg cf]
  have g := lnV_in 0 20 (M := M1) (by decide)
  obtain ⟨M9, e9⟩ : ∃ M9, M9 = sm (sm M2 (t + 11) 0 1) (t + 10) 0 (lnV 0 20 M1) := ⟨_, rfl⟩
  rw [← e9]
  have n9 : ∀ k : Nat, k ≠ t + 10 → k ≠ t + 11 → M9 k = M2 k := fun k a b => by rw [e9, sm_n a, sm_n b]
  have nn : ∀ k : Nat, k ≠ 42 → k ≠ 43 → k ≠ t + 10 → k ≠ t + 11 → M9 k = M k := fun k k1 k2 a b => (n9 k a b).trans (r2 k k1 k2)
  have z0 : M9 (t + 10) = us (M (t + 10)) 0 (lnV 0 20 M1) := by rw [e9, sm_k, sm_n (by omega), r2 _ (by omega) (by omega)]
  refine ⟨v2.of (n9 43 (by omega) (by omega)) (n9 45 (by omega) (by omega)) (n9 46 (by omega) (by omega)) (n9 47 (by omega) (by omega)), ?_, by rw [nn t (by omega) (by omega) (by omega) (by omega)]; exact h3, ⟨h4.1.of (nn _ (by omega) (by omega) (by omega) (by omega)) (nn _ (by omega) (by omega) (by omega) (by omega)), h4.2.1.of (nn _ (by omega) (by omega) (by omega) (by omega)) (nn _ (by omega) (by omega) (by omega) (by omega)), h4.2.2.of (nn _ (by omega) (by omega) (by omega) (by omega)) (nn _ (by omega) (by omega) (by omega) (by omega))⟩, by rw [nn t (by omega) (by omega) (by omega) (by omega)], c2.tr (Cm.of (n9 43 (by omega) (by omega))), fun k k1 k2 k3 k4 => nn k k1 k2 (by omega) (by omega)⟩
  unfold ToI at h2 ⊢
  obtain ⟨a1, a2, a3, a4, a5, a6, a7, a8, a9, a10, a11⟩ := h2
  rw [nn t (by omega) (by omega) (by omega) (by omega), nn (t + 2) (by omega) (by omega) (by omega) (by omega), nn (t + 3) (by omega) (by omega) (by omega) (by omega), nn (t + 4) (by omega) (by omega) (by omega) (by omega), nn (t + 5) (by omega) (by omega) (by omega) (by omega), nn (t + 6) (by omega) (by omega) (by omega) (by omega), nn (t + 7) (by omega) (by omega) (by omega) (by omega), nn (t + 8) (by omega) (by omega) (by omega) (by omega), nn (t + 9) (by omega) (by omega) (by omega) (by omega), z0]
  exact ⟨a1, a2, a3, a4, a5, a6, a7, by rw [us_s]; exact g, by rw [us_n (by decide)]; exact a9, by rw [us_n (by decide)]; exact a10, by rw [us_n (by decide)]; exact a11⟩

theorem re1_J {t : Nat} {M : zM} (ht : t = 4 ∨ t = 23) (h : RdI t M) (h0 : M 42 6 = 0) (hs : M 43 9 ≠ 0) : RdJ t M (reM t 1 1 9 M) := by
  obtain ⟨h1, h2, h3, h4, h5, h6, h7, h8⟩ := id h
  have q1 := h2.1
  have q6 := h2.2.1
  have q10 := h2.2.2.1
  unfold reM
  by_cases cs : M (t + 11) 1 ≠ 0
  · rw [if_pos cs]; exact RdJ.same h (h1.fl 3) (Cm.fl M 3) (fun k k1 k2 => flM_n M 3 k1) ht
  rw [if_neg cs]
  obtain ⟨M1, e1⟩ : ∃ M1, M1 = stT M := ⟨_, rfl⟩
  have v1 : TV M1 := by rw [e1]; exact h1.st hs
  have r1 : ∀ k : Nat, k ≠ 42 → k ≠ 43 → M1 k = M k := fun k k1 k2 => by rw [e1, stT_n _ k2]
  have c1 : Cm M M1 := by rw [e1]; exact Cm.st M
  obtain ⟨M2, e2⟩ : ∃ M2, M2 = tkM 1 9 M1 := ⟨_, rfl⟩
  have v2 : TV M2 := by rw [e2]; exact v1.tk _ _
  have r2 : ∀ k : Nat, k ≠ 42 → k ≠ 43 → M2 k = M k := fun k k1 k2 => by rw [e2, tkM_n _ _ _ k1 k2]; exact r1 k k1 k2
  have c2 : Cm M M2 := by rw [e2]; exact c1.tr (Cm.tk _ _ _)
  show RdJ t M (if tkM 1 9 (stT M) 42 6 ≠ 0 then tkM 1 9 (stT M) else sm (sm (tkM 1 9 (stT M)) (t + 11) 1 1) (t + 10) 1 (lnV 1 9 (stT M)))
  rw [← e1, ← e2]
  by_cases cf : M2 42 6 ≠ 0
  · rw [if_pos cf]; exact RdJ.same h v2 c2 r2 ht
  rw [if_neg cf]
  have g := lnV_in 1 9 (M := M1) (by decide)
  obtain ⟨M9, e9⟩ : ∃ M9, M9 = sm (sm M2 (t + 11) 1 1) (t + 10) 1 (lnV 1 9 M1) := ⟨_, rfl⟩
  rw [← e9]
  have n9 : ∀ k : Nat, k ≠ t + 10 → k ≠ t + 11 → M9 k = M2 k := fun k a b => by rw [e9, sm_n a, sm_n b]
  have nn : ∀ k : Nat, k ≠ 42 → k ≠ 43 → k ≠ t + 10 → k ≠ t + 11 → M9 k = M k := fun k k1 k2 a b => (n9 k a b).trans (r2 k k1 k2)
  have z0 : M9 (t + 10) = us (M (t + 10)) 1 (lnV 1 9 M1) := by rw [e9, sm_k, sm_n (by omega), r2 _ (by omega) (by omega)]
  refine ⟨v2.of (n9 43 (by omega) (by omega)) (n9 45 (by omega) (by omega)) (n9 46 (by omega) (by omega)) (n9 47 (by omega) (by omega)), ?_, by rw [nn t (by omega) (by omega) (by omega) (by omega)]; exact h3, ⟨h4.1.of (nn _ (by omega) (by omega) (by omega) (by omega)) (nn _ (by omega) (by omega) (by omega) (by omega)), h4.2.1.of (nn _ (by omega) (by omega) (by omega) (by omega)) (nn _ (by omega) (by omega) (by omega) (by omega)), h4.2.2.of (nn _ (by omega) (by omega) (by omega) (by omega)) (nn _ (by omega) (by omega) (by omega) (by omega))⟩, by rw [nn t (by omega) (by omega) (by omega) (by omega)], c2.tr (Cm.of (n9 43 (by omega) (by omega))), fun k k1 k2 k3 k4 => nn k k1 k2 (by omega) (by omega)⟩
  unfold ToI at h2 ⊢
  obtain ⟨a1, a2, a3, a4, a5, a6, a7, a8, a9, a10, a11⟩ := h2
  rw [nn t (by omega) (by omega) (by omega) (by omega), nn (t + 2) (by omega) (by omega) (by omega) (by omega), nn (t + 3) (by omega) (by omega) (by omega) (by omega), nn (t + 4) (by omega) (by omega) (by omega) (by omega), nn (t + 5) (by omega) (by omega) (by omega) (by omega), nn (t + 6) (by omega) (by omega) (by omega) (by omega), nn (t + 7) (by omega) (by omega) (by omega) (by omega), nn (t + 8) (by omega) (by omega) (by omega) (by omega), nn (t + 9) (by omega) (by omega) (by omega) (by omega), z0]
  exact ⟨a1, a2, a3, a4, a5, a6, a7, by rw [us_n (by decide)]; exact a8, by rw [us_s]; exact g, by rw [us_n (by decide)]; exact a10, by rw [us_n (by decide)]; exact a11⟩

theorem re2_J {t : Nat} {M : zM} (ht : t = 4 ∨ t = 23) (h : RdI t M) (h0 : M 42 6 = 0) (hs : M 43 9 ≠ 0) : RdJ t M (reM t 2 0 100 M) := by
  obtain ⟨h1, h2, h3, h4, h5, h6, h7, h8⟩ := id h
  have q1 := h2.1
  have q6 := h2.2.1
  have q10 := h2.2.2.1
  unfold reM
  by_cases cs : M (t + 11) 2 ≠ 0
  · rw [if_pos cs]; exact RdJ.same h (h1.fl 3) (Cm.fl M 3) (fun k k1 k2 => flM_n M 3 k1) ht
  rw [if_neg cs]
  obtain ⟨M1, e1⟩ : ∃ M1, M1 = stT M := ⟨_, rfl⟩
  have v1 : TV M1 := by rw [e1]; exact h1.st hs
  have r1 : ∀ k : Nat, k ≠ 42 → k ≠ 43 → M1 k = M k := fun k k1 k2 => by rw [e1, stT_n _ k2]
  have c1 : Cm M M1 := by rw [e1]; exact Cm.st M
  obtain ⟨M2, e2⟩ : ∃ M2, M2 = tkM 0 100 M1 := ⟨_, rfl⟩
  have v2 : TV M2 := by rw [e2]; exact v1.tk _ _
  have r2 : ∀ k : Nat, k ≠ 42 → k ≠ 43 → M2 k = M k := fun k k1 k2 => by rw [e2, tkM_n _ _ _ k1 k2]; exact r1 k k1 k2
  have c2 : Cm M M2 := by rw [e2]; exact c1.tr (Cm.tk _ _ _)
  show RdJ t M (if tkM 0 100 (stT M) 42 6 ≠ 0 then tkM 0 100 (stT M) else sm (sm (tkM 0 100 (stT M)) (t + 11) 2 1) (t + 10) 2 (lnV 0 100 (stT M)))
  rw [← e1, ← e2]
  by_cases cf : M2 42 6 ≠ 0
  · rw [if_pos cf]; exact RdJ.same h v2 c2 r2 ht
  rw [if_neg cf]
  have g := lnV_in 0 100 (M := M1) (by decide)
  obtain ⟨M9, e9⟩ : ∃ M9, M9 = sm (sm M2 (t + 11) 2 1) (t + 10) 2 (lnV 0 100 M1) := ⟨_, rfl⟩
  rw [← e9]
  have n9 : ∀ k : Nat, k ≠ t + 10 → k ≠ t + 11 → M9 k = M2 k := fun k a b => by rw [e9, sm_n a, sm_n b]
  have nn : ∀ k : Nat, k ≠ 42 → k ≠ 43 → k ≠ t + 10 → k ≠ t + 11 → M9 k = M k := fun k k1 k2 a b => (n9 k a b).trans (r2 k k1 k2)
  have z0 : M9 (t + 10) = us (M (t + 10)) 2 (lnV 0 100 M1) := by rw [e9, sm_k, sm_n (by omega), r2 _ (by omega) (by omega)]
  refine ⟨v2.of (n9 43 (by omega) (by omega)) (n9 45 (by omega) (by omega)) (n9 46 (by omega) (by omega)) (n9 47 (by omega) (by omega)), ?_, by rw [nn t (by omega) (by omega) (by omega) (by omega)]; exact h3, ⟨h4.1.of (nn _ (by omega) (by omega) (by omega) (by omega)) (nn _ (by omega) (by omega) (by omega) (by omega)), h4.2.1.of (nn _ (by omega) (by omega) (by omega) (by omega)) (nn _ (by omega) (by omega) (by omega) (by omega)), h4.2.2.of (nn _ (by omega) (by omega) (by omega) (by omega)) (nn _ (by omega) (by omega) (by omega) (by omega))⟩, by rw [nn t (by omega) (by omega) (by omega) (by omega)], c2.tr (Cm.of (n9 43 (by omega) (by omega))), fun k k1 k2 k3 k4 => nn k k1 k2 (by omega) (by omega)⟩
  unfold ToI at h2 ⊢
  obtain ⟨a1, a2, a3, a4, a5, a6, a7, a8, a9, a10, a11⟩ := h2
  rw [nn t (by omega) (by omega) (by omega) (by omega), nn (t + 2) (by omega) (by omega) (by omega) (by omega), nn (t + 3) (by omega) (by omega) (by omega) (by omega), nn (t + 4) (by omega) (by omega) (by omega) (by omega), nn (t + 5) (by omega) (by omega) (by omega) (by omega), nn (t + 6) (by omega) (by omega) (by omega) (by omega), nn (t + 7) (by omega) (by omega) (by omega) (by omega), nn (t + 8) (by omega) (by omega) (by omega) (by omega), nn (t + 9) (by omega) (by omega) (by omega) (by omega), z0]
  exact ⟨a1, a2, a3, a4, a5, a6, a7, by rw [us_n (by decide)]; exact a8, by rw [us_n (by decide)]; exact a9, by rw [us_s]; exact g, by rw [us_n (by decide)]; exact a11⟩

theorem re3_J {t : Nat} {M : zM} (ht : t = 4 ∨ t = 23) (h : RdI t M) (h0 : M 42 6 = 0) (hs : M 43 9 ≠ 0) : RdJ t M (reM t 3 0 99999 M) := by
  obtain ⟨h1, h2, h3, h4, h5, h6, h7, h8⟩ := id h
  have q1 := h2.1
  have q6 := h2.2.1
  have q10 := h2.2.2.1
  unfold reM
  by_cases cs : M (t + 11) 3 ≠ 0
  · rw [if_pos cs]; exact RdJ.same h (h1.fl 3) (Cm.fl M 3) (fun k k1 k2 => flM_n M 3 k1) ht
  rw [if_neg cs]
  obtain ⟨M1, e1⟩ : ∃ M1, M1 = stT M := ⟨_, rfl⟩
  have v1 : TV M1 := by rw [e1]; exact h1.st hs
  have r1 : ∀ k : Nat, k ≠ 42 → k ≠ 43 → M1 k = M k := fun k k1 k2 => by rw [e1, stT_n _ k2]
  have c1 : Cm M M1 := by rw [e1]; exact Cm.st M
  obtain ⟨M2, e2⟩ : ∃ M2, M2 = tkM 0 99999 M1 := ⟨_, rfl⟩
  have v2 : TV M2 := by rw [e2]; exact v1.tk _ _
  have r2 : ∀ k : Nat, k ≠ 42 → k ≠ 43 → M2 k = M k := fun k k1 k2 => by rw [e2, tkM_n _ _ _ k1 k2]; exact r1 k k1 k2
  have c2 : Cm M M2 := by rw [e2]; exact c1.tr (Cm.tk _ _ _)
  show RdJ t M (if tkM 0 99999 (stT M) 42 6 ≠ 0 then tkM 0 99999 (stT M) else sm (sm (tkM 0 99999 (stT M)) (t + 11) 3 1) (t + 10) 3 (lnV 0 99999 (stT M)))
  rw [← e1, ← e2]
  by_cases cf : M2 42 6 ≠ 0
  · rw [if_pos cf]; exact RdJ.same h v2 c2 r2 ht
  rw [if_neg cf]
  have g := lnV_in 0 99999 (M := M1) (by decide)
  obtain ⟨M9, e9⟩ : ∃ M9, M9 = sm (sm M2 (t + 11) 3 1) (t + 10) 3 (lnV 0 99999 M1) := ⟨_, rfl⟩
  rw [← e9]
  have n9 : ∀ k : Nat, k ≠ t + 10 → k ≠ t + 11 → M9 k = M2 k := fun k a b => by rw [e9, sm_n a, sm_n b]
  have nn : ∀ k : Nat, k ≠ 42 → k ≠ 43 → k ≠ t + 10 → k ≠ t + 11 → M9 k = M k := fun k k1 k2 a b => (n9 k a b).trans (r2 k k1 k2)
  have z0 : M9 (t + 10) = us (M (t + 10)) 3 (lnV 0 99999 M1) := by rw [e9, sm_k, sm_n (by omega), r2 _ (by omega) (by omega)]
  refine ⟨v2.of (n9 43 (by omega) (by omega)) (n9 45 (by omega) (by omega)) (n9 46 (by omega) (by omega)) (n9 47 (by omega) (by omega)), ?_, by rw [nn t (by omega) (by omega) (by omega) (by omega)]; exact h3, ⟨h4.1.of (nn _ (by omega) (by omega) (by omega) (by omega)) (nn _ (by omega) (by omega) (by omega) (by omega)), h4.2.1.of (nn _ (by omega) (by omega) (by omega) (by omega)) (nn _ (by omega) (by omega) (by omega) (by omega)), h4.2.2.of (nn _ (by omega) (by omega) (by omega) (by omega)) (nn _ (by omega) (by omega) (by omega) (by omega))⟩, by rw [nn t (by omega) (by omega) (by omega) (by omega)], c2.tr (Cm.of (n9 43 (by omega) (by omega))), fun k k1 k2 k3 k4 => nn k k1 k2 (by omega) (by omega)⟩
  unfold ToI at h2 ⊢
  obtain ⟨a1, a2, a3, a4, a5, a6, a7, a8, a9, a10, a11⟩ := h2
  rw [nn t (by omega) (by omega) (by omega) (by omega), nn (t + 2) (by omega) (by omega) (by omega) (by omega), nn (t + 3) (by omega) (by omega) (by omega) (by omega), nn (t + 4) (by omega) (by omega) (by omega) (by omega), nn (t + 5) (by omega) (by omega) (by omega) (by omega), nn (t + 6) (by omega) (by omega) (by omega) (by omega), nn (t + 7) (by omega) (by omega) (by omega) (by omega), nn (t + 8) (by omega) (by omega) (by omega) (by omega), nn (t + 9) (by omega) (by omega) (by omega) (by omega), z0]
  exact ⟨a1, a2, a3, a4, a5, a6, a7, by rw [us_n (by decide)]; exact a8, by rw [us_n (by decide)]; exact a9, by rw [us_n (by decide)]; exact a10, by rw [us_s]; exact g⟩

theorem rl_J {t : Nat} {M : zM} (ht : t = 4 ∨ t = 23) (h : RdI t M) (h0 : M 42 6 = 0) (hs : M 43 9 ≠ 0) : RdJ t M (rlM t M) := by
  obtain ⟨h1, h2, h3, h4, h5, h6, h7, h8⟩ := id h
  have q1 := h2.1
  have q6 := h2.2.1
  have q10 := h2.2.2.1
  have sv := h1.st hs
  have sr : ∀ k : Nat, k ≠ 42 → k ≠ 43 → stT M k = M k := fun k k1 k2 => stT_n M k2
  unfold rlM
  by_cases ck : ¬ (0 ≤ lkM M ∧ lkM M ≤ 2)
  · rw [if_pos ck]; exact RdJ.same h (sv.fl 1) ((Cm.st M).tr (Cm.fl _ _)) (fun k k1 k2 => by rw [flM_n _ _ k1]; exact sr k k1 k2) ht
  rw [if_neg ck]
  obtain ⟨w, ew⟩ : ∃ w, w = t + 13 + 2 * (lkM M).toNat := ⟨_, rfl⟩
  rw [← ew]
  have hw : w = t + 13 ∨ w = t + 15 ∨ w = t + 17 := by omega
  by_cases cs : 0 < stT M w 1
  · rw [if_pos cs]; exact RdJ.same h (sv.fl 3) ((Cm.st M).tr (Cm.fl _ _)) (fun k k1 k2 => by rw [flM_n _ _ k1]; exact sr k k1 k2) ht
  rw [if_neg cs]
  have wf : t < 41 ∧ w + 1 < 42 ∧ (w ≠ t ∧ w + 1 ≠ t) := by omega
  have sk : stT M 43 9 ≠ 0 := by
    intro z
    unfold lkM at ck
    rw [z, if_neg (by decide)] at ck
    exact ck (by omega)
  have hlw : LwI M w := by rcases hw with e | e | e <;> rw [e]; exact h4.1; exact h4.2.1; exact h4.2.2
  obtain ⟨M0, e0⟩ : ∃ M0, M0 = sm (sm (stT (stT M)) 42 4 0) 42 5 0 := ⟨_, rfl⟩
  have n0 : ∀ k : Nat, k ≠ 42 → k ≠ 43 → M0 k = M k := fun k k1 k2 => by rw [e0, sm_n k1, sm_n k1, stT_n _ k2, stT_n _ k2]
  have hv9 : LvI t w M0 := by
    rw [e0]
    refine ⟨((sv.st sk).sm (k := 42) (by omega) _ _).sm (k := 42) (by omega) _ _, ?_, ?_, ?_, fun _ => ?_⟩
    · rw [sm_n (by omega), sm_n (by omega), stT_n _ (by omega), stT_n _ (by omega)]; exact h3
    · unfold AsI
      rw [sm_s, sm_k, us_n (by decide), sm_s]
      exact ⟨by omega, fun j j0 j1 => by omega, by omega⟩
    · rw [sm_n (by omega), sm_n (by omega), stT_n _ (by omega), stT_n _ (by omega)]; exact hlw.1
    · rw [show sm (sm (stT (stT M)) 42 4 0) 42 5 0 42 4 = 0 from by rw [sm_k, us_n (by decide), sm_s], show sm (sm (stT (stT M)) 42 4 0) 42 5 0 42 5 = 0 from by rw [sm_s], show sm (sm (stT (stT M)) 42 4 0) 42 5 0 t = M t from by rw [sm_n (by omega), sm_n (by omega), stT_n _ (by omega), stT_n _ (by omega)]]
      exact ⟨rfl, by omega⟩
  have cm0 : Cm M M0 := by rw [e0]; exact (((Cm.st M).tr (Cm.st _)).tr (Cm.of (sm_n (by decide)))).tr (Cm.of (sm_n (by decide)))
  have d0 : WdI M0 := h8.of cm0.1 (n0 45 (by decide) (by decide)) (n0 47 (by decide) (by decide))
  have jl := LJ.lw wf.1 wf.2.1 wf.2.2 701 1 M0 hv9 d0
  have vl := LvI.lw wf.1 wf.2.1 wf.2.2 701 1 M0 hv9
  have els : lsM t w (stT M) = lwL t w 701 1 M0 := by unfold lsM; rw [e0]
  rw [els]
  have jy := LJ.ly (t := t) (w := w) (r := 1) (by decide) wf.1 wf.2.1 wf.2.2 (lwL t w 701 1 M0 42 4).toNat _ vl.2.2.1
  have vy := vl.ly (r := 1) wf.1 wf.2.1 wf.2.2 (by decide)
  have j := jl.tr jy
  obtain ⟨M9, e9⟩ : ∃ M9, M9 = lyA w 1 (lwL t w 701 1 M0 42 4).toNat (lwL t w 701 1 M0) := ⟨_, rfl⟩
  have n9 : ∀ k : Nat, k ≠ 42 → k ≠ 43 → k ≠ 49 → k ≠ t → k ≠ w → k ≠ w + 1 → M9 k = M k := fun k k1 k2 k3 k4 k5 k6 => by rw [e9, lyA_n w 1 k1 k5 k6, lwL_n t w k1 k2 k3 k4 k5 k6]; exact n0 k k1 k2
  rw [← e9] at j vy ⊢
  have tt : ∀ i : Int, i ≠ 1 → M9 t i = M t i := fun i hi => by rw [j.2.1 i hi, n0 t (by omega) (by omega)]
  have lw9 : LwI M9 w := j.2.2 (hlw.of (n0 _ (by omega) (by omega)) (n0 _ (by omega) (by omega)))
  have lo9 : ∀ w' : Nat, (w' = t + 13 ∨ w' = t + 15 ∨ w' = t + 17) → LwI M w' → LwI M9 w' := fun w' hw' z => by
    by_cases e : w' = w
    · rw [e]; exact lw9
    · exact z.of (n9 _ (by omega) (by omega) (by omega) (by omega) (by omega) (by omega)) (n9 _ (by omega) (by omega) (by omega) (by omega) (by omega) (by omega))
  refine ⟨vy.1, ?_, vy.2.1, ⟨lo9 _ (by omega) h4.1, lo9 _ (by omega) h4.2.1, lo9 _ (by omega) h4.2.2⟩, tt 0 (by decide), ⟨j.1.1.trans cm0.1, Int.le_trans cm0.2 j.1.2⟩, fun k k1 k2 k3 k4 => n9 k k1 k2 k3 (by omega) (by omega) (by omega)⟩
  unfold ToI at h2 ⊢
  rw [tt 2 (by decide), tt 6 (by decide), tt 10 (by decide), n9 (t + 2) (by omega) (by omega) (by omega) (by omega) (by omega) (by omega), n9 (t + 3) (by omega) (by omega) (by omega) (by omega) (by omega) (by omega), n9 (t + 4) (by omega) (by omega) (by omega) (by omega) (by omega) (by omega), n9 (t + 5) (by omega) (by omega) (by omega) (by omega) (by omega) (by omega), n9 (t + 6) (by omega) (by omega) (by omega) (by omega) (by omega) (by omega), n9 (t + 7) (by omega) (by omega) (by omega) (by omega) (by omega) (by omega), n9 (t + 8) (by omega) (by omega) (by omega) (by omega) (by omega) (by omega), n9 (t + 9) (by omega) (by omega) (by omega) (by omega) (by omega) (by omega), n9 (t + 10) (by omega) (by omega) (by omega) (by omega) (by omega) (by omega)]
  exact h2
/-- the word at a line's head; a line -/
def lvM (M : zM) : Int := if M 43 9 = 3 then M 43 11 else -1
def rlnM (t : Nat) (M : zM) : zM := if lvM M = 0 then rhM t M else if lvM M = 1 then rtM t M else if lvM M = 2 then rdM t M else if lvM M = 3 then reM t 0 0 20 M else if lvM M = 4 then reM t 1 1 9 M else if lvM M = 5 then reM t 2 0 100 M else if lvM M = 6 then reM t 3 0 99999 M else if lvM M = 7 then rlM t M else flM M 1
theorem rln_J {t : Nat} {M : zM} (ht : t = 4 ∨ t = 23) (h : RdI t M) (h0 : M 42 6 = 0) (hs : M 43 9 ≠ 0) : RdJ t M (rlnM t M) := by
  unfold rlnM
  split
  · exact rh_J ht h h0 hs
  split
  · exact rt_J ht h h0 hs
  split
  · exact rd_J ht h h0 hs
  split
  · exact re0_J ht h h0 hs
  split
  · exact re1_J ht h h0 hs
  split
  · exact re2_J ht h h0 hs
  split
  · exact re3_J ht h h0 hs
  split
  · exact rl_J ht h h0 hs
  · exact RdJ.same h (h.1.fl 1) (Cm.fl M 1) (fun k k1 k2 => flM_n M 1 k1) ht
theorem RdI.line {t : Nat} {M : zM} (ht : t = 4 ∨ t = 23) (h : RdI t M) (h0 : M 42 6 = 0) (hs : M 43 9 ≠ 0) : RdI t (leM t (rlnM t M)) ∧ (∀ k : Nat, k ≠ 42 → k ≠ 43 → k ≠ 49 → ¬ (t ≤ k ∧ k ≤ t + 18) → leM t (rlnM t M) k = M k) ∧ Cm M (leM t (rlnM t M)) := by
  obtain ⟨j1, j2, j3, j4, j5, j6, j7⟩ := rln_J ht h h0 hs
  obtain ⟨h1, h2, h3, h4, h5, h6, h7, h8⟩ := h
  obtain ⟨M1, e1⟩ : ∃ M1, M1 = rlnM t M := ⟨_, rfl⟩
  rw [← e1] at j1 j2 j3 j4 j5 j6 j7 ⊢
  have base : ∀ M' : zM, TV M' → Cm M1 M' → (∀ k : Nat, k ≠ 42 → k ≠ 43 → k ≠ t → M' k = M1 k) → (∀ i : Int, i ≠ 0 → M' t i = M1 t i) → (0 ≤ M' t 0 ∧ M' t 0 ≤ M' 43 5) → RdI t M' ∧ (∀ k : Nat, k ≠ 42 → k ≠ 43 → k ≠ 49 → ¬ (t ≤ k ∧ k ≤ t + 18) → M' k = M k) ∧ Cm M M' := fun M' v c r rt l => by
    have c9 := j6.tr c
    have r47 : M' 47 = M 47 := by rw [r 47 (by decide) (by decide) (by omega), j7 47 (by decide) (by decide) (by decide) (by omega)]
    have r45 : M' 45 = M 45 := by rw [r 45 (by decide) (by decide) (by omega), j7 45 (by decide) (by decide) (by decide) (by omega)]
    have r1 : M' 1 = M 1 := by rw [r 1 (by decide) (by decide) (by omega), j7 1 (by decide) (by decide) (by decide) (by omega)]
    refine ⟨⟨v, ?_, by rw [rt 1 (by decide)]; exact j3, ⟨j4.1.of (r _ (by omega) (by omega) (by omega)) (r _ (by omega) (by omega) (by omega)), j4.2.1.of (r _ (by omega) (by omega) (by omega)) (r _ (by omega) (by omega) (by omega)), j4.2.2.of (r _ (by omega) (by omega) (by omega)) (r _ (by omega) (by omega) (by omega))⟩, l, by rw [c9.1, r47]; exact h6, by rw [r1]; exact h7, h8.of c9.1 r45 r47⟩, fun k k1 k2 k3 k4 => by rw [r k k1 k2 (by omega)]; exact j7 k k1 k2 k3 k4, c9⟩
    unfold ToI at j2 ⊢
    rw [rt 2 (by decide), rt 6 (by decide), rt 10 (by decide), r (t + 2) (by omega) (by omega) (by omega), r (t + 3) (by omega) (by omega) (by omega), r (t + 4) (by omega) (by omega) (by omega), r (t + 5) (by omega) (by omega) (by omega), r (t + 6) (by omega) (by omega) (by omega), r (t + 7) (by omega) (by omega) (by omega), r (t + 8) (by omega) (by omega) (by omega), r (t + 9) (by omega) (by omega) (by omega), r (t + 10) (by omega) (by omega) (by omega)]
    exact j2
  have l1 : 0 ≤ M1 t 0 ∧ M1 t 0 ≤ M1 43 5 := by rw [j5]; have := j6.2; omega
  unfold leM
  by_cases cf : M1 42 6 ≠ 0
  · rw [if_pos cf]; exact base M1 j1 (Cm.rf _) (fun _ _ _ _ => rfl) (fun _ _ => rfl) l1
  rw [if_neg cf]
  by_cases ce : M1 43 9 = 5 ∧ M1 43 11 = 15
  · rw [if_pos ce]
    have s := stT_4 M1
    refine base _ ((j1.st (by omega)).sm (k := t) (by omega) _ _) ((Cm.st M1).tr (Cm.of (sm_n (by omega)))) (fun k k1 k2 k3 => by rw [sm_n k3, stT_n _ k2]) (fun i hi => by rw [sm_k, us_n hi, stT_n _ (by omega)]) ?_
    rw [sm_s, sm_n (by omega), s.2.1]
    omega
  · rw [if_neg ce]
    exact base _ (j1.fl 1) (Cm.fl _ _) (fun k k1 k2 k3 => flM_n _ _ k1) (fun i _ => by rw [flM_n _ _ (by omega)]) (by rw [flM_n _ _ (by omega), flM_n _ _ (by decide)]; exact l1)
end ZRJ
