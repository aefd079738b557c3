section ZRLO
theorem re_1 {t : Nat} {k lo hi : Int} {M : zM} (h : M (t + 11) k ≠ 0) : reM t k lo hi M = flM M 3 := by
  unfold reM; rw [if_pos h]
theorem re_2 {t : Nat} {k lo hi : Int} {M C D : zM} (h : M (t + 11) k = 0) (eC : C = stT M) (eD : D = tkM lo hi C) : reM t k lo hi M = if D 42 6 ≠ 0 then D else sm (sm D (t + 11) k 1) (t + 10) k (lnV lo hi C) := by
  unfold reM; rw [if_neg (fun a => a h)]
  simp only []
  rw [← eC, ← eD]
end ZRLO

set_option maxRecDepth 100000 in
set_option maxHeartbeats 4000000 in
theorem m_X11_onceLine {G : zG} {l : Launch} {L : Nat} {P : zP} {M : zM} {f : Int → Int} {n : Int} {t : Nat} {Mc : zM} {k lo hi : Int} (hP : PFok P) (ht : RTk f n Mc M) (h0 : Mc 42 6 = 0) (hs : Mc 43 9 ≠ 0) (tt : t = 4 ∨ t = 23) (hk : 0 ≤ k ∧ k < 4) (hl : 0 ≤ lo ∧ lo ≤ hi ∧ hi ≤ 99999) (hkl : (k = 0 → hi ≤ 20) ∧ (k = 1 → 1 ≤ lo ∧ hi ≤ 9) ∧ (k = 2 → hi ≤ 100)) (hu : SeX t Mc M) : AM G l yX11_onceLine mdX11_onceLine [aR 209, aI k, aI lo, aI hi] (LAY L) P M (zany (LAY L) P (fun r M' => FrX [212, 213] 4 M M' ∧ LiR f n (reM t k lo hi Mc) (SeX t (reM t k lo hi Mc)) r M')) := by
  have t3 := ht.2.2.1
  have tn := ht.nx
  have t5 := ht.2.2.2.2.1
  have t6 := ht.2.2.2.2.2
  have hu0 := hu k hk.1 hk.2
  refine AM.go [some (aR 209), some (aI k), some (aI lo), some (aI hi)] rfl (Nat.le_of_ble_eq_true rfl) ?_ (by decide) rfl rfl
  refine a_aloadn dX11_onceLine_0 rfl ?_
  refine a_getR (j' := 20) (y := 212) dX11_onceLine_1 flX11_20 rfl rfl (L209 L) (p209_20 hP) ?_
  refine a_iloadn dX11_onceLine_4 rfl ?_
  refine b_zald (N := 4) dX11_onceLine_5 (L212 L) (by decide) (by omega) (by omega) (fun hr5 => ?_)
  refine a_if_eq (tgt := 15) dX11_onceLine_6 (by decide) ⟨by omega, by omega⟩ (fun hb6 => ?_) (fun hb6 => ?_)
  · refine a_aloadn dX11_onceLine_15 rfl ?_
    refine a_getR (j' := 20) (y := 212) dX11_onceLine_16 flX11_20 rfl rfl (L209 L) (p209_20 hP) ?_
    refine a_iloadn dX11_onceLine_19 rfl ?_
    refine a_iconst dX11_onceLine_20 ?_
    refine a_zast (N := 4) dX11_onceLine_21 (L212 L) (by decide) (by decide) (by omega) (by omega) (by omega) ?_
    refine a_aloadn dX11_onceLine_22 rfl ?_
    obtain ⟨N0, eN0⟩ : ∃ N0, N0 = sm M 212 k 1 := ⟨_, rfl⟩
    have rtN : RTk f n Mc N0 := by rw [eN0]; exact ht.of rfl rfl rfl rfl (fun i i0 i1 => by rw [sm_n (by decide)]) (sm_n (by decide)) (sm_n (by decide))
    refine a_relVv (as := []) (q := 209) dX11_onceLine_23 mvX11_176 ⟨by decide, by decide⟩ (L209 L) rfl rfl rfl (Nat.le_of_ble_eq_true rfl) ⟨rfl, rfl⟩ ⟨by decide, by decide⟩ (by have z := m_X11_token (G := G) (l := l) (L := L) hP (by rw [rtN.2.2.2.2.1.1]; exact rtN.2.2.2.2.1.2.2) rtN.2.2.2.2.2 rtN.nx; rw [eN0] at z; exact z) (fun M1 hM1 => ?_)
    obtain ⟨C1, eC1⟩ : ∃ C1, C1 = stT Mc := ⟨_, rfl⟩
    rw [← eN0] at hM1
    have tsM1 : TkR f n (N0 209 7) N0 M1 := by rw [rtN.2.2.2.2.1.1, rtN.2.2.2.2.1.2.1] at hM1; exact hM1
    have rt1 : RTk f n C1 M1 := by rw [eC1]; exact rtN.step hs tsM1
    have c0 : C1 42 6 = 0 := by rw [eC1, stT_n _ (by decide)]; exact h0
    have cn : ∀ k : Nat, k ≠ 43 → C1 k = Mc k := fun k hk => by rw [eC1, stT_n _ hk]
    have fr1 := tsM1.2.2.2
    have F1 : FrX [212, 213] 4 M M1 := (by rw [eN0] at tsM1; exact ((FrX.rf [212, 213] 4 M).row (by decide) _ _).tr ((tsM1.2.2.2.fl).frx [212, 213] 4))
    refine a_aloadn dX11_onceLine_26 rfl ?_
    refine a_iloadn dX11_onceLine_27 rfl ?_
    refine a_iloadn dX11_onceLine_28 rfl ?_
    refine a_anyV (as := [_, _]) (q := 209) dX11_onceLine_29 mvX11_182 ⟨by decide, by decide⟩ (L209 L) rfl rfl rfl (Nat.le_of_ble_eq_true rfl) ⟨rfl, rfl⟩ ⟨by decide, by decide⟩ (m_X11_number hP rt1 c0 hl) (fun x29 M2 hM2 => ?_)
    obtain ⟨C2, eC2⟩ : ∃ C2, C2 = tkM lo hi C1 := ⟨_, rfl⟩
    obtain ⟨w1, w2⟩ := hM2
    rw [← eC2] at w2
    have F2 : FrX [212, 213] 4 M M2 := F1.tr (w1.frx [212, 213] 4)
    have g := re_2 (t := t) (k := k) (lo := lo) (hi := hi) (M := Mc) (by omega) eC1 eC2
    refine a_if_ne (tgt := 37) dX11_onceLine_32 (by decide) ⟨by omega, by omega⟩ (fun hb32 => ?_) (fun hb32 => ?_)
    · refine a_aloadn dX11_onceLine_37 rfl ?_
      refine a_getR (j' := 21) (y := 213) dX11_onceLine_38 flX11_24 rfl rfl (L209 L) (p209_21 hP) ?_
      refine a_iconst dX11_onceLine_41 ?_
      refine a_iloadn dX11_onceLine_42 rfl ?_
      refine a_iadd dX11_onceLine_43 ?_
      refine a_aloadn dX11_onceLine_44 rfl ?_
      refine b_getI (j' := 11) dX11_onceLine_45 flX11_173 rfl rfl (L209 L) (fun hr45 => ?_)
      refine a_iast (N := 8) dX11_onceLine_48 (L213 L) (by decide) (by decide) (by omega) (by omega) hr45 ?_
      refine a_iconst dX11_onceLine_49 ?_
      have v2 := w2.resolve_left (by omega)
      rw [if_neg (by omega)] at g
      have c2n : ∀ k : Nat, k ≠ 42 → k ≠ 43 → C2 k = Mc k := fun k a b => by rw [eC2, tkM_n _ _ _ a b]; exact cn k b
      have lv : lnV lo hi C1 = M2 209 11 := v2.2.2.2.symm
      have lrr := lnV_in lo hi (M := C1) hl.2.1
      rw [lv] at g
      obtain ⟨CX, eCX⟩ : ∃ CX, CX = reM t k lo hi Mc := ⟨_, rfl⟩
      rw [← eCX] at g ⊢
      have xn : ∀ q : Nat, q ≠ t + 11 → q ≠ t + 10 → CX q = C2 q := fun q a b => by rw [g, sm_n b, sm_n a]
      have x1 : CX (t + 11) = us (Mc (t + 11)) k 1 := by rw [g, sm_n (by omega), sm_k, c2n _ (by omega) (by omega)]
      have x2 : CX (t + 10) = us (Mc (t + 10)) k (M2 209 11) := by rw [g, sm_k, sm_n (by omega), c2n _ (by omega) (by omega)]
      have r1 : M2 212 = us (M 212) k 1 := by rw [w1.row (by decide), fr1.row (by decide), eN0, sm_k]
      have r2 : M2 213 = M 213 := by rw [w1.row (by decide), fr1.row (by decide), eN0, sm_n (by decide)]
      have rtz : RTk f n CX (sm M2 213 (4 + k) (M2 209 11)) := v2.2.2.1.of (xn _ (by omega) (by omega)) (xn _ (by omega) (by omega)) (xn _ (by omega) (by omega)) (xn _ (by omega) (by omega)) (fun i i0 i1 => by rw [sm_n (by decide)]) (sm_n (by decide)) (sm_n (by decide))
      have hox : SeX t CX (sm M2 213 (4 + k) (M2 209 11)) := fun j j0 j1 => by
        have z := hu j j0 j1
        rw [sm_k, sm_n (by decide), x1, x2, r1, r2]
        by_cases ej : j = k
        · rw [ej, us_s, us_s, us_s, us_s]; exact ⟨rfl, Iff.rfl⟩
        · rw [us_n (by omega), us_n ej, us_n ej, us_n ej]; exact z
      exact a_zreturn dX11_onceLine_50 rfl rfl rfl (by omega) (zany_i ⟨F2.row (by decide) _ _, Or.inr ⟨rfl, by rw [g, sm_n (by omega), sm_n (by omega)]; exact v2.2.1, rtz, hox⟩⟩)
    · refine a_iconst dX11_onceLine_35 ?_
      have v2 := w2.resolve_right (by omega)
      rw [if_pos v2.2.1] at g
      exact a_zreturn dX11_onceLine_36 rfl rfl rfl (by omega) (zany_i ⟨F2, Or.inl ⟨rfl, by rw [g]; exact v2.2.1, by rw [g]; exact v2.2.2⟩⟩)
  · refine a_aloadn dX11_onceLine_9 rfl ?_
    refine a_iconst dX11_onceLine_10 ?_
    refine a_callV (as := [_]) (q := 209) dX11_onceLine_11 mvX11_166 ⟨by decide, by decide⟩ (L209 L) rfl rfl rfl (Nat.le_of_ble_eq_true rfl) ⟨rfl, rfl⟩ ⟨by decide, by decide⟩ (m_X11_wrong ⟨by omega, by omega⟩) ?_
    have e14 := re_1 (t := t) (k := k) (lo := lo) (hi := hi) (M := Mc) (by omega)
    exact a_zreturn dX11_onceLine_14 rfl rfl rfl (by omega) (zany_i ⟨(((Fl.rf M).sm (by omega) _).sm (by omega) _).frx [212, 213] 4, Or.inl ⟨rfl, by rw [e14, (flM_6 3 h0).1]; decide, by rw [e14]; exact wr_ft h0 t3⟩⟩)
