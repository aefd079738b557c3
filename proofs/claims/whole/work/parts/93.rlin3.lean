set_option maxRecDepth 100000 in
set_option maxHeartbeats 4000000 in
theorem m_X11_turnLine {G : zG} {l : Launch} {L : Nat} {P : zP} {M : zM} {f : Int → Int} {n : Int} {t : Nat} {Mc : zM} (hP : PFok P) (ht : RTk f n Mc M) (h0 : Mc 42 6 = 0) (hs : Mc 43 9 ≠ 0) (tt : t = 4 ∨ t = 23) (hh : HoR t Mc M) (hu : TuX t Mc M) : AM G l yX11_turnLine mdX11_turnLine [aR 209] (LAY L) P M (zany (LAY L) P (fun r M' => FrX [217, 218, 219] 17 M M' ∧ LiR f n (rtM t Mc) (TuX t (rtM t Mc)) r M')) := by
  have t3 := ht.2.2.1
  have tn := ht.nx
  have t5 := ht.2.2.2.2.1
  have t6 := ht.2.2.2.2.2
  have h17 := hu.1
  have h10 := hu.2.1
  refine AM.go [some (aR 209), none] rfl (Nat.le_of_ble_eq_true rfl) ?_ (by decide) rfl rfl
  refine a_aloadn dX11_turnLine_0 rfl ?_
  refine b_getI (j' := 17) dX11_turnLine_1 flX11_189 rfl rfl (L209 L) (fun hr1 => ?_)
  refine a_bipush (w := 10) dX11_turnLine_4 (by decide) ?_
  refine a_icmp_ne (tgt := 15) dX11_turnLine_6 (by decide) ⟨by omega, by omega⟩ ⟨by omega, by omega⟩ (fun hb6 => ?_) (fun hb6 => ?_)
  · refine a_aloadn dX11_turnLine_15 rfl ?_
    refine a_relVv (as := []) (q := 209) dX11_turnLine_16 mvX11_176 ⟨by decide, by decide⟩ (L209 L) rfl rfl rfl (Nat.le_of_ble_eq_true rfl) ⟨rfl, rfl⟩ ⟨by decide, by decide⟩ (m_X11_token hP (by rw [ht.2.2.2.2.1.1]; exact ht.2.2.2.2.1.2.2) ht.2.2.2.2.2 ht.nx) (fun M1 hM1 => ?_)
    obtain ⟨C1, eC1⟩ : ∃ C1, C1 = stT Mc := ⟨_, rfl⟩
    have tsM1 : TkR f n (M 209 7) M M1 := by rw [ht.2.2.2.2.1.1, ht.2.2.2.2.1.2.1] at hM1; exact hM1
    have rt1 : RTk f n C1 M1 := by rw [eC1]; exact ht.step hs tsM1
    have c0 : C1 42 6 = 0 := by rw [eC1, stT_n _ (by decide)]; exact h0
    have cn : ∀ k : Nat, k ≠ 43 → C1 k = Mc k := fun k hk => by rw [eC1, stT_n _ hk]
    have fr1 := tsM1.2.2.2
    have hhc : HoR t C1 M1 := hh.of (by rw [cn t (by omega)]) (cn _ (by omega)) (fr1 209 16 (by omega)) (fr1.row (by decide))
    have F1 := (tsM1.2.2.2.fl).frx [217, 218, 219] 17
    refine a_aloadn dX11_turnLine_19 rfl ?_
    refine a_anyV (as := []) (q := 209) dX11_turnLine_20 mvX11_224 ⟨by decide, by decide⟩ (L209 L) rfl rfl rfl (Nat.le_of_ble_eq_true rfl) ⟨rfl, rfl⟩ ⟨by decide, by decide⟩ (m_X11_houseThere hP rt1 c0 hhc) (fun x20 M2 hM2 => ?_)
    obtain ⟨C2, eC2⟩ : ∃ C2, C2 = nmM9 t 0 C1 := ⟨_, rfl⟩
    obtain ⟨u1, u2⟩ := hM2
    rw [← eC2] at u2
    have F2 := F1.tr (u1.frx [217, 218, 219] 17)
    have q17 : M2 209 17 = Mc t 6 := by rw [u1 209 17 (by omega), fr1 209 17 (by omega)]; exact h17
    refine a_if_ne (tgt := 28) dX11_turnLine_23 (by decide) ⟨by omega, by omega⟩ (fun hb23 => ?_) (fun hb23 => ?_)
    · refine a_bipush (w := 10) dX11_turnLine_28 (by decide) ?_
      refine a_aloadn dX11_turnLine_30 rfl ?_
      refine b_getI (j' := 17) dX11_turnLine_31 flX11_189 rfl rfl (L209 L) (fun hr31 => ?_)
      refine a_iadd dX11_turnLine_34 ?_
      refine c_istoren (ls' := [_, _]) dX11_turnLine_35 (by decide) rfl rfl ?_
      refine a_aloadn dX11_turnLine_36 rfl ?_
      refine a_getR (j' := 25) (y := 217) dX11_turnLine_37 flX11_36 rfl rfl (L209 L) (p209_25 hP) ?_
      refine a_iloadn dX11_turnLine_40 rfl ?_
      refine a_aloadn dX11_turnLine_41 rfl ?_
      refine b_getI (j' := 11) dX11_turnLine_42 flX11_173 rfl rfl (L209 L) (fun hr42 => ?_)
      refine a_iast (N := 20) dX11_turnLine_45 (L217 L) (by decide) (by decide) (by omega) (by omega) hr42 ?_
      refine a_aloadn dX11_turnLine_46 rfl ?_
      refine a_iconst dX11_turnLine_47 ?_
      refine a_bipush (w := 99) dX11_turnLine_48 (by decide) ?_
      have v2 := u2.resolve_left (by omega)
      have rta : RTk f n C2 (sm M2 217 (10 + M2 209 17) (M2 209 11)) := v2.2.2.1.of rfl rfl rfl rfl (fun i i0 i1 => by rw [sm_n (by decide)]) (sm_n (by decide)) (sm_n (by decide))
      refine a_anyV (as := [_, _]) (q := 209) dX11_turnLine_50 mvX11_182 ⟨by decide, by decide⟩ (L209 L) rfl rfl rfl (Nat.le_of_ble_eq_true rfl) ⟨rfl, rfl⟩ ⟨by decide, by decide⟩ (m_X11_number hP rta v2.2.1 ⟨by omega, by omega, by omega⟩) (fun x50 M3 hM3 => ?_)
      obtain ⟨C3, eC3⟩ : ∃ C3, C3 = tkM 0 99 C2 := ⟨_, rfl⟩
      obtain ⟨w1, w2⟩ := hM3
      rw [← eC3] at w2
      have F3 : FrX [217, 218, 219] 17 M M3 := (F2.row (k := 217) (by decide) _ _).tr (w1.frx [217, 218, 219] 17)
      refine a_if_ne (tgt := 58) dX11_turnLine_53 (by decide) ⟨by omega, by omega⟩ (fun hb53 => ?_) (fun hb53 => ?_)
      · refine a_aloadn dX11_turnLine_58 rfl ?_
        refine a_getR (j' := 26) (y := 218) dX11_turnLine_59 flX11_39 rfl rfl (L209 L) (p209_26 hP) ?_
        refine a_iloadn dX11_turnLine_62 rfl ?_
        refine a_aloadn dX11_turnLine_63 rfl ?_
        refine b_getI (j' := 11) dX11_turnLine_64 flX11_173 rfl rfl (L209 L) (fun hr64 => ?_)
        refine a_iast (N := 20) dX11_turnLine_67 (L218 L) (by decide) (by decide) (by omega) (by omega) hr64 ?_
        refine a_aloadn dX11_turnLine_68 rfl ?_
        refine a_iconst dX11_turnLine_69 ?_
        refine a_bipush (w := 99) dX11_turnLine_70 (by decide) ?_
        have v3 := w2.resolve_left (by omega)
        have rtb : RTk f n C3 (sm M3 218 (10 + M2 209 17) (M3 209 11)) := v3.2.2.1.of rfl rfl rfl rfl (fun i i0 i1 => by rw [sm_n (by decide)]) (sm_n (by decide)) (sm_n (by decide))
        refine a_anyV (as := [_, _]) (q := 209) dX11_turnLine_72 mvX11_182 ⟨by decide, by decide⟩ (L209 L) rfl rfl rfl (Nat.le_of_ble_eq_true rfl) ⟨rfl, rfl⟩ ⟨by decide, by decide⟩ (m_X11_number hP rtb v3.2.1 ⟨by omega, by omega, by omega⟩) (fun x72 M4 hM4 => ?_)
        obtain ⟨C4, eC4⟩ : ∃ C4, C4 = tkM 0 99 C3 := ⟨_, rfl⟩
        obtain ⟨y1, y2⟩ := hM4
        rw [← eC4] at y2
        have lr3 := lnV_in 0 99 (M := C2) (by decide)
        have lr4 := lnV_in 0 99 (M := C3) (by decide)
        have F4 : FrX [217, 218, 219] 17 M M4 := (F3.row (k := 218) (by decide) _ _).tr (y1.frx [217, 218, 219] 17)
        refine a_if_ne (tgt := 80) dX11_turnLine_75 (by decide) ⟨by omega, by omega⟩ (fun hb75 => ?_) (fun hb75 => ?_)
        · refine a_aloadn dX11_turnLine_80 rfl ?_
          refine a_getR (j' := 27) (y := 219) dX11_turnLine_81 flX11_42 rfl rfl (L209 L) (p209_27 hP) ?_
          refine a_iloadn dX11_turnLine_84 rfl ?_
          refine a_aloadn dX11_turnLine_85 rfl ?_
          refine b_getI (j' := 11) dX11_turnLine_86 flX11_173 rfl rfl (L209 L) (fun hr86 => ?_)
          refine a_iast (N := 20) dX11_turnLine_89 (L219 L) (by decide) (by decide) (by omega) (by omega) hr86 ?_
          refine a_aloadn dX11_turnLine_90 rfl ?_
          refine a_dupR dX11_turnLine_91 ?_
          refine b_getI (j' := 17) dX11_turnLine_92 flX11_189 rfl rfl (L209 L) (fun hr92 => ?_)
          rw [sm_n (show 209 ≠ 219 by decide)] at hr92
          rw [sm_n (show 209 ≠ 219 by decide)]
          have z92 : M4 209 17 = Mc t 6 := by rw [y1 209 17 (by omega), sm_n (by decide), w1 209 17 (by omega), sm_n (by decide)]; exact q17
          refine a_iconst dX11_turnLine_95 ?_
          refine a_iadd dX11_turnLine_96 ?_
          refine a_putI (j' := 17) dX11_turnLine_97 flX11_189 rfl rfl (L209 L) (by decide) rfl ⟨by omega, by omega⟩ ?_
          refine a_iconst dX11_turnLine_100 ?_
          have y4 := y2.resolve_left (by omega)
          have c2e : C2 = stT C1 := by
            have nc := nm_c (t := t) (b := 0) c0
            have z := v2.2.1
            have k2 : C1 43 9 = 2 := by
              apply Classical.byContradiction; intro a
              rw [eC2, nc, if_pos a, (flM_6 1 c0).1] at z; exact absurd z (by decide)
            rw [eC2, nc, if_neg (by omega), if_neg (by omega), if_neg (fun b => ?_)]
            rw [eC2, nc, if_neg (by omega), if_neg (by omega), if_pos b, (flM_6 4 c0).1] at z; exact absurd z (by decide)
          have k9 : C1 43 9 = 2 := by
            have nc := nm_c (t := t) (b := 0) c0
            have z := v2.2.1
            apply Classical.byContradiction; intro a
            rw [eC2, nc, if_pos a, (flM_6 1 c0).1] at z; exact absurd z (by decide)
          have c2n : ∀ k : Nat, k ≠ 43 → C2 k = Mc k := fun k hk => by rw [c2e, stT_n _ hk]; exact cn k hk
          have c4n : ∀ k : Nat, k ≠ 42 → k ≠ 43 → C4 k = Mc k := fun k a b => by rw [eC4, tkM_n _ _ _ a b, eC3, tkM_n _ _ _ a b]; exact c2n k b
          have g := rt_4 (t := t) (M := Mc) (M2 := C2) (M3 := C3) (M4 := C4) (by omega) (by rw [← eC1]; exact eC2) eC3 eC4
          rw [← eC1, if_neg (by omega), c4n t (by omega) (by omega)] at g
          have hv : hoT t C2 (tnV C1) = M2 209 11 := by
            have e9 : tnV C1 = C1 43 11 := by unfold tnV; rw [if_neg (by omega)]
            rw [e9, v2.2.2.2.1]; unfold hoT; rw [c2n (t + 1) (by omega), c2n t (by omega), cn (t + 1) (by omega), cn t (by omega)]
          have lv1 : lnV 0 99 C2 = M3 209 11 := v3.2.2.2.symm
          have lv2 : lnV 0 99 C3 = M4 209 11 := y4.2.2.2.symm
          rw [hv, lv1, lv2] at g
          obtain ⟨CX, eCX⟩ : ∃ CX, CX = rtM t Mc := ⟨_, rfl⟩
          rw [← eCX] at g ⊢
          have x0 : CX t 6 = Mc t 6 + 1 := by rw [g, sm_s]
          have xn : ∀ k : Nat, k ≠ t → k ≠ t + 4 → k ≠ t + 5 → k ≠ t + 6 → CX k = C4 k := fun k a b c d => by rw [g, sm_n a, sm_n d, sm_n c, sm_n b]
          have x1 : CX (t + 4) = us (Mc (t + 4)) (Mc t 6) (M2 209 11) := by rw [g, sm_n (by omega), sm_n (by omega), sm_n (by omega), sm_k, c4n _ (by omega) (by omega)]
          have x2 : CX (t + 5) = us (Mc (t + 5)) (Mc t 6) (M3 209 11) := by rw [g, sm_n (by omega), sm_n (by omega), sm_k, sm_n (by omega), c4n _ (by omega) (by omega)]
          have x3 : CX (t + 6) = us (Mc (t + 6)) (Mc t 6) (M4 209 11) := by rw [g, sm_n (by omega), sm_k, sm_n (by omega), sm_n (by omega), c4n _ (by omega) (by omega)]
          have m4r : M4 217 = us (M 217) (10 + Mc t 6) (M2 209 11) := by rw [y1.row (by decide), sm_n (by decide), w1.row (by decide), sm_k, q17, u1.row (by decide), fr1.row (by decide)]
          have m4s : M4 218 = us (M 218) (10 + Mc t 6) (M3 209 11) := by rw [y1.row (by decide), sm_k, q17, w1.row (by decide), sm_n (by decide), u1.row (by decide), fr1.row (by decide)]
          have m4t : M4 219 = M 219 := by rw [y1.row (by decide), sm_n (by decide), w1.row (by decide), sm_n (by decide), u1.row (by decide), fr1.row (by decide)]
          have e4 : M4 209 17 = Mc t 6 := by rw [y1 209 17 (by omega), sm_n (by decide), w1 209 17 (by omega), sm_n (by decide)]; exact q17
          rw [q17, e4]
          have rtz : RTk f n CX (sm (sm M4 219 (10 + Mc t 6) (M4 209 11)) 209 17 (Mc t 6 + 1)) := y4.2.2.1.of (xn _ (by omega) (by omega) (by omega) (by omega)) (xn _ (by omega) (by omega) (by omega) (by omega)) (xn _ (by omega) (by omega) (by omega) (by omega)) (xn _ (by omega) (by omega) (by omega) (by omega)) (fun i i0 i1 => by rw [sm_k, us_n (by omega), sm_n (by decide)]) (by rw [sm_n (by decide), sm_n (by decide)]) (by rw [sm_n (by decide), sm_n (by decide)])
          have hox : TuX t CX (sm (sm M4 219 (10 + Mc t 6) (M4 209 11)) 209 17 (Mc t 6 + 1)) := by
            refine ⟨by rw [sm_s, x0], by rw [x0]; omega, fun j j0 j1 => ?_⟩
            rw [x0] at j1
            rw [sm_n (by decide), sm_n (by decide), sm_n (by decide), sm_n (by decide), sm_n (by decide), sm_k, x1, x2, x3, m4r, m4s, m4t]
            by_cases ej : j = Mc t 6
            · rw [ej, us_s, us_s, us_s, us_s, us_s, us_s]; exact ⟨rfl, rfl, rfl⟩
            · rw [us_n (by omega), us_n ej, us_n (by omega), us_n ej, us_n (by omega), us_n ej]; exact hu.2.2 j j0 (by omega)
          exact a_zreturn dX11_turnLine_101 rfl rfl rfl (by omega) (zany_i ⟨(F4.row (by decide) _ _).cnt _, Or.inr ⟨rfl, by rw [g, sm_n (by omega), sm_n (by omega), sm_n (by omega), sm_n (by omega)]; exact y4.2.1, rtz, hox⟩⟩)
        · refine a_iconst dX11_turnLine_78 ?_
          have y4 := y2.resolve_right (by omega)
          have g := rt_4 (t := t) (M := Mc) (M2 := C2) (M3 := C3) (M4 := C4) (by omega) (by rw [← eC1]; exact eC2) eC3 eC4
          rw [if_pos y4.2.1] at g
          exact a_zreturn dX11_turnLine_79 rfl rfl rfl (by omega) (zany_i ⟨F4, Or.inl ⟨rfl, by rw [g]; exact y4.2.1, by rw [g]; exact y4.2.2⟩⟩)
      · refine a_iconst dX11_turnLine_56 ?_
        have v3 := w2.resolve_right (by omega)
        have g := rt_3 (t := t) (M := Mc) (by omega) (by rw [← eC1, ← eC2, ← eC3]; exact v3.2.1)
        rw [← eC1, ← eC2, ← eC3] at g
        exact a_zreturn dX11_turnLine_57 rfl rfl rfl (by omega) (zany_i ⟨F3, Or.inl ⟨rfl, by rw [g]; exact v3.2.1, by rw [g]; exact v3.2.2⟩⟩)
    · refine a_iconst dX11_turnLine_26 ?_
      have v2 := u2.resolve_right (by omega)
      have g := rt_2 (t := t) (M := Mc) (by omega) (by rw [← eC1, ← eC2]; exact v2.2.1)
      rw [← eC1, ← eC2] at g
      exact a_zreturn dX11_turnLine_27 rfl rfl rfl (by omega) (zany_i ⟨F2, Or.inl ⟨rfl, by rw [g]; exact v2.2.1, by rw [g]; exact v2.2.2⟩⟩)
  · refine a_aloadn dX11_turnLine_9 rfl ?_
    refine a_iconst dX11_turnLine_10 ?_
    refine a_callV (as := [_]) (q := 209) dX11_turnLine_11 mvX11_166 ⟨by decide, by decide⟩ (L209 L) rfl rfl rfl (Nat.le_of_ble_eq_true rfl) ⟨rfl, rfl⟩ ⟨by decide, by decide⟩ (m_X11_wrong ⟨by omega, by omega⟩) ?_
    have e14 := rt_1 (t := t) h0 (by omega)
    exact a_zreturn dX11_turnLine_14 rfl rfl rfl (by omega) (zany_i ⟨(((Fl.rf M).sm (by omega) _).sm (by omega) _).frx [217, 218, 219] 17, Or.inl ⟨rfl, by rw [e14, (flM_6 2 h0).1]; decide, by rw [e14]; exact wr_ft h0 t3⟩⟩)
