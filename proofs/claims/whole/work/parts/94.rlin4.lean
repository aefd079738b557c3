section ZRLS
theorem ln_ok {lo hi : Int} {M : zM} (h0 : M 42 6 = 0) (h : lnM lo hi M 42 6 = 0) : lnM lo hi M = M := by
  unfold lnM at h ⊢
  rw [if_neg (by omega)] at h ⊢
  by_cases a : M 43 9 ≠ 4
  · rw [if_pos a, (flM_6 1 h0).1] at h; exact absurd h (by decide)
  · rw [if_neg a] at h ⊢
    by_cases b : lo ≤ M 43 11 ∧ M 43 11 ≤ hi
    · rw [if_pos b]
    · rw [if_neg b, (flM_6 2 h0).1] at h; exact absurd h (by decide)
theorem tk_bad {lo hi : Int} {M : zM} (h : tkM lo hi M 42 6 ≠ 0) : tkM lo hi M = lnM lo hi M := by
  unfold tkM at h ⊢
  by_cases a : lnM lo hi M 42 6 = 0
  · rw [if_pos a, stT_n _ (by decide)] at h; exact absurd a h
  · rw [if_neg a]
theorem tk_ok {lo hi : Int} {M : zM} (h0 : M 42 6 = 0) (h : tkM lo hi M 42 6 = 0) : lnM lo hi M = M ∧ tkM lo hi M = stT M := by
  unfold tkM at h ⊢
  by_cases a : lnM lo hi M 42 6 = 0
  · have e := ln_ok h0 a
    rw [if_pos a, e]; exact ⟨rfl, rfl⟩
  · rw [if_neg a] at h; exact absurd h a
theorem nm_ok {t : Nat} {M : zM} (c0 : M 42 6 = 0) (z : nmM9 t 0 M 42 6 = 0) : nmM9 t 0 M = stT M ∧ M 43 9 = 2 := by
  have nc := nm_c (t := t) (b := 0) c0
  have k2 : M 43 9 = 2 := by
    apply Classical.byContradiction; intro a
    rw [nc, if_pos a, (flM_6 1 c0).1] at z; exact absurd z (by decide)
  refine ⟨?_, k2⟩
  rw [nc, if_neg (by omega), if_neg (by omega), if_neg (fun b => ?_)]
  rw [nc, if_neg (by omega), if_neg (by omega), if_pos b, (flM_6 4 c0).1] at z; exact absurd z (by decide)
theorem zs_0 {hs ts ks : Int → Int} {h x : Int} : ∀ (n : Nat) (i : Int), (∀ j : Int, i ≤ j → j < i + n → ¬ (hs j = h ∧ ts j = x)) → zsnd hs ts ks h x n i = 0
  | 0, i, _ => by simp only [zsnd]
  | n + 1, i, a => by
    simp only [zsnd]
    rw [if_neg (a i (by omega) (by omega))]
    exact zs_0 n (i + 1) (fun j b c => a j (by omega) (by omega))
theorem zs_n {hs ts ks : Int → Int} {h x j : Int} (hj : hs j = h ∧ ts j = x) : ∀ (n : Nat) (i : Int), (∀ j : Int, i ≤ j → j < i + n → 1 ≤ ks j) → i ≤ j → j < i + n → zsnd hs ts ks h x n i ≠ 0
  | 0, i, _, b, c => by omega
  | n + 1, i, a, b, c => by
    simp only [zsnd]
    by_cases e : hs i = h ∧ ts i = x
    · rw [if_pos e]; have := a i (by omega) (by omega); omega
    · rw [if_neg e]
      have : j ≠ i := fun q => e (by rw [← q]; exact hj)
      exact zs_n hj n (i + 1) (fun j b c => a j (by omega) (by omega)) (by omega) (by omega)
theorem rdM_of {t : Nat} {M M1 M2 M3 M4 M5 : zM} (e1 : lwM (M t 10) 12 M = M1) (e2 : nmM9 t 0 M1 = M2) (e3 : lnM 0 99 M2 = M3) (e4 : (if M3 42 6 = 0 ∧ sdT t M3 (hoT t M2 (tnV M1)) (lnV 0 99 M2) ≠ 0 then flM M3 3 else M3) = M4) (e5 : (if M4 42 6 = 0 then stT M4 else M4) = M5) : rdM t M = if tkM 1 9 M5 42 6 ≠ 0 then tkM 1 9 M5 else sm (sm (sm (sm (tkM 1 9 M5) (t + 7) (tkM 1 9 M5 t 10) (hoT t M2 (tnV M1))) (t + 8) (tkM 1 9 M5 t 10) (lnV 0 99 M2)) (t + 9) (tkM 1 9 M5 t 10) (lnV 1 9 M5)) t 10 (tkM 1 9 M5 t 10 + 1) := by
  unfold rdM
  simp only []
  rw [e1, e2, e3, e4, e5]
theorem rd_1 {t : Nat} {M : zM} (h0 : M 42 6 = 0) (h : ¬ M t 10 < 12) : rdM t M = flM M 2 := by
  have e : lwM (M t 10) 12 M = flM M 2 := by unfold lwM; rw [if_neg h]
  have f : flM M 2 42 6 ≠ 0 := by rw [(flM_6 2 h0).1]; decide
  have g : lnM 0 99 (flM M 2) = flM M 2 := by unfold lnM; rw [if_pos f]
  rw [rdM_of e (tn_ne f) g (if_neg (fun a => f a.1)) (if_neg f), tk_ne f, if_pos f]
theorem rd_2 {t : Nat} {M C : zM} (h : M t 10 < 12) (eC : C = nmM9 t 0 (stT M)) (f : C 42 6 ≠ 0) : rdM t M = C := by
  have e : lwM (M t 10) 12 M = stT M := by unfold lwM; rw [if_pos h]
  have g : lnM 0 99 C = C := by unfold lnM; rw [if_pos f]
  rw [rdM_of e eC.symm g (if_neg (fun a => f a.1)) (if_neg f), tk_ne f, if_pos f]
theorem rd_3 {t : Nat} {M C D : zM} (h : M t 10 < 12) (eC : C = nmM9 t 0 (stT M)) (eD : D = lnM 0 99 C) (f : D 42 6 ≠ 0) : rdM t M = D := by
  have e : lwM (M t 10) 12 M = stT M := by unfold lwM; rw [if_pos h]
  rw [rdM_of e eC.symm eD.symm (if_neg (fun a => f a.1)) (if_neg f), tk_ne f, if_pos f]
theorem rd_4 {t : Nat} {M C : zM} (h : M t 10 < 12) (eC : C = nmM9 t 0 (stT M)) (f : C 42 6 = 0) (eD : lnM 0 99 C = C) (es : sdT t C (hoT t C (tnV (stT M))) (lnV 0 99 C) ≠ 0) : rdM t M = flM C 3 := by
  have e : lwM (M t 10) 12 M = stT M := by unfold lwM; rw [if_pos h]
  have g : flM C 3 42 6 ≠ 0 := by rw [(flM_6 3 f).1]; decide
  rw [rdM_of e eC.symm eD (if_pos ⟨f, es⟩) (if_neg g), tk_ne g, if_pos g]
theorem rd_5 {t : Nat} {M C D : zM} (h : M t 10 < 12) (eC : C = nmM9 t 0 (stT M)) (f : C 42 6 = 0) (eD : lnM 0 99 C = C) (es : sdT t C (hoT t C (tnV (stT M))) (lnV 0 99 C) = 0) (eE : D = stT C) : rdM t M = if tkM 1 9 D 42 6 ≠ 0 then tkM 1 9 D else sm (sm (sm (sm (tkM 1 9 D) (t + 7) (tkM 1 9 D t 10) (hoT t C (tnV (stT M)))) (t + 8) (tkM 1 9 D t 10) (lnV 0 99 C)) (t + 9) (tkM 1 9 D t 10) (lnV 1 9 D)) t 10 (tkM 1 9 D t 10 + 1) := by
  have e : lwM (M t 10) 12 M = stT M := by unfold lwM; rw [if_pos h]
  exact rdM_of e eC.symm eD (if_neg (fun a => a.2 es)) ((if_pos f).trans eE.symm)
theorem lnV_ge {lo hi : Int} (M : zM) : lo ≤ lnV lo hi M := by
  unfold lnV
  by_cases a : M 42 6 = 0 ∧ M 43 9 = 4 ∧ lo ≤ M 43 11 ∧ M 43 11 ≤ hi
  · rw [if_pos a]; exact a.2.2.1
  · rw [if_neg a]; exact Int.le_refl _
end ZRLS

set_option maxRecDepth 100000 in
set_option maxHeartbeats 4000000 in
theorem lpX11_sl {G : zG} {l : Launch} {L : Nat} {P : zP} {M : zM} {Z : zZ} {N x2 : Int} (hP : PFok P) (hN : 0 ≤ N ∧ N < 12) (kk : (∀ j : Int, 12 ≤ j → j < 12 + N → ¬ (M 220 j = M 220 (12 + N) ∧ M 221 j = M 209 11)) → AW G l mdX11_soundLine Z 129 [some (aR 209), some (aI (12 + N)), some (aI x2), some (aI (12 + N))] [] (LAY L) P M 0 0) (kb : ∀ i : Int, 12 ≤ i → i < 12 + N → M 220 i = M 220 (12 + N) → M 221 i = M 209 11 → AW G l mdX11_soundLine Z 112 [some (aR 209), some (aI (12 + N)), some (aI x2), some (aI i)] [] (LAY L) P M 0 0) : ∀ (n : Nat) (i : Int) (g0 : 12 ≤ i) (g1 : i + n = 12 + N) (g2 : ∀ j : Int, 12 ≤ j → j < i → ¬ (M 220 j = M 220 (12 + N) ∧ M 221 j = M 209 11)), AW G l mdX11_soundLine Z 76 [some (aR 209), some (aI (12 + N)), some (aI x2), some (aI i)] [] (LAY L) P M 0 0 := by
  intro n
  induction n with
  | zero =>
    intro i g0 g1 g2
    refine a_iloadn dX11_soundLine_76 rfl ?_
    refine a_iloadn dX11_soundLine_77 rfl ?_
    refine a_icmp_ge (tgt := 129) dX11_soundLine_78 (by decide) ⟨by omega, by omega⟩ ⟨by omega, by omega⟩ (fun hb78 => ?_) (fun hb78 => ?_)
    · obtain rfl : i = 12 + N := by omega
      exact kk g2
    · exfalso; omega
  | succ n ih =>
    intro i g0 g1 g2
    refine a_iloadn dX11_soundLine_76 rfl ?_
    refine a_iloadn dX11_soundLine_77 rfl ?_
    refine a_icmp_ge (tgt := 129) dX11_soundLine_78 (by decide) ⟨by omega, by omega⟩ ⟨by omega, by omega⟩ (fun hb78 => ?_) (fun hb78 => ?_)
    · exfalso; omega
    · refine a_aloadn dX11_soundLine_81 rfl ?_
      refine a_getR (j' := 28) (y := 220) dX11_soundLine_82 flX11_45 rfl rfl (L209 L) (p209_28 hP) ?_
      refine a_iloadn dX11_soundLine_85 rfl ?_
      refine b_iald (N := 24) dX11_soundLine_86 (L220 L) (by decide) (by omega) (by omega) (fun hr86 => ?_)
      refine a_aloadn dX11_soundLine_87 rfl ?_
      refine a_getR (j' := 28) (y := 220) dX11_soundLine_88 flX11_45 rfl rfl (L209 L) (p209_28 hP) ?_
      refine a_iloadn dX11_soundLine_91 rfl ?_
      refine b_iald (N := 24) dX11_soundLine_92 (L220 L) (by decide) (by omega) (by omega) (fun hr92 => ?_)
      refine a_icmp_ne (tgt := 123) dX11_soundLine_93 (by decide) hr86 hr92 (fun hb93 => ?_) (fun hb93 => ?_)
      · refine c_iinc (ls' := [_, _, _, _]) dX11_soundLine_123 rfl (by decide) rfl rfl ?_
        refine a_goto (tgt := 76) dX11_soundLine_126 (by decide) ?_
        exact ih (i + 1) (by omega) (by omega) (fun j a b q => Decidable.byCases (fun e : j = i => by rw [e] at q; omega) (fun e => g2 j a (by omega) q))
      · refine a_aloadn dX11_soundLine_96 rfl ?_
        refine a_getR (j' := 29) (y := 221) dX11_soundLine_97 flX11_48 rfl rfl (L209 L) (p209_29 hP) ?_
        refine a_iloadn dX11_soundLine_100 rfl ?_
        refine b_iald (N := 24) dX11_soundLine_101 (L221 L) (by decide) (by omega) (by omega) (fun hr101 => ?_)
        refine a_aloadn dX11_soundLine_102 rfl ?_
        refine b_getI (j' := 11) dX11_soundLine_103 flX11_173 rfl rfl (L209 L) (fun hr103 => ?_)
        refine a_icmp_eq (tgt := 112) dX11_soundLine_106 (by decide) hr101 hr103 (fun hb106 => ?_) (fun hb106 => ?_)
        · exact kb i (by omega) (by omega) (by omega) (by omega)
        · refine a_goto (tgt := 123) dX11_soundLine_109 (by decide) ?_
          refine c_iinc (ls' := [_, _, _, _]) dX11_soundLine_123 rfl (by decide) rfl rfl ?_
          refine a_goto (tgt := 76) dX11_soundLine_126 (by decide) ?_
          exact ih (i + 1) (by omega) (by omega) (fun j a b q => Decidable.byCases (fun e : j = i => by rw [e] at q; omega) (fun e => g2 j a (by omega) q))

set_option maxRecDepth 100000 in
set_option maxHeartbeats 4000000 in
theorem tlX11_sl {G : zG} {l : Launch} {L : Nat} {P : zP} {f : Int → Int} {n : Int} {t : Nat} {Mc C3 CX M0 M : zM} {N hh xx y2 y3 : Int} (hP : PFok P) (tt : t = 4 ∨ t = 23) (rt3 : RTk f n C3 M) (c30 : C3 42 6 = 0) (c3n : ∀ k : Nat, k ≠ 42 → k ≠ 43 → C3 k = Mc k) (hN : N = Mc t 10) (hN2 : N < 12) (hu : SoX t Mc M0) (eCX : CX = if tkM 1 9 C3 42 6 ≠ 0 then tkM 1 9 C3 else sm (sm (sm (sm (tkM 1 9 C3) (t + 7) (tkM 1 9 C3 t 10) hh) (t + 8) (tkM 1 9 C3 t 10) xx) (t + 9) (tkM 1 9 C3 t 10) (lnV 1 9 C3)) t 10 (tkM 1 9 C3 t 10 + 1)) (F : FrX [220, 221, 222] 18 M0 M) (r0 : M 220 = us (M0 220) (12 + N) hh) (r1 : M 221 = us (M0 221) (12 + N) xx) (r2 : M 222 = M0 222) (r18 : M 209 18 = N) : AW G l mdX11_soundLine (zany (LAY L) P (fun r M' => FrX [220, 221, 222] 18 M0 M' ∧ LiR f n CX (SoX t CX) r M')) 129 [some (aR 209), some (aI (12 + N)), some (aI y2), some (aI y3)] [] (LAY L) P M 0 0 := by
  have h12 := hu.2.1
  refine a_aloadn dX11_soundLine_129 rfl ?_
  refine a_iconst dX11_soundLine_130 ?_
  refine a_bipush (w := 9) dX11_soundLine_131 (by decide) ?_
  refine a_anyV (as := [_, _]) (q := 209) dX11_soundLine_133 mvX11_182 ⟨by decide, by decide⟩ (L209 L) rfl rfl rfl (Nat.le_of_ble_eq_true rfl) ⟨rfl, rfl⟩ ⟨by decide, by decide⟩ (m_X11_number hP rt3 c30 ⟨by omega, by omega, by omega⟩) (fun x133 M4 hM4 => ?_)
  obtain ⟨C4, eC4⟩ : ∃ C4, C4 = tkM 1 9 C3 := ⟨_, rfl⟩
  obtain ⟨y1, y2⟩ := hM4
  rw [← eC4] at y2
  have F4 : FrX [220, 221, 222] 18 M0 M4 := F.tr (y1.frx [220, 221, 222] 18)
  refine a_if_ne (tgt := 141) dX11_soundLine_136 (by decide) ⟨by omega, by omega⟩ (fun hb136 => ?_) (fun hb136 => ?_)
  · refine a_aloadn dX11_soundLine_141 rfl ?_
    refine a_getR (j' := 30) (y := 222) dX11_soundLine_142 flX11_51 rfl rfl (L209 L) (p209_30 hP) ?_
    refine a_iloadn dX11_soundLine_145 rfl ?_
    refine a_aloadn dX11_soundLine_146 rfl ?_
    refine b_getI (j' := 11) dX11_soundLine_147 flX11_173 rfl rfl (L209 L) (fun hr147 => ?_)
    refine a_iast (N := 24) dX11_soundLine_150 (L222 L) (by decide) (by decide) (by omega) (by omega) hr147 ?_
    refine a_aloadn dX11_soundLine_151 rfl ?_
    refine a_dupR dX11_soundLine_152 ?_
    refine b_getI (j' := 18) dX11_soundLine_153 flX11_192 rfl rfl (L209 L) (fun hr153 => ?_)
    rw [sm_n (show 209 ≠ 222 by decide)] at hr153
    rw [sm_n (show 209 ≠ 222 by decide)]
    have z153 : M4 209 18 = N := by rw [y1 209 18 (by omega)]; exact r18
    refine a_iconst dX11_soundLine_156 ?_
    refine a_iadd dX11_soundLine_157 ?_
    refine a_putI (j' := 18) dX11_soundLine_158 flX11_192 rfl rfl (L209 L) (by decide) rfl ⟨by omega, by omega⟩ ?_
    refine a_iconst dX11_soundLine_161 ?_
    have y4 := y2.resolve_left (by omega)
    have c4n : ∀ k : Nat, k ≠ 42 → k ≠ 43 → C4 k = Mc k := fun k a b => by rw [eC4, tkM_n _ _ _ a b]; exact c3n k a b
    have g := eCX
    rw [← eC4, if_neg (by omega), c4n t (by omega) (by omega)] at g
    have lv2 : lnV 1 9 C3 = M4 209 11 := y4.2.2.2.symm
    have l1 := lnV_ge (lo := 1) (hi := 9) C3
    have l19 := lnV_in 1 9 (M := C3) (by decide)
    rw [lv2] at g
    have x0 : CX t 10 = Mc t 10 + 1 := by rw [g, sm_s]
    have xn : ∀ k : Nat, k ≠ t → k ≠ t + 7 → k ≠ t + 8 → k ≠ t + 9 → CX k = C4 k := fun k a b c d => by rw [g, sm_n a, sm_n d, sm_n c, sm_n b]
    have x1 : CX (t + 7) = us (Mc (t + 7)) (Mc t 10) hh := by rw [g, sm_n (by omega), sm_n (by omega), sm_n (by omega), sm_k, c4n _ (by omega) (by omega)]
    have x2 : CX (t + 8) = us (Mc (t + 8)) (Mc t 10) xx := by rw [g, sm_n (by omega), sm_n (by omega), sm_k, sm_n (by omega), c4n _ (by omega) (by omega)]
    have x3 : CX (t + 9) = us (Mc (t + 9)) (Mc t 10) (M4 209 11) := by rw [g, sm_n (by omega), sm_k, sm_n (by omega), sm_n (by omega), c4n _ (by omega) (by omega)]
    have m4r : M4 220 = us (M0 220) (12 + Mc t 10) hh := by rw [y1.row (by decide), r0, hN]
    have m4s : M4 221 = us (M0 221) (12 + Mc t 10) xx := by rw [y1.row (by decide), r1, hN]
    have m4t : M4 222 = M0 222 := by rw [y1.row (by decide), r2]
    rw [z153, hN]
    have rtz : RTk f n CX (sm (sm M4 222 (12 + Mc t 10) (M4 209 11)) 209 18 (Mc t 10 + 1)) := y4.2.2.1.of (xn _ (by omega) (by omega) (by omega) (by omega)) (xn _ (by omega) (by omega) (by omega) (by omega)) (xn _ (by omega) (by omega) (by omega) (by omega)) (xn _ (by omega) (by omega) (by omega) (by omega)) (fun i i0 i1 => by rw [sm_k, us_n (by omega), sm_n (by decide)]) (by rw [sm_n (by decide), sm_n (by decide)]) (by rw [sm_n (by decide), sm_n (by decide)])
    have hox : SoX t CX (sm (sm M4 222 (12 + Mc t 10) (M4 209 11)) 209 18 (Mc t 10 + 1)) := by
      refine ⟨by rw [sm_s, x0], by rw [x0]; omega, fun j j0 j1 => ?_⟩
      rw [x0] at j1
      rw [sm_n (by decide), sm_n (by decide), sm_n (by decide), sm_n (by decide), sm_n (by decide), sm_k, x1, x2, x3, m4r, m4s, m4t]
      by_cases ej : j = Mc t 10
      · rw [ej, us_s, us_s, us_s, us_s, us_s, us_s]; exact ⟨rfl, rfl, rfl, by omega⟩
      · rw [us_n (by omega), us_n ej, us_n (by omega), us_n ej, us_n (by omega), us_n ej]; exact hu.2.2 j j0 (by omega)
    exact a_zreturn dX11_soundLine_162 rfl rfl rfl (by omega) (zany_i ⟨(F4.row (by decide) _ _).cnt _, Or.inr ⟨rfl, by rw [g, sm_n (by omega), sm_n (by omega), sm_n (by omega), sm_n (by omega)]; exact y4.2.1, rtz, hox⟩⟩)
  · refine a_iconst dX11_soundLine_139 ?_
    have y4 := y2.resolve_right (by omega)
    have g := eCX
    rw [← eC4, if_pos y4.2.1] at g
    exact a_zreturn dX11_soundLine_140 rfl rfl rfl (by omega) (zany_i ⟨F4, Or.inl ⟨rfl, by rw [g]; exact y4.2.1, by rw [g]; exact y4.2.2⟩⟩)

set_option maxRecDepth 100000 in
set_option maxHeartbeats 4000000 in
theorem tbX11_sl {G : zG} {l : Launch} {L : Nat} {P : zP} {f : Int → Int} {n : Int} {t : Nat} {C2 CX M0 M : zM} {y1 y3 p : Int} (hP : PFok P) (tt : t = 4 ∨ t = 23) (c20 : C2 42 6 = 0) (hp : p = C2 43 10) (F : FrX [220, 221, 222] 18 M0 M) (eCX : CX = flM C2 3) (hpr : inR p) : AW G l mdX11_soundLine (zany (LAY L) P (fun r M' => FrX [220, 221, 222] 18 M0 M' ∧ LiR f n CX (SoX t CX) r M')) 112 [some (aR 209), some (aI y1), some (aI p), some (aI y3)] [] (LAY L) P M 0 0 := by
  refine a_aloadn dX11_soundLine_112 rfl ?_
  refine a_iloadn dX11_soundLine_113 rfl ?_
  refine a_putI (j' := 10) dX11_soundLine_114 flX11_133 rfl rfl (L209 L) (by decide) rfl hpr ?_
  refine a_aloadn dX11_soundLine_117 rfl ?_
  refine a_iconst dX11_soundLine_118 ?_
  refine a_callV (as := [_]) (q := 209) dX11_soundLine_119 mvX11_166 ⟨by decide, by decide⟩ (L209 L) rfl rfl rfl (Nat.le_of_ble_eq_true rfl) ⟨rfl, rfl⟩ ⟨by decide, by decide⟩ (m_X11_wrong ⟨by omega, by omega⟩) ?_
  exact a_zreturn dX11_soundLine_122 rfl rfl rfl (by omega) (zany_i ⟨F.tr (((((Fl.rf M).sm (by omega) _).sm (by omega) _).sm (by omega) _).frx [220, 221, 222] 18), Or.inl ⟨rfl, by rw [eCX, (flM_6 3 c20).1]; decide, by rw [eCX]; exact wr_ft c20 (by rw [sm_s]; exact hp)⟩⟩)

set_option maxRecDepth 100000 in
set_option maxHeartbeats 4000000 in
theorem m_X11_soundLine {G : zG} {l : Launch} {L : Nat} {P : zP} {M : zM} {f : Int → Int} {n : Int} {t : Nat} {Mc : zM} (hP : PFok P) (ht : RTk f n Mc M) (h0 : Mc 42 6 = 0) (hs : Mc 43 9 ≠ 0) (tt : t = 4 ∨ t = 23) (hh : HoR t Mc M) (hu : SoX t Mc M) : AM G l yX11_soundLine mdX11_soundLine [aR 209] (LAY L) P M (zany (LAY L) P (fun r M' => FrX [220, 221, 222] 18 M M' ∧ LiR f n (rdM t Mc) (SoX t (rdM t Mc)) r M')) := by
  have t3 := ht.2.2.1
  have tn := ht.nx
  have t5 := ht.2.2.2.2.1
  have t6 := ht.2.2.2.2.2
  have h18 := hu.1
  have h12 := hu.2.1
  refine AM.go [some (aR 209), none, none, none] rfl (Nat.le_of_ble_eq_true rfl) ?_ (by decide) rfl rfl
  refine a_aloadn dX11_soundLine_0 rfl ?_
  refine b_getI (j' := 18) dX11_soundLine_1 flX11_192 rfl rfl (L209 L) (fun hr1 => ?_)
  refine a_bipush (w := 12) dX11_soundLine_4 (by decide) ?_
  refine a_icmp_ne (tgt := 15) dX11_soundLine_6 (by decide) ⟨by omega, by omega⟩ ⟨by omega, by omega⟩ (fun hb6 => ?_) (fun hb6 => ?_)
  · refine a_aloadn dX11_soundLine_15 rfl ?_
    refine a_relVv (as := []) (q := 209) dX11_soundLine_16 mvX11_176 ⟨by decide, by decide⟩ (L209 L) rfl rfl rfl (Nat.le_of_ble_eq_true rfl) ⟨rfl, rfl⟩ ⟨by decide, by decide⟩ (m_X11_token hP (by rw [ht.2.2.2.2.1.1]; exact ht.2.2.2.2.1.2.2) ht.2.2.2.2.2 ht.nx) (fun M1 hM1 => ?_)
    obtain ⟨C1, eC1⟩ : ∃ C1, C1 = stT Mc := ⟨_, rfl⟩
    have tsM1 : TkR f n (M 209 7) M M1 := by rw [ht.2.2.2.2.1.1, ht.2.2.2.2.1.2.1] at hM1; exact hM1
    have rt1 : RTk f n C1 M1 := by rw [eC1]; exact ht.step hs tsM1
    have c0 : C1 42 6 = 0 := by rw [eC1, stT_n _ (by decide)]; exact h0
    have cn : ∀ k : Nat, k ≠ 43 → C1 k = Mc k := fun k hk => by rw [eC1, stT_n _ hk]
    have fr1 := tsM1.2.2.2
    have hhc : HoR t C1 M1 := hh.of (by rw [cn t (by omega)]) (cn _ (by omega)) (fr1 209 16 (by omega)) (fr1.row (by decide))
    have F1 := (tsM1.2.2.2.fl).frx [220, 221, 222] 18
    refine a_aloadn dX11_soundLine_19 rfl ?_
    refine a_anyV (as := []) (q := 209) dX11_soundLine_20 mvX11_224 ⟨by decide, by decide⟩ (L209 L) rfl rfl rfl (Nat.le_of_ble_eq_true rfl) ⟨rfl, rfl⟩ ⟨by decide, by decide⟩ (m_X11_houseThere hP rt1 c0 hhc) (fun x20 M2 hM2 => ?_)
    obtain ⟨C2, eC2⟩ : ∃ C2, C2 = nmM9 t 0 C1 := ⟨_, rfl⟩
    obtain ⟨u1, u2⟩ := hM2
    rw [← eC2] at u2
    have F2 := F1.tr (u1.frx [220, 221, 222] 18)
    have q18 : M2 209 18 = Mc t 10 := by rw [u1 209 18 (by omega), fr1 209 18 (by omega)]; exact h18
    refine a_if_ne (tgt := 28) dX11_soundLine_23 (by decide) ⟨by omega, by omega⟩ (fun hb23 => ?_) (fun hb23 => ?_)
    · refine a_bipush (w := 12) dX11_soundLine_28 (by decide) ?_
      refine a_aloadn dX11_soundLine_30 rfl ?_
      refine b_getI (j' := 18) dX11_soundLine_31 flX11_192 rfl rfl (L209 L) (fun hr31 => ?_)
      refine a_iadd dX11_soundLine_34 ?_
      refine c_istoren (ls' := [_, _, _, _]) dX11_soundLine_35 (by decide) rfl rfl ?_
      refine a_aloadn dX11_soundLine_36 rfl ?_
      refine a_getR (j' := 28) (y := 220) dX11_soundLine_37 flX11_45 rfl rfl (L209 L) (p209_28 hP) ?_
      refine a_iloadn dX11_soundLine_40 rfl ?_
      refine a_aloadn dX11_soundLine_41 rfl ?_
      refine b_getI (j' := 11) dX11_soundLine_42 flX11_173 rfl rfl (L209 L) (fun hr42 => ?_)
      refine a_iast (N := 24) dX11_soundLine_45 (L220 L) (by decide) (by decide) (by omega) (by omega) hr42 ?_
      refine a_aloadn dX11_soundLine_46 rfl ?_
      refine b_getI (j' := 10) dX11_soundLine_47 flX11_133 rfl rfl (L209 L) (fun hr47 => ?_)
      rw [sm_n (show 209 ≠ 220 by decide)] at hr47
      refine c_istoren (ls' := [_, _, _, _]) dX11_soundLine_50 (by decide) rfl rfl ?_
      refine a_aloadn dX11_soundLine_51 rfl ?_
      refine a_iconst dX11_soundLine_52 ?_
      refine a_bipush (w := 99) dX11_soundLine_53 (by decide) ?_
      have v2 := u2.resolve_left (by omega)
      have rta : RTk f n C2 (sm M2 220 (12 + M2 209 18) (M2 209 11)) := v2.2.2.1.of rfl rfl rfl rfl (fun i i0 i1 => by rw [sm_n (by decide)]) (sm_n (by decide)) (sm_n (by decide))
      refine a_anyV (as := [_, _]) (q := 209) dX11_soundLine_55 mvX11_182 ⟨by decide, by decide⟩ (L209 L) rfl rfl rfl (Nat.le_of_ble_eq_true rfl) ⟨rfl, rfl⟩ ⟨by decide, by decide⟩ (m_X11_number hP rta v2.2.1 ⟨by omega, by omega, by omega⟩) (fun x55 M3 hM3 => ?_)
      obtain ⟨C3, eC3⟩ : ∃ C3, C3 = tkM 0 99 C2 := ⟨_, rfl⟩
      obtain ⟨w1, w2⟩ := hM3
      rw [← eC3] at w2
      have F3 : FrX [220, 221, 222] 18 M M3 := (F2.row (k := 220) (by decide) _ _).tr (w1.frx [220, 221, 222] 18)
      refine a_if_ne (tgt := 63) dX11_soundLine_58 (by decide) ⟨by omega, by omega⟩ (fun hb58 => ?_) (fun hb58 => ?_)
      · refine a_aloadn dX11_soundLine_63 rfl ?_
        refine a_getR (j' := 29) (y := 221) dX11_soundLine_64 flX11_48 rfl rfl (L209 L) (p209_29 hP) ?_
        refine a_iloadn dX11_soundLine_67 rfl ?_
        refine a_aloadn dX11_soundLine_68 rfl ?_
        refine b_getI (j' := 11) dX11_soundLine_69 flX11_173 rfl rfl (L209 L) (fun hr69 => ?_)
        refine a_iast (N := 24) dX11_soundLine_72 (L221 L) (by decide) (by decide) (by omega) (by omega) hr69 ?_
        refine a_bipush (w := 12) dX11_soundLine_73 (by decide) ?_
        refine c_istoren (ls' := [_, _, _, _]) dX11_soundLine_75 (by decide) rfl rfl ?_
        have v3 := w2.resolve_left (by omega)
        have ok2 := nm_ok (t := t) c0 (by rw [← eC2]; exact v2.2.1)
        rw [← eC2] at ok2
        have ok3 := tk_ok (lo := 0) (hi := 99) v2.2.1 (by rw [← eC3]; exact v3.2.1)
        rw [← eC3] at ok3
        have c2n : ∀ k : Nat, k ≠ 43 → C2 k = Mc k := fun k hk => by rw [ok2.1, stT_n _ hk]; exact cn k hk
        have c3n : ∀ k : Nat, k ≠ 42 → k ≠ 43 → C3 k = Mc k := fun k a b => by rw [ok3.2, stT_n _ b]; exact c2n k b
        have hv : hoT t C2 (tnV C1) = M2 209 11 := by
          have e9 : tnV C1 = C1 43 11 := by unfold tnV; rw [if_neg (by omega)]
          rw [e9, v2.2.2.2.1]; unfold hoT; rw [c2n (t + 1) (by omega), c2n t (by omega), cn (t + 1) (by omega), cn t (by omega)]
        have lv : lnV 0 99 C2 = M3 209 11 := v3.2.2.2.symm
        have l099 := lnV_in 0 99 (M := C2) (by decide)
        have m0 : M3 220 = us (M 220) (12 + Mc t 10) (M2 209 11) := by rw [w1.row (by decide), sm_k, q18, u1.row (by decide), fr1.row (by decide)]
        have m1 : M3 221 = M 221 := by rw [w1.row (by decide), sm_n (by decide), u1.row (by decide), fr1.row (by decide)]
        have m2 : M3 222 = M 222 := by rw [w1.row (by decide), sm_n (by decide), u1.row (by decide), fr1.row (by decide)]
        have m18 : M3 209 18 = Mc t 10 := by rw [w1 209 18 (by omega), sm_n (by decide)]; exact q18
        have at2 : M2 209 10 = C2 43 10 := v2.2.2.1.2.2.1
        rw [q18, sm_n (show 209 ≠ 220 by decide)]
        have rt3 : RTk f n C3 (sm M3 221 (12 + Mc t 10) (M3 209 11)) := v3.2.2.1.of rfl rfl rfl rfl (fun i i0 i1 => by rw [sm_n (by decide)]) (sm_n (by decide)) (sm_n (by decide))
        have F4 : FrX [220, 221, 222] 18 M (sm M3 221 (12 + Mc t 10) (M3 209 11)) := F3.row (by decide) _ _
        have sdN : ∀ j : Int, 0 ≤ j → j < Mc t 10 → M3 220 (12 + j) = Mc (t + 7) j ∧ M 221 (12 + j) = Mc (t + 8) j ∧ 1 ≤ Mc (t + 9) j := fun j a b => by
          rw [m0, us_n (by omega)]; have z := hu.2.2 j a b; exact ⟨z.1, z.2.1, z.2.2.2⟩
        have sdT2 : sdT t C2 (hoT t C2 (tnV C1)) (lnV 0 99 C2) = zsnd (Mc (t + 7)) (Mc (t + 8)) (Mc (t + 9)) (M2 209 11) (M3 209 11) (Mc t 10).toNat 0 := by
          unfold sdT; rw [hv, lv, c2n (t + 7) (by omega), c2n (t + 8) (by omega), c2n (t + 9) (by omega), c2n t (by omega)]
        refine lpX11_sl hP ⟨by omega, by omega⟩ (fun hno => ?_) (fun i i0 i1 ea eb => ?_) (Mc t 10).toNat 12 (by omega) (by omega) (fun j a b => by omega)
        · have s0 : sdT t C2 (hoT t C2 (tnV C1)) (lnV 0 99 C2) = 0 := by
            rw [sdT2]
            refine zs_0 _ _ (fun j a b q => hno (12 + j) (by omega) (by omega) ?_)
            have z := sdN j a (by omega)
            simp only [sm_n (show (220 : Nat) ≠ 221 by decide), sm_k, sm_n (show (209 : Nat) ≠ 221 by decide)]
            rw [us_n (by omega), m1, z.1, z.2.1, m0, us_s]; exact q
          have g := rd_5 (t := t) (M := Mc) (by omega) (by rw [← eC1]; exact eC2) v2.2.1 ok3.1 (by rw [← eC1]; exact s0) ok3.2
          rw [← eC1, hv, lv] at g
          exact tlX11_sl hP tt rt3 v3.2.1 c3n rfl (by omega) hu g F4 (by rw [sm_n (by decide)]; exact m0) (by rw [sm_k, m1]) (by rw [sm_n (by decide)]; exact m2) (by rw [sm_n (by decide)]; exact m18)
        · rw [sm_n (show (220 : Nat) ≠ 221 by decide), m0, us_s, ← m0] at ea
          rw [sm_k, us_n (by omega), sm_n (by decide), m1] at eb
          have s0 : sdT t C2 (hoT t C2 (tnV C1)) (lnV 0 99 C2) ≠ 0 := by
            have z := sdN (i - 12) (by omega) (by omega)
            rw [show 12 + (i - 12) = i by omega] at z
            rw [sdT2]
            exact zs_n (j := i - 12) ⟨by rw [← z.1]; exact ea, by rw [← z.2.1]; exact eb⟩ _ _ (fun j a b => (sdN j a (by omega)).2.2) (by omega) (by omega)
          have g := rd_4 (t := t) (M := Mc) (by omega) (by rw [← eC1]; exact eC2) v2.2.1 ok3.1 (by rw [← eC1]; exact s0)
          refine tbX11_sl hP tt v2.2.1 at2 F4 g hr47
      · refine a_iconst dX11_soundLine_61 ?_
        have v3 := w2.resolve_right (by omega)
        have tb := tk_bad (lo := 0) (hi := 99) (M := C2) (by rw [← eC3]; exact v3.2.1)
        rw [← eC3] at tb
        have g := rd_3 (t := t) (M := Mc) (by omega) (by rw [← eC1]; exact eC2) tb v3.2.1
        exact a_zreturn dX11_soundLine_62 rfl rfl rfl (by omega) (zany_i ⟨F3, Or.inl ⟨rfl, by rw [g]; exact v3.2.1, by rw [g]; exact v3.2.2⟩⟩)
    · refine a_iconst dX11_soundLine_26 ?_
      have v2 := u2.resolve_right (by omega)
      have g := rd_2 (t := t) (M := Mc) (by omega) (by rw [← eC1]; exact eC2) v2.2.1
      exact a_zreturn dX11_soundLine_27 rfl rfl rfl (by omega) (zany_i ⟨F2, Or.inl ⟨rfl, by rw [g]; exact v2.2.1, by rw [g]; exact v2.2.2⟩⟩)
  · refine a_aloadn dX11_soundLine_9 rfl ?_
    refine a_iconst dX11_soundLine_10 ?_
    refine a_callV (as := [_]) (q := 209) dX11_soundLine_11 mvX11_166 ⟨by decide, by decide⟩ (L209 L) rfl rfl rfl (Nat.le_of_ble_eq_true rfl) ⟨rfl, rfl⟩ ⟨by decide, by decide⟩ (m_X11_wrong ⟨by omega, by omega⟩) ?_
    have e14 := rd_1 (t := t) h0 (by omega)
    exact a_zreturn dX11_soundLine_14 rfl rfl rfl (by omega) (zany_i ⟨(((Fl.rf M).sm (by omega) _).sm (by omega) _).frx [220, 221, 222] 18, Or.inl ⟨rfl, by rw [e14, (flM_6 2 h0).1]; decide, by rw [e14]; exact wr_ft h0 t3⟩⟩)
