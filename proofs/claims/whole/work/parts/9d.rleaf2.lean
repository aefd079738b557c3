section ZRLH
theorem la_x (w : Nat) (x : Int) (M : zM) {k : Nat} (a : k ≠ w) (b : k ≠ w + 1) : laM w x M k = M k := by
  unfold laM
  split
  · rw [sm_n a, sm_n b]
  · rfl
end ZRLH

set_option maxRecDepth 100000 in
set_option maxHeartbeats 4000000 in
theorem tcAX11_leafRead {G : zG} {l : Launch} {L : Nat} {P : zP} {f : Int → Int} {n : Int} {t w : Nat} {F : Int} {Mc : zM} {M : zM} {Z : zZ} {x : Int} (hP : PFok P) (ht : RTk f n Mc M) (h0 : Mc 42 6 = 0) (tt : t = 4 ∨ t = 23) (hwt : w = t + 13 ∨ w = t + 15 ∨ w = t + 17) (hv : LvI t w Mc) (hq : LQ t w F Mc M) (hw : LWt Mc M) (eZ : Z = zany (LAY L) P (fun r M' => FrL F M M' ∧ LfR f n t w F Mc r M')) (ia : iaV Mc = 0) (hx : x = M 209 9 - 14 ∧ M 209 8 = 1 ∧ 14 ≤ M 209 9) : AW G l mdX11_leafRead Z 129 [some (aR 209), some (aI x)] [] (LAY L) P M 0 0 := by
  have t3 := ht.2.2.1
  have t4 := ht.2.2.2.1
  unfold TKq at t4
  have tn := ht.nx
  have t5 := ht.2.2.2.2.1
  have t6 := ht.2.2.2.2.2
  obtain ⟨lx, hF, hc⟩ := id hq
  obtain ⟨w3, w40, w44⟩ := id hw
  have x39 := lx.1.1
  have x41 := lx.2.1
  have x42 := lx.2.2.1
  have x19 := lx.2.2.2.1
  obtain ⟨v1, v2, v3, v4, v5⟩ := id hv
  have v6 := (v5 h0).2
  have v7 := v3.1
  have v8 := v3.2.2
  have zi := nzc_in (M 229) (M 209 39).toNat
  have bi := nbc_in (M 229) (M 209 39).toNat
  have tw : t < 41 ∧ w + 1 < 42 ∧ w ≠ t ∧ w + 1 ≠ t := by omega
  refine a_aloadn dX11_leafRead_129 rfl ?_
  refine a_anyV (as := []) (q := 209) dX11_leafRead_130 mvX11_278 ⟨by decide, by decide⟩ (L209 L) rfl rfl rfl (Nat.le_of_ble_eq_true rfl) ⟨rfl, rfl⟩ ⟨by decide, by decide⟩ (m_isCt1 (by omega)) (fun x130 M130 hM130 => ?_)
  have elf : lfM t w Mc = laM w (10000 + Mc 43 11 - 14) (tcM t Mc) := by
    unfold lfM
    rw [if_neg (by omega), if_pos ⟨by omega, by omega⟩]
  refine a_if_ne (tgt := 138) dX11_leafRead_133 (by decide) ⟨by omega, by omega⟩ (fun hb133 => ?_) (fun hb133 => ?_)
  · refine a_aloadn dX11_leafRead_138 rfl ?_
    obtain ⟨_, c130, rfl⟩ := hM130.resolve_left (by omega)
    refine a_iloadn dX11_leafRead_139 rfl ?_
    refine a_if_lt (tgt := 147) dX11_leafRead_140 (by decide) ⟨by omega, by omega⟩ (fun hb140 => ?_) (fun hb140 => ?_)
    · exfalso; omega
    · refine a_iconst dX11_leafRead_143 ?_
      refine a_goto (tgt := 148) dX11_leafRead_144 (by decide) ?_
      refine a_iloadn dX11_leafRead_148 rfl ?_
      refine a_if_lt (tgt := 156) dX11_leafRead_149 (by decide) ⟨by omega, by omega⟩ (fun hb149 => ?_) (fun hb149 => ?_)
      · exfalso; omega
      · refine a_iloadn dX11_leafRead_152 rfl ?_
        refine a_goto (tgt := 160) dX11_leafRead_153 (by decide) ?_
        refine a_iconst dX11_leafRead_160 ?_
        refine a_callVv (as := [_, _, _]) (q := 209) dX11_leafRead_161 mvX11_260 ⟨by decide, by decide⟩ (L209 L) rfl rfl rfl (Nat.le_of_ble_eq_true rfl) ⟨rfl, rfl⟩ ⟨by decide, by decide⟩ (m_X11_grown hP ⟨by omega, by omega⟩ ⟨by omega, by omega⟩ ⟨by omega, by omega⟩ (by rw [sm_k, us_n (by decide)]; omega) (by rw [sm_k, us_n (by decide)]; omega)) ?_
        refine a_aloadn dX11_leafRead_164 rfl ?_
        refine a_iconst dX11_leafRead_165 ?_
        refine a_putZ (j' := 43) dX11_leafRead_166 flX11_284 rfl rfl (L209 L) (by decide) rfl (by omega) ?_
        refine a_aloadn dX11_leafRead_169 rfl ?_
        obtain ⟨N0, eN0⟩ : ∃ N0, N0 = sm (gwM 1 x 0 (sm M 209 42 (M 209 42 + 1))) 209 43 0 := ⟨_, rfl⟩
        have rtN : RTk f n (sm Mc t 1 (Mc t 1 + 1)) N0 := ht.of (sm_n (by omega)) (sm_n (by omega)) (sm_n (by omega)) (sm_n (by omega)) (fun i i0 i1 => by rw [eN0, sm_k, us_n (by omega)]; unfold gwM; rw [sm_k, us_n (by omega), sm_k, us_n (by omega), sm_n (by decide), sm_n (by decide), sm_n (by decide), sm_n (by decide), sm_k, us_n (by omega)]) (by rw [eN0]; unfold gwM; simp (disch := decide) only [sm_n, sm_k, us_s, us_n]) (by rw [eN0]; unfold gwM; simp (disch := decide) only [sm_n, sm_k, us_s, us_n])
        refine a_relVv (as := []) (q := 209) dX11_leafRead_170 mvX11_176 ⟨by decide, by decide⟩ (L209 L) rfl rfl rfl (Nat.le_of_ble_eq_true rfl) ⟨rfl, rfl⟩ ⟨by decide, by decide⟩ (by have z := m_X11_token (G := G) (l := l) (L := L) hP (by rw [rtN.2.2.2.2.1.1]; exact rtN.2.2.2.2.1.2.2) rtN.2.2.2.2.2 rtN.nx; rw [eN0] at z; exact z) (fun M1 hM1 => ?_)
        rw [← eN0] at hM1
        have ts : TkR f n (N0 209 7) N0 M1 := by rw [rtN.2.2.2.2.1.1, rtN.2.2.2.2.1.2.1] at hM1; exact hM1
        have fr := ts.2.2.2
        refine a_iconst dX11_leafRead_173 ?_
        have l3 := lf_3 (x := (10000 + Mc 43 11 - 14)) (k := 1) (a := x) tw hq hw ⟨by omega, by omega⟩ (by omega) (by omega)
        rw [← eN0] at l3
        have eC : lfM t w Mc = laM w (10000 + Mc 43 11 - 14) (stT (sm Mc t 1 (Mc t 1 + 1))) := by rw [elf]; unfold tcM; rw [if_pos (by omega)]
        have rt1 := rtN.step (by rw [sm_n (by omega)]; omega) ts
        have rt2 : RTk f n (laM w (10000 + Mc 43 11 - 14) (stT (sm Mc t 1 (Mc t 1 + 1)))) M1 := rt1.of (la_x _ _ _ (by omega) (by omega)) (la_x _ _ _ (by omega) (by omega)) (la_x _ _ _ (by omega) (by omega)) (la_x _ _ _ (by omega) (by omega)) (fun _ _ _ => rfl) rfl rfl
        have F1 : FrL F M M1 := ((((FrL.rf F M).sm (i := 42) (by omega) (M 209 42 + 1)).gw 1 x 0 (by rw [sm_k, us_n (by decide)]; omega)).sm (i := 43) (by omega) 0).tr (by rw [← eN0]; exact (fr.fl).frl F)
        have z6 : laM w (10000 + Mc 43 11 - 14) (stT (sm Mc t 1 (Mc t 1 + 1))) 42 6 = 0 := by rw [la_x _ _ _ (by omega) (by omega), stT_n _ (by decide), sm_n (by omega)]; exact h0
        exact a_zreturn dX11_leafRead_174 rfl rfl rfl (by omega) (by rw [eZ]; exact zany_i ⟨F1, Or.inr ⟨ia, Or.inr ⟨rfl, by rw [eC]; exact z6, by rw [eC]; exact rt2, by rw [eC]; exact (l3.1.tok fr ⟨tw.1, tw.2.1⟩).cg ⟨tw.1, tw.2.1⟩ (fun k hk => la_st (by omega) hk), l3.2.tok fr⟩⟩⟩)
  · refine a_iconst dX11_leafRead_136 ?_
    obtain ⟨_, c130, rfl⟩ := hM130.resolve_right (by omega)
    have eC : lfM t w Mc = laM w (10000 + Mc 43 11 - 14) (flM Mc 2) := by rw [elf]; unfold tcM; rw [if_neg (by omega)]
    exact a_zreturn dX11_leafRead_137 rfl rfl rfl (by omega) (by rw [eZ]; exact zany_i ⟨((FrL.rf F M).sm (by omega) _).sm (by omega) _, Or.inr ⟨ia, Or.inl ⟨rfl, by rw [eC, la_x _ _ _ (by omega) (by omega), (flM_6 2 h0).1]; decide, by rw [eC]; exact ft_la tw.2.1 _ (wr_ft h0 t3)⟩⟩⟩)

set_option maxRecDepth 100000 in
set_option maxHeartbeats 4000000 in
theorem tcBX11_leafRead {G : zG} {l : Launch} {L : Nat} {P : zP} {f : Int → Int} {n : Int} {t w : Nat} {F : Int} {Mc : zM} {M : zM} {Z : zZ} {x : Int} (hP : PFok P) (ht : RTk f n Mc M) (h0 : Mc 42 6 = 0) (tt : t = 4 ∨ t = 23) (hwt : w = t + 13 ∨ w = t + 15 ∨ w = t + 17) (hv : LvI t w Mc) (hq : LQ t w F Mc M) (hw : LWt Mc M) (eZ : Z = zany (LAY L) P (fun r M' => FrL F M M' ∧ LfR f n t w F Mc r M')) (ia : iaV Mc = 0) (hx : x = -1 ∧ M 209 8 = 3 ∧ M 209 9 ≤ 9999) : AW G l mdX11_leafRead Z 129 [some (aR 209), some (aI x)] [] (LAY L) P M 0 0 := by
  have t3 := ht.2.2.1
  have t4 := ht.2.2.2.1
  unfold TKq at t4
  have tn := ht.nx
  have t5 := ht.2.2.2.2.1
  have t6 := ht.2.2.2.2.2
  obtain ⟨lx, hF, hc⟩ := id hq
  obtain ⟨w3, w40, w44⟩ := id hw
  have x39 := lx.1.1
  have x41 := lx.2.1
  have x42 := lx.2.2.1
  have x19 := lx.2.2.2.1
  obtain ⟨v1, v2, v3, v4, v5⟩ := id hv
  have v6 := (v5 h0).2
  have v7 := v3.1
  have v8 := v3.2.2
  have zi := nzc_in (M 229) (M 209 39).toNat
  have bi := nbc_in (M 229) (M 209 39).toNat
  have tw : t < 41 ∧ w + 1 < 42 ∧ w ≠ t ∧ w + 1 ≠ t := by omega
  refine a_aloadn dX11_leafRead_129 rfl ?_
  refine a_anyV (as := []) (q := 209) dX11_leafRead_130 mvX11_278 ⟨by decide, by decide⟩ (L209 L) rfl rfl rfl (Nat.le_of_ble_eq_true rfl) ⟨rfl, rfl⟩ ⟨by decide, by decide⟩ (m_isCt1 (by omega)) (fun x130 M130 hM130 => ?_)
  have elf : lfM t w Mc = laM w (Mc 43 11) (tcM t Mc) := by
    unfold lfM
    have ek := nu_ok (lo := 0) (hi := 9999) h0 ⟨by omega, by omega, by omega⟩
    have el : lnM 0 9999 Mc = Mc := by unfold lnM; rw [if_neg (by omega), if_neg (by omega), if_pos ⟨by omega, by omega⟩]
    rw [if_neg (by omega), if_neg (by omega), el, if_pos h0, ek.2]
  refine a_if_ne (tgt := 138) dX11_leafRead_133 (by decide) ⟨by omega, by omega⟩ (fun hb133 => ?_) (fun hb133 => ?_)
  · refine a_aloadn dX11_leafRead_138 rfl ?_
    obtain ⟨_, c130, rfl⟩ := hM130.resolve_left (by omega)
    refine a_iloadn dX11_leafRead_139 rfl ?_
    refine a_if_lt (tgt := 147) dX11_leafRead_140 (by decide) ⟨by omega, by omega⟩ (fun hb140 => ?_) (fun hb140 => ?_)
    · refine a_iconst dX11_leafRead_147 ?_
      refine a_iloadn dX11_leafRead_148 rfl ?_
      refine a_if_lt (tgt := 156) dX11_leafRead_149 (by decide) ⟨by omega, by omega⟩ (fun hb149 => ?_) (fun hb149 => ?_)
      · refine a_aloadn dX11_leafRead_156 rfl ?_
        refine b_getI (j' := 9) dX11_leafRead_157 flX11_153 rfl rfl (L209 L) (fun hr157 => ?_)
        rw [show sm M 209 42 (M 209 42 + 1) 209 9 = M 209 9 from by rw [sm_k, us_n (by decide)]] at hr157 ⊢
        refine a_iconst dX11_leafRead_160 ?_
        refine a_callVv (as := [_, _, _]) (q := 209) dX11_leafRead_161 mvX11_260 ⟨by decide, by decide⟩ (L209 L) rfl rfl rfl (Nat.le_of_ble_eq_true rfl) ⟨rfl, rfl⟩ ⟨by decide, by decide⟩ (m_X11_grown hP ⟨by omega, by omega⟩ ⟨by omega, by omega⟩ ⟨by omega, by omega⟩ (by rw [sm_k, us_n (by decide)]; omega) (by rw [sm_k, us_n (by decide)]; omega)) ?_
        refine a_aloadn dX11_leafRead_164 rfl ?_
        refine a_iconst dX11_leafRead_165 ?_
        refine a_putZ (j' := 43) dX11_leafRead_166 flX11_284 rfl rfl (L209 L) (by decide) rfl (by omega) ?_
        refine a_aloadn dX11_leafRead_169 rfl ?_
        obtain ⟨N0, eN0⟩ : ∃ N0, N0 = sm (gwM 0 (M 209 9) 0 (sm M 209 42 (M 209 42 + 1))) 209 43 0 := ⟨_, rfl⟩
        have rtN : RTk f n (sm Mc t 1 (Mc t 1 + 1)) N0 := ht.of (sm_n (by omega)) (sm_n (by omega)) (sm_n (by omega)) (sm_n (by omega)) (fun i i0 i1 => by rw [eN0, sm_k, us_n (by omega)]; unfold gwM; rw [sm_k, us_n (by omega), sm_k, us_n (by omega), sm_n (by decide), sm_n (by decide), sm_n (by decide), sm_n (by decide), sm_k, us_n (by omega)]) (by rw [eN0]; unfold gwM; simp (disch := decide) only [sm_n, sm_k, us_s, us_n]) (by rw [eN0]; unfold gwM; simp (disch := decide) only [sm_n, sm_k, us_s, us_n])
        refine a_relVv (as := []) (q := 209) dX11_leafRead_170 mvX11_176 ⟨by decide, by decide⟩ (L209 L) rfl rfl rfl (Nat.le_of_ble_eq_true rfl) ⟨rfl, rfl⟩ ⟨by decide, by decide⟩ (by have z := m_X11_token (G := G) (l := l) (L := L) hP (by rw [rtN.2.2.2.2.1.1]; exact rtN.2.2.2.2.1.2.2) rtN.2.2.2.2.2 rtN.nx; rw [eN0] at z; exact z) (fun M1 hM1 => ?_)
        rw [← eN0] at hM1
        have ts : TkR f n (N0 209 7) N0 M1 := by rw [rtN.2.2.2.2.1.1, rtN.2.2.2.2.1.2.1] at hM1; exact hM1
        have fr := ts.2.2.2
        refine a_iconst dX11_leafRead_173 ?_
        have l3 := lf_3 (x := (Mc 43 11)) (k := 0) (a := (M 209 9)) tw hq hw ⟨by omega, by omega⟩ (by omega) (by omega)
        rw [← eN0] at l3
        have eC : lfM t w Mc = laM w (Mc 43 11) (stT (sm Mc t 1 (Mc t 1 + 1))) := by rw [elf]; unfold tcM; rw [if_pos (by omega)]
        have rt1 := rtN.step (by rw [sm_n (by omega)]; omega) ts
        have rt2 : RTk f n (laM w (Mc 43 11) (stT (sm Mc t 1 (Mc t 1 + 1)))) M1 := rt1.of (la_x _ _ _ (by omega) (by omega)) (la_x _ _ _ (by omega) (by omega)) (la_x _ _ _ (by omega) (by omega)) (la_x _ _ _ (by omega) (by omega)) (fun _ _ _ => rfl) rfl rfl
        have F1 : FrL F M M1 := ((((FrL.rf F M).sm (i := 42) (by omega) (M 209 42 + 1)).gw 0 (M 209 9) 0 (by rw [sm_k, us_n (by decide)]; omega)).sm (i := 43) (by omega) 0).tr (by rw [← eN0]; exact (fr.fl).frl F)
        have z6 : laM w (Mc 43 11) (stT (sm Mc t 1 (Mc t 1 + 1))) 42 6 = 0 := by rw [la_x _ _ _ (by omega) (by omega), stT_n _ (by decide), sm_n (by omega)]; exact h0
        exact a_zreturn dX11_leafRead_174 rfl rfl rfl (by omega) (by rw [eZ]; exact zany_i ⟨F1, Or.inr ⟨ia, Or.inr ⟨rfl, by rw [eC]; exact z6, by rw [eC]; exact rt2, by rw [eC]; exact (l3.1.tok fr ⟨tw.1, tw.2.1⟩).cg ⟨tw.1, tw.2.1⟩ (fun k hk => la_st (by omega) hk), l3.2.tok fr⟩⟩⟩)
      · exfalso; omega
    · exfalso; omega
  · refine a_iconst dX11_leafRead_136 ?_
    obtain ⟨_, c130, rfl⟩ := hM130.resolve_right (by omega)
    have eC : lfM t w Mc = laM w (Mc 43 11) (flM Mc 2) := by rw [elf]; unfold tcM; rw [if_neg (by omega)]
    exact a_zreturn dX11_leafRead_137 rfl rfl rfl (by omega) (by rw [eZ]; exact zany_i ⟨((FrL.rf F M).sm (by omega) _).sm (by omega) _, Or.inr ⟨ia, Or.inl ⟨rfl, by rw [eC, la_x _ _ _ (by omega) (by omega), (flM_6 2 h0).1]; decide, by rw [eC]; exact ft_la tw.2.1 _ (wr_ft h0 t3)⟩⟩⟩)

set_option maxRecDepth 100000 in
set_option maxHeartbeats 4000000 in
theorem tbX11_leafRead {G : zG} {l : Launch} {L : Nat} {P : zP} {f : Int → Int} {n : Int} {t w : Nat} {F : Int} {Mc : zM} {M : zM} {Z : zZ} (hP : PFok P) (ht : RTk f n Mc M) (h0 : Mc 42 6 = 0) (tt : t = 4 ∨ t = 23) (hwt : w = t + 13 ∨ w = t + 15 ∨ w = t + 17) (hv : LvI t w Mc) (hq : LQ t w F Mc M) (hw : LWt Mc M) (eZ : Z = zany (LAY L) P (fun r M' => FrL F M M' ∧ LfR f n t w F Mc r M')) (h1 : ¬ (M 209 8 = 4 ∧ M 209 9 = 40)) (h2 : ¬ (M 209 8 = 1 ∧ M 209 9 = 13 ∧ M 209 44 ≠ 0)) : AW G l mdX11_leafRead Z 86 [some (aR 209), none] [] (LAY L) P M 0 0 := by
  have t3 := ht.2.2.1
  have t4 := ht.2.2.2.1
  unfold TKq at t4
  have tn := ht.nx
  have t5 := ht.2.2.2.2.1
  have t6 := ht.2.2.2.2.2
  obtain ⟨lx, hF, hc⟩ := id hq
  obtain ⟨w3, w40, w44⟩ := id hw
  have x39 := lx.1.1
  have x41 := lx.2.1
  have x42 := lx.2.2.1
  have x19 := lx.2.2.2.1
  obtain ⟨v1, v2, v3, v4, v5⟩ := id hv
  have v6 := (v5 h0).2
  have v7 := v3.1
  have v8 := v3.2.2
  have zi := nzc_in (M 229) (M 209 39).toNat
  have bi := nbc_in (M 229) (M 209 39).toNat
  have tw : t < 41 ∧ w + 1 < 42 ∧ w ≠ t ∧ w + 1 ≠ t := by omega
  have ia : iaV Mc = 0 := by
    unfold iaV
    rw [if_neg]
    rintro (⟨a, b⟩ | ⟨a, b, c⟩)
    · omega
    · exact h2 ⟨by omega, by omega, w44.2 c⟩
  refine a_aloadn dX11_leafRead_86 rfl ?_
  refine a_oneV (as := []) (q := 209) dX11_leafRead_87 mvX11_281 ⟨by decide, by decide⟩ (L209 L) rfl rfl rfl (Nat.le_of_ble_eq_true rfl) ⟨rfl, rfl⟩ ⟨by decide, by decide⟩ m_nmM1 (fun x87 hx87 => ?_)
  refine c_istoren (ls' := [_, _]) dX11_leafRead_90 (by decide) rfl rfl ?_
  refine a_iloadn dX11_leafRead_91 rfl ?_
  refine a_if_ge (tgt := 109) dX11_leafRead_92 (by decide) ⟨by omega, by omega⟩ (fun hb92 => ?_) (fun hb92 => ?_)
  · refine a_iloadn dX11_leafRead_109 rfl ?_
    refine a_if_ge (tgt := 129) dX11_leafRead_110 (by decide) ⟨by omega, by omega⟩ (fun hb110 => ?_) (fun hb110 => ?_)
    · first
      | (have q : x87 = M 209 9 - 14 ∧ M 209 8 = 1 ∧ 14 ≤ M 209 9 := (by omega); exact tcAX11_leafRead hP ht h0 tt hwt hv hq hw eZ ia q)
      | (have q : x87 = -1 ∧ M 209 8 = 3 ∧ M 209 9 ≤ 9999 := (by omega); exact tcBX11_leafRead hP ht h0 tt hwt hv hq hw eZ ia q)
      | (exfalso; omega)
    · refine a_aloadn dX11_leafRead_113 rfl ?_
      refine b_getI (j' := 9) dX11_leafRead_114 flX11_153 rfl rfl (L209 L) (fun hr114 => ?_)
      refine a_sipush (w := 9999) dX11_leafRead_117 (by decide) ?_
      refine a_icmp_le (tgt := 129) dX11_leafRead_120 (by decide) ⟨by omega, by omega⟩ ⟨by omega, by omega⟩ (fun hb120 => ?_) (fun hb120 => ?_)
      · first
        | (have q : x87 = M 209 9 - 14 ∧ M 209 8 = 1 ∧ 14 ≤ M 209 9 := (by omega); exact tcAX11_leafRead hP ht h0 tt hwt hv hq hw eZ ia q)
        | (have q : x87 = -1 ∧ M 209 8 = 3 ∧ M 209 9 ≤ 9999 := (by omega); exact tcBX11_leafRead hP ht h0 tt hwt hv hq hw eZ ia q)
        | (exfalso; omega)
      · refine a_aloadn dX11_leafRead_123 rfl ?_
        refine a_iconst dX11_leafRead_124 ?_
        refine a_callV (as := [_]) (q := 209) dX11_leafRead_125 mvX11_166 ⟨by decide, by decide⟩ (L209 L) rfl rfl rfl (Nat.le_of_ble_eq_true rfl) ⟨rfl, rfl⟩ ⟨by decide, by decide⟩ (m_X11_wrong ⟨by omega, by omega⟩) ?_
        have el := lnM_bad (lo := 0) (hi := 9999) h0 (by omega)
        rw [if_pos (by omega)] at el
        have eC : lfM t w Mc = flM Mc 2 := by unfold lfM; rw [if_neg (by omega), if_neg (by omega), el, if_neg (by rw [(flM_6 2 h0).1]; decide)]
        exact a_zreturn dX11_leafRead_128 rfl rfl rfl (by omega) (by rw [eZ]; exact zany_i ⟨((FrL.rf F M).sm (by omega) _).sm (by omega) _, Or.inr ⟨ia, Or.inl ⟨rfl, by rw [eC, (flM_6 2 h0).1]; decide, by rw [eC]; exact wr_ft h0 t3⟩⟩⟩)
  · refine a_aloadn dX11_leafRead_95 rfl ?_
    refine b_getI (j' := 8) dX11_leafRead_96 flX11_142 rfl rfl (L209 L) (fun hr96 => ?_)
    refine a_iconst dX11_leafRead_99 ?_
    refine a_icmp_eq (tgt := 109) dX11_leafRead_100 (by decide) ⟨by omega, by omega⟩ ⟨by omega, by omega⟩ (fun hb100 => ?_) (fun hb100 => ?_)
    · refine a_iloadn dX11_leafRead_109 rfl ?_
      refine a_if_ge (tgt := 129) dX11_leafRead_110 (by decide) ⟨by omega, by omega⟩ (fun hb110 => ?_) (fun hb110 => ?_)
      · first
        | (have q : x87 = M 209 9 - 14 ∧ M 209 8 = 1 ∧ 14 ≤ M 209 9 := (by omega); exact tcAX11_leafRead hP ht h0 tt hwt hv hq hw eZ ia q)
        | (have q : x87 = -1 ∧ M 209 8 = 3 ∧ M 209 9 ≤ 9999 := (by omega); exact tcBX11_leafRead hP ht h0 tt hwt hv hq hw eZ ia q)
        | (exfalso; omega)
      · refine a_aloadn dX11_leafRead_113 rfl ?_
        refine b_getI (j' := 9) dX11_leafRead_114 flX11_153 rfl rfl (L209 L) (fun hr114 => ?_)
        refine a_sipush (w := 9999) dX11_leafRead_117 (by decide) ?_
        refine a_icmp_le (tgt := 129) dX11_leafRead_120 (by decide) ⟨by omega, by omega⟩ ⟨by omega, by omega⟩ (fun hb120 => ?_) (fun hb120 => ?_)
        · first
          | (have q : x87 = M 209 9 - 14 ∧ M 209 8 = 1 ∧ 14 ≤ M 209 9 := (by omega); exact tcAX11_leafRead hP ht h0 tt hwt hv hq hw eZ ia q)
          | (have q : x87 = -1 ∧ M 209 8 = 3 ∧ M 209 9 ≤ 9999 := (by omega); exact tcBX11_leafRead hP ht h0 tt hwt hv hq hw eZ ia q)
          | (exfalso; omega)
        · refine a_aloadn dX11_leafRead_123 rfl ?_
          refine a_iconst dX11_leafRead_124 ?_
          refine a_callV (as := [_]) (q := 209) dX11_leafRead_125 mvX11_166 ⟨by decide, by decide⟩ (L209 L) rfl rfl rfl (Nat.le_of_ble_eq_true rfl) ⟨rfl, rfl⟩ ⟨by decide, by decide⟩ (m_X11_wrong ⟨by omega, by omega⟩) ?_
          have el := lnM_bad (lo := 0) (hi := 9999) h0 (by omega)
          rw [if_pos (by omega)] at el
          have eC : lfM t w Mc = flM Mc 2 := by unfold lfM; rw [if_neg (by omega), if_neg (by omega), el, if_neg (by rw [(flM_6 2 h0).1]; decide)]
          exact a_zreturn dX11_leafRead_128 rfl rfl rfl (by omega) (by rw [eZ]; exact zany_i ⟨((FrL.rf F M).sm (by omega) _).sm (by omega) _, Or.inr ⟨ia, Or.inl ⟨rfl, by rw [eC, (flM_6 2 h0).1]; decide, by rw [eC]; exact wr_ft h0 t3⟩⟩⟩)
    · refine a_aloadn dX11_leafRead_103 rfl ?_
      refine a_iconst dX11_leafRead_104 ?_
      refine a_callV (as := [_]) (q := 209) dX11_leafRead_105 mvX11_166 ⟨by decide, by decide⟩ (L209 L) rfl rfl rfl (Nat.le_of_ble_eq_true rfl) ⟨rfl, rfl⟩ ⟨by decide, by decide⟩ (m_X11_wrong ⟨by omega, by omega⟩) ?_
      have el := lnM_bad (lo := 0) (hi := 9999) h0 (by omega)
      rw [if_neg (by omega)] at el
      have eC : lfM t w Mc = flM Mc 1 := by unfold lfM; rw [if_neg (by omega), if_neg (by omega), el, if_neg (by rw [(flM_6 1 h0).1]; decide)]
      exact a_zreturn dX11_leafRead_108 rfl rfl rfl (by omega) (by rw [eZ]; exact zany_i ⟨((FrL.rf F M).sm (by omega) _).sm (by omega) _, Or.inr ⟨ia, Or.inl ⟨rfl, by rw [eC, (flM_6 1 h0).1]; decide, by rw [eC]; exact wr_ft h0 t3⟩⟩⟩)

theorem m_X11_leafRead {G : zG} {l : Launch} {L : Nat} {P : zP} {M : zM} {f : Int → Int} {n : Int} {t w : Nat} {F : Int} {Mc : zM} (hP : PFok P) (ht : RTk f n Mc M) (h0 : Mc 42 6 = 0) (tt : t = 4 ∨ t = 23) (hwt : w = t + 13 ∨ w = t + 15 ∨ w = t + 17) (hv : LvI t w Mc) (hq : LQ t w F Mc M) (hw : LWt Mc M) : AM G l yX11_leafRead mdX11_leafRead [aR 209] (LAY L) P M (zany (LAY L) P (fun r M' => FrL F M M' ∧ LfR f n t w F Mc r M')) := by
  refine AM.go [some (aR 209), none] rfl (Nat.le_of_ble_eq_true rfl) ?_ (by decide) rfl rfl
  exact taX11_leafRead hP ht h0 tt hwt hv hq hw rfl (fun a b => tbX11_leafRead hP ht h0 tt hwt hv hq hw rfl a b)
