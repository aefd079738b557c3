section ZRLF
theorem m_isSg1 {G : zG} {l : Launch} {L : Nat} {P : zP} {M : zM} {x : Int} (hx : inR x) : AM G l yX11_isSign mdX11_isSign [aR 209, aI x] (LAY L) P M (zone (LAY L) P M (fun r => (r = 1 ∧ M 209 8 = 4 ∧ M 209 9 = x) ∨ (r = 0 ∧ ¬ (M 209 8 = 4 ∧ M 209 9 = x)))) := by
  refine (m_X11_isSign (G := G) (l := l) hx).mono ?_
  rintro r lay P' M' ⟨rfl, rfl, rfl, rfl⟩
  refine zone_i ?_
  split <;> omega
theorem m_isKy1 {G : zG} {l : Launch} {L : Nat} {P : zP} {M : zM} {x : Int} (hx : inR x) : AM G l yX11_isKey mdX11_isKey [aR 209, aI x] (LAY L) P M (zone (LAY L) P M (fun r => (r = 1 ∧ M 209 8 = 1 ∧ M 209 9 = x) ∨ (r = 0 ∧ ¬ (M 209 8 = 1 ∧ M 209 9 = x)))) := by
  refine (m_X11_isKey (G := G) (l := l) hx).mono ?_
  rintro r lay P' M' ⟨rfl, rfl, rfl, rfl⟩
  refine zone_i ?_
  split <;> omega
theorem m_nmM1 {G : zG} {l : Launch} {L : Nat} {P : zP} {M : zM} : AM G l yX11_nameMet mdX11_nameMet [aR 209] (LAY L) P M (zone (LAY L) P M (fun r => (r = M 209 9 - 14 ∧ M 209 8 = 1 ∧ 14 ≤ M 209 9) ∨ (r = -1 ∧ ¬ (M 209 8 = 1 ∧ 14 ≤ M 209 9)))) := by
  refine (m_X11_nameMet (G := G) (l := l)).mono ?_
  rintro r lay P' M' ⟨rfl, rfl, rfl, rfl⟩
  refine zone_i ?_
  split <;> omega
theorem m_isCt1 {G : zG} {l : Launch} {L : Nat} {P : zP} {M : zM} (h : 0 ≤ M 209 42 ∧ M 209 42 ≤ 64) : AM G l yX11_isCounted mdX11_isCounted [aR 209] (LAY L) P M (zany (LAY L) P (fun r M' => (r = 0 ∧ M 209 42 = 64 ∧ M' = sm (sm M 209 4 2) 209 5 (M 209 10)) ∨ (r = 1 ∧ M 209 42 < 64 ∧ M' = sm M 209 42 (M 209 42 + 1)))) := by
  refine (m_X11_isCounted (G := G) (l := l) h).mono ?_
  rintro r lay P' M' ⟨rfl, rfl, rfl, rfl⟩
  refine zany_i ?_
  by_cases e : M 209 42 = 64
  · rw [if_pos e, if_pos e]; exact Or.inl ⟨rfl, e, rfl⟩
  · rw [if_neg e, if_neg e]; exact Or.inr ⟨rfl, by omega, rfl⟩
theorem sm_cg {A B : zM} {k r : Nat} {i v : Int} (h : A k = B k) : sm A r i v k = sm B r i v k := by
  by_cases e : k = r
  · subst e; rw [sm_k, sm_k, h]
  · rw [sm_n e, sm_n e, h]
theorem pa_st {s : Int} {M : zM} {k : Nat} (hk : k ≠ 43) : paM s (stT M) k = stT (paM s M) k := by
  rw [stT_n _ hk]
  unfold paM
  rw [stT_n M (show 42 ≠ 43 by decide)]
  split
  · exact sm_cg (sm_cg (stT_n _ hk))
  · exact stT_n _ hk
theorem la_st {w : Nat} {x : Int} {M : zM} (hw : w ≠ 43) {k : Nat} (hk : k ≠ 43) : laM w x (stT M) k = stT (laM w x M) k := by
  rw [stT_n _ hk]
  unfold laM
  rw [stT_n M hw]
  split
  · exact sm_cg (sm_cg (stT_n _ hk))
  · exact stT_n _ hk
theorem LQ.cg {t w : Nat} {F : Int} {C C' M : zM} (h : LQ t w F C M) (tw : t < 41 ∧ w + 1 < 42) (e : ∀ k : Nat, k ≠ 43 → C' k = C k) : LQ t w F C' M := ⟨h.1.of (by rw [e 42 (by decide)]) (by rw [e 42 (by decide)]) (e 49 (by decide)) (by rw [e t (by omega)]) (by rw [e w (by omega)]) (e _ (by omega)) (fun _ _ => rfl) (fun _ _ _ => rfl), h.2⟩
theorem LWt.cg {C C' M : zM} (h : LWt C M) (e : ∀ k : Nat, k ≠ 43 → C' k = C k) : LWt C' M := by
  unfold LWt rkA at *
  rw [e 42 (by decide), e 49 (by decide)]; exact h
/-- one step of reading a part, against the class's -/
def LfR (f : Int → Int) (n : Int) (t w : Nat) (F : Int) (Mc : zM) (r : Int) (M' : zM) : Prop := (iaV Mc ≠ 0 ∧ ((r = 0 ∧ rpB t Mc 42 6 ≠ 0 ∧ FT (rpB t Mc) M') ∨ (r = 1 ∧ rpB t Mc 42 6 = 0 ∧ RTk f n (rpB t Mc) M' ∧ LQ t w F (rpB t Mc) M' ∧ LWt (rpB t Mc) M'))) ∨ (iaV Mc = 0 ∧ ((r = 0 ∧ lfM t w Mc 42 6 ≠ 0 ∧ FT (lfM t w Mc) M') ∨ (r = 1 ∧ lfM t w Mc 42 6 = 0 ∧ RTk f n (lfM t w Mc) M' ∧ LQ t w F (lfM t w Mc) M' ∧ LBh M')))
theorem ft_pa {C M : zM} (s : Int) (h : FT C M) : FT (paM s C) M := by unfold FT at *; rw [paM_42 s C (by decide), paM_42 s C (by decide)]; exact h
theorem ft_la {C M : zM} {w : Nat} (hw : w + 1 < 42) (x : Int) (h : FT C M) : FT (laM w x C) M := by
  have e : laM w x C 42 = C 42 := by
    unfold laM
    split
    · rw [sm_n (by omega), sm_n (by omega)]
    · rfl
  unfold FT at *; rw [e]; exact h
end ZRLF

section ZRLG
theorem pa43 (s x : Int) {M : zM} : paM s (sm M 42 5 x) 43 = M 43 := by unfold paM; split <;> simp (disch := decide) only [sm_n]
theorem pa45 (s x : Int) {M : zM} : paM s (sm M 42 5 x) 45 = M 45 := by unfold paM; split <;> simp (disch := decide) only [sm_n]
theorem pa46 (s x : Int) {M : zM} : paM s (sm M 42 5 x) 46 = M 46 := by unfold paM; split <;> simp (disch := decide) only [sm_n]
theorem pa47 (s x : Int) {M : zM} : paM s (sm M 42 5 x) 47 = M 47 := by unfold paM; split <;> simp (disch := decide) only [sm_n]
theorem pa_x (s : Int) (M : zM) {k : Nat} (a : k ≠ 42) (b : k ≠ 49) : paM s M k = M k := by
  unfold paM; split
  · rw [sm_n a, sm_n b]
  · rfl
end ZRLG

set_option maxRecDepth 100000 in
set_option maxHeartbeats 4000000 in
theorem taX11_leafRead {G : zG} {l : Launch} {L : Nat} {P : zP} {f : Int → Int} {n : Int} {t w : Nat} {F : Int} {Mc : zM} {M : zM} {Z : zZ} (hP : PFok P) (ht : RTk f n Mc M) (h0 : Mc 42 6 = 0) (tt : t = 4 ∨ t = 23) (hwt : w = t + 13 ∨ w = t + 15 ∨ w = t + 17) (hv : LvI t w Mc) (hq : LQ t w F Mc M) (hw : LWt Mc M) (eZ : Z = zany (LAY L) P (fun r M' => FrL F M M' ∧ LfR f n t w F Mc r M')) (kk : ¬ (M 209 8 = 4 ∧ M 209 9 = 40) → ¬ (M 209 8 = 1 ∧ M 209 9 = 13 ∧ M 209 44 ≠ 0) → AW G l mdX11_leafRead Z 86 [some (aR 209), none] [] (LAY L) P M 0 0) : AW G l mdX11_leafRead Z 0 [some (aR 209), none] [] (LAY L) P M 0 0 := by
  have t3 := ht.2.2.1
  have t4 := ht.2.2.2.1
  unfold TKq at t4
  have tn := ht.nx
  have t5 := ht.2.2.2.2.1
  have t6 := ht.2.2.2.2.2
  obtain ⟨lx, hF, hc⟩ := id hq
  obtain ⟨w3, w40, w44⟩ := id hw
  have x39 := lx.1.1
  have x41 := lx.2.1
  have x42 := lx.2.2.1
  have x19 := lx.2.2.2.1
  obtain ⟨v1, v2, v3, v4, v5⟩ := id hv
  have v6 := (v5 h0).2
  have v7 := v3.1
  have v8 := v3.2.2
  have zi := nzc_in (M 229) (M 209 39).toNat
  have bi := nbc_in (M 229) (M 209 39).toNat
  have tw : t < 41 ∧ w + 1 < 42 ∧ w ≠ t ∧ w + 1 ≠ t := by omega
  refine a_aloadn dX11_leafRead_0 rfl ?_
  refine a_bipush (w := 40) dX11_leafRead_1 (by decide) ?_
  refine a_oneV (as := [_]) (q := 209) dX11_leafRead_3 mvX11_179 ⟨by decide, by decide⟩ (L209 L) rfl rfl rfl (Nat.le_of_ble_eq_true rfl) ⟨rfl, rfl⟩ ⟨by decide, by decide⟩ (m_isSg1 ⟨by omega, by omega⟩) (fun x3 hx3 => ?_)
  refine a_if_eq (tgt := 50) dX11_leafRead_6 (by decide) ⟨by omega, by omega⟩ (fun hb6 => ?_) (fun hb6 => ?_)
  · refine a_aloadn dX11_leafRead_50 rfl ?_
    refine a_bipush (w := 13) dX11_leafRead_51 (by decide) ?_
    refine a_oneV (as := [_]) (q := 209) dX11_leafRead_53 mvX11_275 ⟨by decide, by decide⟩ (L209 L) rfl rfl rfl (Nat.le_of_ble_eq_true rfl) ⟨rfl, rfl⟩ ⟨by decide, by decide⟩ (m_isKy1 ⟨by omega, by omega⟩) (fun x53 hx53 => ?_)
    refine a_if_eq (tgt := 86) dX11_leafRead_56 (by decide) ⟨by omega, by omega⟩ (fun hb56 => ?_) (fun hb56 => ?_)
    · exact kk (by omega) (by omega)
    · refine a_aloadn dX11_leafRead_59 rfl ?_
      refine b_getZ (j' := 44) dX11_leafRead_60 flX11_271 rfl rfl (L209 L) (fun hr60 => ?_)
      refine a_if_eq (tgt := 86) dX11_leafRead_63 (by decide) ⟨by omega, by omega⟩ (fun hb63 => ?_) (fun hb63 => ?_)
      · exact kk (by omega) (by omega)
      · refine a_aloadn dX11_leafRead_66 rfl ?_
        refine a_anyV (as := []) (q := 209) dX11_leafRead_67 mvX11_278 ⟨by decide, by decide⟩ (L209 L) rfl rfl rfl (Nat.le_of_ble_eq_true rfl) ⟨rfl, rfl⟩ ⟨by decide, by decide⟩ (m_isCt1 (by omega)) (fun x67 M67 hM67 => ?_)
        refine a_if_ne (tgt := 75) dX11_leafRead_70 (by decide) ⟨by omega, by omega⟩ (fun hb70 => ?_) (fun hb70 => ?_)
        · refine a_aloadn dX11_leafRead_75 rfl ?_
          refine a_iconst dX11_leafRead_76 ?_
          obtain ⟨_, c67, rfl⟩ := hM67.resolve_left (by omega)
          refine a_callVv (as := [_]) (q := 209) dX11_leafRead_77 mvX11_267 ⟨by decide, by decide⟩ (L209 L) rfl rfl rfl (Nat.le_of_ble_eq_true rfl) ⟨rfl, rfl⟩ ⟨by decide, by decide⟩ (m_X11_waitsFor hP ⟨by omega, by omega⟩ (by rw [sm_k, us_n (by decide)]; omega)) ?_
          refine a_aloadn dX11_leafRead_80 rfl ?_
          obtain ⟨N0, eN0⟩ : ∃ N0, N0 = wfM 2 (sm M 209 42 (M 209 42 + 1)) := ⟨_, rfl⟩
          have rtN : RTk f n (sm Mc t 1 (Mc t 1 + 1)) N0 := ht.of (sm_n (by omega)) (sm_n (by omega)) (sm_n (by omega)) (sm_n (by omega)) (fun i i0 i1 => by rw [eN0]; unfold wfM; rw [sm_k, us_n (by omega), sm_n (by decide), sm_k, us_n (by omega)]) (by rw [eN0]; unfold wfM; simp (disch := decide) only [sm_n, sm_k, us_s, us_n]) (by rw [eN0]; unfold wfM; simp (disch := decide) only [sm_n, sm_k, us_s, us_n])
          refine a_relVv (as := []) (q := 209) dX11_leafRead_81 mvX11_176 ⟨by decide, by decide⟩ (L209 L) rfl rfl rfl (Nat.le_of_ble_eq_true rfl) ⟨rfl, rfl⟩ ⟨by decide, by decide⟩ (by have z := m_X11_token (G := G) (l := l) (L := L) hP (by rw [rtN.2.2.2.2.1.1]; exact rtN.2.2.2.2.1.2.2) rtN.2.2.2.2.2 rtN.nx; rw [eN0] at z; exact z) (fun M1 hM1 => ?_)
          rw [← eN0] at hM1
          have ts : TkR f n (N0 209 7) N0 M1 := by rw [rtN.2.2.2.2.1.1, rtN.2.2.2.2.1.2.1] at hM1; exact hM1
          have fr := ts.2.2.2
          refine a_iconst dX11_leafRead_84 ?_
          have l2 := lf_2 tw hq hw (by omega) (by omega)
          rw [← eN0] at l2
          have ia : iaV Mc ≠ 0 := by unfold iaV; rw [if_pos (Or.inr ⟨by omega, by omega, w44.1 (by omega)⟩)]; decide
          have eC : rpB t Mc = paM 2 (stT (sm Mc t 1 (Mc t 1 + 1))) := by unfold rpB tcM; rw [if_neg (by omega), if_pos (by omega)]
          have rt1 := rtN.step (by rw [sm_n (by omega)]; omega) ts
          have rt2 : RTk f n (paM 2 (stT (sm Mc t 1 (Mc t 1 + 1)))) M1 := rt1.of (pa_x _ _ (by decide) (by decide)) (pa_x _ _ (by decide) (by decide)) (pa_x _ _ (by decide) (by decide)) (pa_x _ _ (by decide) (by decide)) (fun _ _ _ => rfl) rfl rfl
          have F1 : FrL F M M1 := (((FrL.rf F M).sm (i := 42) (by omega) (M 209 42 + 1)).wf 2).tr (by rw [← eN0]; exact (fr.fl).frl F)
          have z6 : paM 2 (stT (sm Mc t 1 (Mc t 1 + 1))) 42 6 = 0 := by rw [paM_42 _ _ (by decide), stT_n _ (by decide), sm_n (by omega)]; exact h0
          exact a_zreturn dX11_leafRead_85 rfl rfl rfl (by omega) (by rw [eZ]; exact zany_i ⟨F1, Or.inl ⟨ia, Or.inr ⟨rfl, by rw [eC]; exact z6, by rw [eC]; exact rt2, by rw [eC]; exact (l2.1.tok fr ⟨tw.1, tw.2.1⟩).cg ⟨tw.1, tw.2.1⟩ (fun k hk => pa_st hk), by rw [eC]; exact (l2.2.tok fr).cg (fun k hk => pa_st hk)⟩⟩⟩)
        · refine a_iconst dX11_leafRead_73 ?_
          obtain ⟨_, c67, rfl⟩ := hM67.resolve_right (by omega)
          have ia : iaV Mc ≠ 0 := by unfold iaV; rw [if_pos (Or.inr ⟨by omega, by omega, w44.1 (by omega)⟩)]; decide
          have eC : rpB t Mc = paM 2 (flM Mc 2) := by unfold rpB tcM; rw [if_neg (by omega), if_neg (by omega)]
          exact a_zreturn dX11_leafRead_74 rfl rfl rfl (by omega) (by rw [eZ]; exact zany_i ⟨((FrL.rf F M).sm (by omega) _).sm (by omega) _, Or.inl ⟨ia, Or.inl ⟨rfl, by rw [eC, paM_42 _ _ (by decide), (flM_6 2 h0).1]; decide, by rw [eC]; exact ft_pa 2 (wr_ft h0 t3)⟩⟩⟩)
  · refine a_aloadn dX11_leafRead_9 rfl ?_
    refine b_getI (j' := 41) dX11_leafRead_10 flX11_264 rfl rfl (L209 L) (fun hr10 => ?_)
    refine a_bipush (w := 8) dX11_leafRead_13 (by decide) ?_
    refine a_icmp_ne (tgt := 24) dX11_leafRead_15 (by decide) ⟨by omega, by omega⟩ ⟨by omega, by omega⟩ (fun hb15 => ?_) (fun hb15 => ?_)
    · refine a_aloadn dX11_leafRead_24 rfl ?_
      refine a_dupR dX11_leafRead_25 ?_
      refine b_getI (j' := 41) dX11_leafRead_26 flX11_264 rfl rfl (L209 L) (fun hr26 => ?_)
      refine a_iconst dX11_leafRead_29 ?_
      refine a_iadd dX11_leafRead_30 ?_
      refine a_putI (j' := 41) dX11_leafRead_31 flX11_264 rfl rfl (L209 L) (by decide) rfl ⟨by omega, by omega⟩ ?_
      refine a_aloadn dX11_leafRead_34 rfl ?_
      refine a_iconst dX11_leafRead_35 ?_
      refine a_callVv (as := [_]) (q := 209) dX11_leafRead_36 mvX11_267 ⟨by decide, by decide⟩ (L209 L) rfl rfl rfl (Nat.le_of_ble_eq_true rfl) ⟨rfl, rfl⟩ ⟨by decide, by decide⟩ (m_X11_waitsFor hP ⟨by omega, by omega⟩ (by rw [sm_k, us_n (by decide)]; omega)) ?_
      refine a_aloadn dX11_leafRead_39 rfl ?_
      refine a_iconst dX11_leafRead_40 ?_
      refine a_putZ (j' := 44) dX11_leafRead_41 flX11_271 rfl rfl (L209 L) (by decide) rfl (by omega) ?_
      refine a_aloadn dX11_leafRead_44 rfl ?_
      obtain ⟨N0, eN0⟩ : ∃ N0, N0 = sm (wfM 0 (sm M 209 41 (M 209 41 + 1))) 209 44 1 := ⟨_, rfl⟩
      have rtN : RTk f n (paM 13 (sm Mc 42 5 (Mc 42 5 + 1))) N0 := ht.of (pa43 _ _) (pa45 _ _) (pa46 _ _) (pa47 _ _) (fun i i0 i1 => by rw [eN0, sm_k, us_n (by omega)]; unfold wfM; rw [sm_k, us_n (by omega), sm_n (by decide), sm_k, us_n (by omega)]) (by rw [eN0]; unfold wfM; simp (disch := decide) only [sm_n, sm_k, us_s, us_n]) (by rw [eN0]; unfold wfM; simp (disch := decide) only [sm_n, sm_k, us_s, us_n])
      refine a_relVv (as := []) (q := 209) dX11_leafRead_45 mvX11_176 ⟨by decide, by decide⟩ (L209 L) rfl rfl rfl (Nat.le_of_ble_eq_true rfl) ⟨rfl, rfl⟩ ⟨by decide, by decide⟩ (by have z := m_X11_token (G := G) (l := l) (L := L) hP (by rw [rtN.2.2.2.2.1.1]; exact rtN.2.2.2.2.1.2.2) rtN.2.2.2.2.2 rtN.nx; rw [eN0] at z; exact z) (fun M1 hM1 => ?_)
      rw [← eN0] at hM1
      have ts : TkR f n (N0 209 7) N0 M1 := by rw [rtN.2.2.2.2.1.1, rtN.2.2.2.2.1.2.1] at hM1; exact hM1
      have fr := ts.2.2.2
      refine a_iconst dX11_leafRead_48 ?_
      have l1 := lf_1 tw hq hw (by omega)
      rw [← eN0] at l1
      have ia : iaV Mc ≠ 0 := by unfold iaV; rw [if_pos (Or.inl ⟨by omega, by omega⟩)]; decide
      have eC : rpB t Mc = stT (paM 13 (sm Mc 42 5 (Mc 42 5 + 1))) := by unfold rpB toM; rw [if_pos ⟨by omega, by omega⟩, if_pos (by omega)]
      have rt1 := rtN.step (by rw [pa43]; omega) ts
      have F1 : FrL F M M1 := ((((FrL.rf F M).sm (i := 41) (by omega) (M 209 41 + 1)).wf 0).sm (i := 44) (by omega) 1).tr (by rw [← eN0]; exact (fr.fl).frl F)
      exact a_zreturn dX11_leafRead_49 rfl rfl rfl (by omega) (by rw [eZ]; exact zany_i ⟨F1, Or.inl ⟨ia, Or.inr ⟨rfl, by rw [eC, stT_n _ (by decide), paM_42 _ _ (by decide), sm_k, us_n (by decide)]; exact h0, by rw [eC]; exact rt1, by rw [eC]; exact l1.1.tok fr ⟨tw.1, tw.2.1⟩, by rw [eC]; exact l1.2.tok fr⟩⟩⟩)
    · refine a_aloadn dX11_leafRead_18 rfl ?_
      refine a_iconst dX11_leafRead_19 ?_
      refine a_callV (as := [_]) (q := 209) dX11_leafRead_20 mvX11_166 ⟨by decide, by decide⟩ (L209 L) rfl rfl rfl (Nat.le_of_ble_eq_true rfl) ⟨rfl, rfl⟩ ⟨by decide, by decide⟩ (m_X11_wrong ⟨by omega, by omega⟩) ?_
      have ia : iaV Mc ≠ 0 := by unfold iaV; rw [if_pos (Or.inl ⟨by omega, by omega⟩)]; decide
      have eC : rpB t Mc = flM Mc 2 := by unfold rpB toM; rw [if_pos ⟨by omega, by omega⟩, if_neg (by omega)]
      exact a_zreturn dX11_leafRead_23 rfl rfl rfl (by omega) (by rw [eZ]; exact zany_i ⟨((FrL.rf F M).sm (by omega) _).sm (by omega) _, Or.inl ⟨ia, Or.inl ⟨rfl, by rw [eC, (flM_6 2 h0).1]; decide, by rw [eC]; exact wr_ft h0 t3⟩⟩⟩)
