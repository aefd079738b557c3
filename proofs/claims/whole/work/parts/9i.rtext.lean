section ZRTX
theorem le_ok {t : Nat} {M : zM} (h : leM t M 42 6 = 0) : leM t M = sm (stT M) t 0 (M t 0 + 1) ∧ M 42 6 = 0 := by
  unfold leM at h ⊢
  by_cases c : M 42 6 ≠ 0
  · rw [if_pos c] at h; exact absurd h c
  · have c0 : M 42 6 = 0 := by omega
    rw [if_neg c] at h ⊢
    by_cases d : M 43 9 = 5 ∧ M 43 11 = 15
    · rw [if_pos d]; exact ⟨rfl, c0⟩
    · rw [if_neg d, (flM_6 1 c0).1] at h; exact absurd h (by decide)
theorem rdL_f {t : Nat} {M : zM} (h : M 42 6 ≠ 0) : ∀ m : Nat, rdL t m M = M
  | 0 => rfl
  | m + 1 => by rw [rdL_s, if_neg (fun z => h z.1)]
theorem rdL_e {t : Nat} {M : zM} (h : M 43 9 = 0) : ∀ m : Nat, rdL t m M = M
  | 0 => rfl
  | m + 1 => by rw [rdL_s, if_neg (fun z => z.2 h)]
/-- a text read, against the class's -/
def TeR (t : Nat) (M0 Fin : zM) (r : Int) (M' : zM) : Prop := (r = -1 ∧ Fin 42 6 ≠ 0 ∧ FT Fin M' ∧ FrT M0 M') ∨ (r = Fin t 0 ∧ Fin 42 6 = 0 ∧ ∃ M1, TxX t Fin M1 ∧ FrT M0 M1 ∧ (M1 209 4 = 0 ∧ M1 209 5 = -1) ∧ BgK (ktM M1) M')
/-- the two before the first line -/
theorem rt_ini {f : Int → Int} {n : Int} {N : Nat} {M0 Mc Mr Mr' : zM} (hn : 0 ≤ n ∧ n ≤ 700) (hu : CuR f n N M0 Mc) (hv : TV Mc) (ht : TkR f n 0 Mr Mr') (h6 : Mr 209 6 = n) (h10 : Mr 210 = f) (h4 : Mr 209 4 = 0 ∧ Mr 209 5 = -1) (hw : ∀ i : Int, 0 ≤ i → i < 107 → Mr 211 i = wrd i) : RTk f n Mc Mr' := by
  obtain ⟨c1, c2, c3, c4, c5, c6, c7, c8⟩ := hu
  obtain ⟨t1, t2, t3, t4⟩ := ht
  have a := c5 0 (Nat.zero_le _)
  have e : skp f n 0 = plT f n 0 := rfl
  have z0 : (((0 : Nat)) : Int) = 0 := rfl
  rw [z0] at a
  refine ⟨⟨fun b hb => c5 b (by omega), hv⟩, ⟨0, by rw [c3]; rfl, ?_, by rw [t4 209 4 (by omega)]; exact h4.1, by rw [t4 209 5 (by omega)]; exact h4.2⟩, ?_, ?_, ⟨by rw [t4 209 6 (by omega)]; exact h6, by rw [t4.row (by decide)]; exact h10, hn⟩, fun i i0 i1 => by rw [t4 211 i (by omega)]; exact hw i i0 i1⟩
  · rw [t1]; rfl
  · rw [t2, c4.2.1, e, a.2.1]
  · rw [c4.1, c4.2.2, a.1, a.2.2, ← e]; exact t3
def ClX (t : Nat) (Mc : zM) : Prop := (Mc t 0 = 0 ∧ Mc t 1 = 0 ∧ Mc t 2 = 0 ∧ Mc t 6 = 0 ∧ Mc t 10 = 0) ∧ (∀ i : Int, 0 ≤ i → i < 4 → Mc (t + 11) i = 0) ∧ (Mc (t + 10) 0 = 3 ∧ Mc (t + 10) 1 = 2 ∧ Mc (t + 10) 2 = 0 ∧ Mc (t + 10) 3 = 0) ∧ (Mc (t + 13) 1 = 0 ∧ Mc (t + 15) 1 = 0 ∧ Mc (t + 17) 1 = 0)
theorem tx_ini {t : Nat} {Mc S Mr : zM} (hc : ClX t Mc) (fk : Fk (plM S) Mr) : TxX t Mc Mr := by
  obtain ⟨⟨a0, a1, a2, a6, a10⟩, b, ⟨c0, c1, c2, c3⟩, d1, d2, d3⟩ := hc
  have r16 : Mr 209 16 = 0 := by rw [fk 209 16 (by omega)]; unfold plM; rw [plP_n (by decide) (by decide) (by decide)]; simp (disch := decide) only [sm_k, us_s, us_n]
  have r17 : Mr 209 17 = 0 := by rw [fk 209 17 (by omega)]; unfold plM; rw [plP_n (by decide) (by decide) (by decide)]; simp (disch := decide) only [sm_k, us_s, us_n]
  have r18 : Mr 209 18 = 0 := by rw [fk 209 18 (by omega)]; unfold plM; rw [plP_n (by decide) (by decide) (by decide)]; simp (disch := decide) only [sm_k, us_s, us_n]
  have r19 : Mr 209 19 = 0 := by rw [fk 209 19 (by omega)]; unfold plM; rw [plP_n (by decide) (by decide) (by decide)]; simp (disch := decide) only [sm_k, us_s, us_n]
  have r42 : Mr 209 42 = 0 := by rw [fk 209 42 (by omega)]; unfold plM; rw [plP_n (by decide) (by decide) (by decide)]; simp (disch := decide) only [sm_k, us_s, us_n]
  refine ⟨⟨⟨by rw [r16, a2], by rw [a2]; omega, fun j x y => by rw [a2] at y; omega⟩, fun j x y => by rw [a2] at y; omega⟩, ⟨by rw [r17, a6], by rw [a6]; omega, fun j x y => by rw [a6] at y; omega⟩, ⟨by rw [r18, a10], by rw [a10]; omega, fun j x y => by rw [a10] at y; omega⟩, fun k k0 k1 => ?_, fun u hu => ?_, by rw [r42, a1], by rw [r19, a1]⟩
  · have x13 : Mr 213 (4 + k) = plV k := by rw [fk 213 _ (by omega)]; unfold plM; rw [plP_13, if_pos (by omega), show 4 + k - 4 = k by omega]
    have x12 : Mr 212 k = 0 := by rw [fk 212 _ (by omega)]; unfold plM; rw [plP_12, if_pos (by omega)]
    rw [x13, x12, b k k0 k1]
    refine ⟨?_, Iff.rfl⟩
    have : k = 0 ∨ k = 1 ∨ k = 2 ∨ k = 3 := by omega
    rcases this with e | e | e | e <;> subst e
    · rw [c0]; rfl
    · rw [c1]; rfl
    · rw [c2]; rfl
    · rw [c3]; rfl
  · have z : Mc (t + 13 + 2 * u) 1 = 0 := by
      have : u = 0 ∨ u = 1 ∨ u = 2 := by omega
      rcases this with e | e | e <;> subst e
      · exact d1
      · exact d2
      · exact d3
    have x23 : Mr 223 (3 + (u : Int)) = 0 := by rw [fk 223 _ (by omega)]; unfold plM; rw [plP_23, if_pos (by omega)]
    unfold LaX
    rw [z, x23]
    exact ⟨⟨fun q => absurd rfl q, fun q => absurd q (by decide)⟩, fun q => absurd q (by decide)⟩
theorem FrT.fk {M M1 M2 : zM} (h : FrT M M1) (h2 : Fk M1 M2) : FrT M M2 := h.fl h2.fl
end ZRTX

set_option maxRecDepth 100000 in
set_option maxHeartbeats 4000000 in
theorem stX11_text {G : zG} {l : Launch} {L : Nat} {P : zP} {f : Int → Int} {n nn : Int} {t : Nat} {C Fin M0 M : zM} {Z : zZ} (hP : PFok P) (tt : t = 4 ∨ t = 23) (eZ : Z = zany (LAY L) P (TeR t M0 Fin)) (ht : RTk f n C M) (h0 : C 42 6 = 0) (hI : RdI t C) (hx : TxX t C M) (fr : FrT M0 M) (hm : (∃ m : Nat, tkL C ≤ m ∧ Fin = rdL t m C)) (kk : ∀ C' N : zM, tkL C' < tkL C → RTk f n C' N → C' 42 6 = 0 → RdI t C' → TxX t C' N → FrT M0 N → (∃ m : Nat, tkL C' ≤ m ∧ Fin = rdL t m C') → AW G l mdX11_text Z 55 [some (aR 209), some (aI nn), some (aI (C' t 0))] [] (LAY L) P N 0 0) : AW G l mdX11_text Z 55 [some (aR 209), some (aI nn), some (aI (C t 0))] [] (LAY L) P M 0 0 := by
  have t4 := ht.2.2.2.1
  unfold TKq at t4
  obtain ⟨m, hm1, hm2⟩ := hm
  have i5 := hI.2.2.2.2.1
  have tv := ht.1.2.1
  refine a_aloadn dX11_text_55 rfl ?_
  refine b_getI (j' := 8) dX11_text_56 flX11_142 rfl rfl (L209 L) (fun hr56 => ?_)
  refine a_if_eq (tgt := 77) dX11_text_59 (by decide) ⟨by omega, by omega⟩ (fun hb59 => ?_) (fun hb59 => ?_)
  · refine a_aloadn dX11_text_77 rfl ?_
    refine a_relVv (as := []) (q := 209) dX11_text_78 mvX11_121 ⟨by decide, by decide⟩ (L209 L) rfl rfl rfl (Nat.le_of_ble_eq_true rfl) ⟨rfl, rfl⟩ ⟨by decide, by decide⟩ (m_X11_keepText hP) (fun M2 hM2 => ?_)
    refine a_iloadn dX11_text_81 rfl ?_
    rw [rdL_e (by omega)] at hm2
    exact a_ireturn dX11_text_82 rfl rfl rfl (by rw [eZ]; exact zany_i (Or.inr ⟨by rw [hm2], by rw [hm2]; exact h0, M, by rw [hm2]; exact hx, fr, ht.f4, hM2⟩))
  · refine a_aloadn dX11_text_62 rfl ?_
    have hs : C 43 9 ≠ 0 := by omega
    have tp := tkL_p ht.1.2 hs
    obtain ⟨m', rfl⟩ : ∃ m', m = m' + 1 := ⟨m - 1, by omega⟩
    rw [rdL_s, if_pos ⟨h0, hs⟩] at hm2
    refine a_anyV (as := []) (q := 209) dX11_text_63 mvX11_243 ⟨by decide, by decide⟩ (L209 L) rfl rfl rfl (Nat.le_of_ble_eq_true rfl) ⟨rfl, rfl⟩ ⟨by decide, by decide⟩ (m_X11_lineRead hP tt ht h0 hs hI hx) (fun x63 M1 hM1 => ?_)
    obtain ⟨fr1, li⟩ := hM1
    have y63 : x63 = 0 ∨ x63 = 1 := by rcases li with h | h <;> omega
    refine a_if_ne (tgt := 71) dX11_text_66 (by decide) ⟨by omega, by omega⟩ (fun hb66 => ?_) (fun hb66 => ?_)
    · refine c_iinc (ls' := [_, _, _]) dX11_text_71 rfl (by decide) rfl rfl ?_
      refine a_goto (tgt := 55) dX11_text_74 (by decide) ?_
      obtain ⟨_, c6, rt, tx⟩ := li.resolve_left (by omega)
      have ln := hI.line tt h0 hs
      have rj := rln_J tt hI h0 hs
      obtain ⟨e1, e2⟩ := le_ok c6
      have s5 := stT_4 (rlnM t C)
      have q4 : leM t (rlnM t C) 43 4 = C 43 4 := by rw [e1, sm_n (by omega), s5.1]; exact rj.2.2.2.2.2.1.1
      have q5 : leM t (rlnM t C) 43 5 = rlnM t C 43 5 + 1 := by rw [e1, sm_n (by omega), s5.2.1]
      have cm := rj.2.2.2.2.2.1.2
      have tl : tkL (leM t (rlnM t C)) < tkL C := by unfold tkL; omega
      have q0 : leM t (rlnM t C) t 0 = C t 0 + 1 := by rw [e1, sm_s, rj.2.2.2.2.1]
      refine a_loc (ls' := [some (aR 209), some (aI nn), some (aI (leM t (rlnM t C) t 0))]) (by rw [q0]) ?_
      exact kk _ _ tl rt c6 ln.1 tx (fr.tr fr1) ⟨m', by omega, hm2⟩
    · refine a_iconst dX11_text_69 ?_
      obtain ⟨_, c6, ft⟩ := li.resolve_right (by omega)
      rw [rdL_f c6] at hm2
      exact a_ireturn dX11_text_70 rfl rfl rfl (by rw [eZ]; exact zany_i (Or.inl ⟨rfl, by rw [hm2]; exact c6, by rw [hm2]; exact ft, fr.tr fr1⟩))

set_option maxRecDepth 100000 in
set_option maxHeartbeats 4000000 in
theorem lpX11_text {G : zG} {l : Launch} {L : Nat} {P : zP} {f : Int → Int} {n nn : Int} {t : Nat} {Fin M0 : zM} {Z : zZ} (hP : PFok P) (tt : t = 4 ∨ t = 23) (eZ : Z = zany (LAY L) P (TeR t M0 Fin)) : ∀ (q : Nat) (C N : zM), tkL C ≤ q → RTk f n C N → C 42 6 = 0 → RdI t C → TxX t C N → FrT M0 N → (∃ m : Nat, tkL C ≤ m ∧ Fin = rdL t m C) → AW G l mdX11_text Z 55 [some (aR 209), some (aI nn), some (aI (C t 0))] [] (LAY L) P N 0 0 := by
  intro q
  induction q with
  | zero =>
    intro C N hq rt z6 hI tx fr hm
    exact stX11_text hP tt eZ rt z6 hI tx fr hm (fun C' N' g1 g2 g3 g4 g5 g6 g7 => by
      exfalso
      have := g4.1.1
      unfold tkL at *
      omega)
  | succ q ih =>
    intro C N hq rt z6 hI tx fr hm
    exact stX11_text hP tt eZ rt z6 hI tx fr hm (fun C' N' g1 g2 g3 g4 g5 g6 g7 => ih C' N' (by omega) g2 g3 g4 g5 g6 g7)

set_option maxRecDepth 100000 in
set_option maxHeartbeats 4000000 in
theorem m_X11_text {G : zG} {l : Launch} {L : Nat} {P : zP} {M : zM} {nn : Int} {t : Nat} {N : Nat} {Mc Ma Fin : zM} (hP : PFok P) (tt : t = 4 ∨ t = 23) (hn : 0 ≤ nn ∧ nn ≤ M 209 1 ∧ nn ≤ 700) (hu : CuR (M 210) nn N Ma Mc) (hI : RdI t Mc) (hc : ClX t Mc) (h0 : Mc 42 6 = 0) (hw : ∀ i : Int, 0 ≤ i → i < 107 → M 211 i = wrd i) (eF : Fin = rdL t (nn + 1).toNat Mc) : AM G l yX11_text mdX11_text [aR 209, aI nn] (LAY L) P M (zany (LAY L) P (TeR t (plM (sm (sm (sm (sm (sm (sm M 209 2 0) 209 6 nn) 209 1 0) 209 4 0) 209 5 (-1)) 209 7 0)) Fin)) := by
  refine AM.go [some (aR 209), some (aI nn), none] rfl (Nat.le_of_ble_eq_true rfl) ?_ (by decide) rfl rfl
  refine a_aloadn dX11_text_0 rfl ?_
  refine a_iconst dX11_text_1 ?_
  refine a_putI (j' := 2) dX11_text_2 flX11_124 rfl rfl (L209 L) (by decide) rfl ⟨by omega, by omega⟩ ?_
  refine a_iloadn dX11_text_5 rfl ?_
  refine a_if_lt (tgt := 17) dX11_text_6 (by decide) ⟨by omega, by omega⟩ (fun hb6 => ?_) (fun hb6 => ?_)
  · exfalso; omega
  · refine a_iloadn dX11_text_9 rfl ?_
    refine a_aloadn dX11_text_10 rfl ?_
    refine b_getI (j' := 1) dX11_text_11 flX11_127 rfl rfl (L209 L) (fun hr11 => ?_)
    rw [sm_k, us_n (by decide)] at hr11 ⊢
    refine a_icmp_le (tgt := 20) dX11_text_14 (by decide) ⟨by omega, by omega⟩ hr11 (fun hb14 => ?_) (fun hb14 => ?_)
    · refine a_aloadn dX11_text_20 rfl ?_
      refine a_iloadn dX11_text_21 rfl ?_
      refine a_putI (j' := 6) dX11_text_22 flX11_136 rfl rfl (L209 L) (by decide) rfl ⟨by omega, by omega⟩ ?_
      refine a_aloadn dX11_text_25 rfl ?_
      refine a_iconst dX11_text_26 ?_
      refine a_putI (j' := 1) dX11_text_27 flX11_127 rfl rfl (L209 L) (by decide) rfl ⟨by omega, by omega⟩ ?_
      refine a_aloadn dX11_text_30 rfl ?_
      refine a_iconst dX11_text_31 ?_
      refine a_putI (j' := 4) dX11_text_32 flX11_130 rfl rfl (L209 L) (by decide) rfl ⟨by omega, by omega⟩ ?_
      refine a_aloadn dX11_text_35 rfl ?_
      refine a_iconst dX11_text_36 ?_
      refine a_putI (j' := 5) dX11_text_37 flX11_16 rfl rfl (L209 L) (by decide) rfl ⟨by omega, by omega⟩ ?_
      refine a_aloadn dX11_text_40 rfl ?_
      refine a_iconst dX11_text_41 ?_
      refine a_putI (j' := 7) dX11_text_42 flX11_139 rfl rfl (L209 L) (by decide) rfl ⟨by omega, by omega⟩ ?_
      refine a_aloadn dX11_text_45 rfl ?_
      obtain ⟨N0, eN0⟩ : ∃ N0, N0 = sm (sm (sm (sm (sm (sm M 209 2 0) 209 6 nn) 209 1 0) 209 4 0) 209 5 (-1)) 209 7 0 := ⟨_, rfl⟩
      rw [← eN0]
      refine a_callVv (as := []) (q := 209) dX11_text_46 mvX11_118 ⟨by decide, by decide⟩ (L209 L) rfl rfl rfl (Nat.le_of_ble_eq_true rfl) ⟨rfl, rfl⟩ ⟨by decide, by decide⟩ (m_X11_plain hP) ?_
      refine a_aloadn dX11_text_49 rfl ?_
      have p9 : ∀ i : Int, ¬ ((16 ≤ i ∧ i ≤ 19) ∨ i = 42) → plM N0 209 i = N0 209 i := fun i hi => by unfold plM; rw [plP_n (by decide) (by decide) (by decide), sm_k, us_n (by omega), sm_k, us_n (by omega), sm_k, us_n (by omega), sm_k, us_n (by omega), sm_k, us_n (by omega)]
      have pk : ∀ k : Nat, k ≠ 209 → k ≠ 212 → k ≠ 213 → k ≠ 223 → plM N0 k = N0 k := fun k a b c d => by unfold plM; rw [plP_n b c d, sm_n a, sm_n a, sm_n a, sm_n a, sm_n a]
      have f6 : plM N0 209 6 = nn := by rw [p9 6 (by omega), eN0]; simp (disch := decide) only [sm_k, us_s, us_n]
      have f7 : plM N0 209 7 = 0 := by rw [p9 7 (by omega), eN0]; simp (disch := decide) only [sm_k, us_s, us_n]
      have f4 : plM N0 209 4 = 0 := by rw [p9 4 (by omega), eN0]; simp (disch := decide) only [sm_k, us_s, us_n]
      have f5 : plM N0 209 5 = -1 := by rw [p9 5 (by omega), eN0]; simp (disch := decide) only [sm_k, us_s, us_n]
      have f10 : plM N0 210 = M 210 := by rw [pk 210 (by decide) (by decide) (by decide) (by decide), eN0]; simp (disch := decide) only [sm_n]
      have f11 : ∀ i : Int, 0 ≤ i → i < 107 → plM N0 211 i = wrd i := fun i a b => by rw [pk 211 (by decide) (by decide) (by decide) (by decide), eN0]; simp (disch := decide) only [sm_n]; exact hw i a b
      refine a_relVv (as := []) (q := 209) dX11_text_50 mvX11_176 ⟨by decide, by decide⟩ (L209 L) rfl rfl rfl (Nat.le_of_ble_eq_true rfl) ⟨rfl, rfl⟩ ⟨by decide, by decide⟩ (m_X11_token hP (by rw [f6]; omega) f11 (by rw [f6, f7]; omega)) (fun M1 hM1 => ?_)
      have ts : TkR (M 210) nn 0 (plM N0) M1 := by rw [f10, f6, f7] at hM1; exact hM1
      have rt := rt_ini ⟨hn.1, hn.2.2⟩ hu hI.1 ts f6 f10 ⟨f4, f5⟩ f11
      have tx := tx_ini (S := N0) hc ts.2.2.2
      refine a_iconst dX11_text_53 ?_
      refine c_istoren (ls' := [_, _, _]) dX11_text_54 (by decide) rfl rfl ?_
      refine a_loc (ls' := [some (aR 209), some (aI nn), some (aI (Mc t 0))]) (by rw [hc.1.1]) ?_
      have tv := hI.1.1
      have l4 := hu.2.1
      have l5 := hu.2.2.1
      have l1 := hu.1
      exact lpX11_text hP tt rfl (tkL Mc).toNat Mc M1 (by unfold tkL; omega) rt h0 hI tx ((FrT.rf _).fk ts.2.2.2) ⟨(nn + 1).toNat, by unfold tkL; omega, eF⟩
    · exfalso; omega

set_option maxRecDepth 100000 in
set_option maxHeartbeats 4000000 in
theorem m_X11_text0 {G : zG} {l : Launch} {L : Nat} {P : zP} {M : zM} {nn : Int} (hn : ¬ (0 ≤ nn ∧ nn ≤ M 209 1)) (hi : inR nn) : AM G l yX11_text mdX11_text [aR 209, aI nn] (LAY L) P M (zdet (some (aI (-2))) (LAY L) P (sm M 209 2 0)) := by
  refine AM.go [some (aR 209), some (aI nn), none] rfl (Nat.le_of_ble_eq_true rfl) ?_ (by decide) rfl rfl
  refine a_aloadn dX11_text_0 rfl ?_
  refine a_iconst dX11_text_1 ?_
  refine a_putI (j' := 2) dX11_text_2 flX11_124 rfl rfl (L209 L) (by decide) rfl ⟨by omega, by omega⟩ ?_
  refine a_iloadn dX11_text_5 rfl ?_
  refine a_if_lt (tgt := 17) dX11_text_6 (by decide) hi (fun hb6 => ?_) (fun hb6 => ?_)
  · refine a_bipush (w := (-2)) dX11_text_17 (by decide) ?_
    exact a_ireturn dX11_text_19 rfl rfl rfl (zdet_I (by first | rfl | omega) rfl)
  · refine a_iloadn dX11_text_9 rfl ?_
    refine a_aloadn dX11_text_10 rfl ?_
    refine b_getI (j' := 1) dX11_text_11 flX11_127 rfl rfl (L209 L) (fun hr11 => ?_)
    rw [sm_k, us_n (by decide)] at hr11 ⊢
    refine a_icmp_le (tgt := 20) dX11_text_14 (by decide) hi hr11 (fun hb14 => ?_) (fun hb14 => ?_)
    · exfalso; omega
    · refine a_bipush (w := (-2)) dX11_text_17 (by decide) ?_
      exact a_ireturn dX11_text_19 rfl rfl rfl (zdet_I (by first | rfl | omega) rfl)
