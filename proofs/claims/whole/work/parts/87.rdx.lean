theorem lw_val {M : zM} {a m : Int} (hv : TV M) (hs : M 43 9 ≠ 0) (hV : ∀ i : Int, 0 ≤ i → i < M 43 4 → inR (M 47 i)) : inR (lwM a m M 43 11) := by
  have l := hv.lt hs
  obtain ⟨h1, h2, h3⟩ := hv
  unfold lwM
  split
  · rw [(stT_4 M).2.2.2.2]; exact hV _ (by omega) (by omega)
  · rw [flM_n _ _ (by decide), h2.2.2]; exact hV _ (by omega) (by omega)
theorem wnF9_x (x : Int) : -1 ≤ wnF9 x ∧ wnF9 x ≤ 20 := wnF9_in x
theorem tkV_in {f : Int → Int} {n q : Int} (hq : q ≤ n) : inR (tkV f n q) ∧ (tkS f n q = 3 → 0 ≤ tkV f n q ∧ tkV f n q ≤ 20) := by
  unfold tkV tkS
  by_cases c0 : n ≤ q
  · rw [if_pos c0, if_pos c0]; exact ⟨⟨by omega, by omega⟩, by omega⟩
  rw [if_neg c0, if_neg c0]
  by_cases c1 : loF f q ≠ 0
  · rw [if_pos c1, if_pos c1]
    have h := rn_all (loF f) (n := n) (p := q) hq
    have wi := wvF_in (f := f) (a := q) (e := rnE (loF f) n q) (fun i h1 h2 => loF_1.mp (h.2.2.1 i h1 h2))
    have wn := wnF9_in (wvF f q (rnE (loF f) n q))
    by_cases c2 : 6 < rnE (loF f) n q - q
    · rw [if_pos c2, if_pos c2]; exact ⟨⟨by omega, by omega⟩, by omega⟩
    · rw [if_neg c2, if_neg c2]
      by_cases c3 : wnF9 (wvF f q (rnE (loF f) n q)) = -1
      · rw [if_pos c3, if_pos c3]; exact ⟨⟨by omega, by omega⟩, by omega⟩
      · rw [if_neg c3, if_neg c3]; exact ⟨⟨by omega, by omega⟩, fun _ => by omega⟩
  rw [if_neg c1, if_neg c1]
  by_cases c2 : diF f q ≠ 0
  · rw [if_pos c2, if_pos c2]
    have eb := rn_all (diF f) (n := n) (p := q) hq
    have hz := nv_q (f := f) (rnE (diF f) n q - q).toNat q 0 0 (fun i h1 h2 => diF_1.mp (eb.2.2.1 i h1 (by omega))) (by unfold nvq; omega)
    unfold nvq at hz
    exact ⟨⟨by omega, by omega⟩, by omega⟩
  · rw [if_neg c2, if_neg c2]
    have s := sgC_in (f q) (foll f n q)
    exact ⟨⟨by omega, by omega⟩, fun z => by split at z <;> omega⟩
/-- a text that is cut is ready to be read -/
theorem rd_ini {t : Nat} {M Ma Mc : zM} {nn : Int} {N : Nat} (ht : t = 4 ∨ t = 23) (hn : 0 ≤ nn ∧ nn ≤ 700) (hI : ToI M t) (hR : ∀ i : Int, 0 ≤ i → i < 14 → M 1 i = rnk i) (hc : clT t M Ma) (hu : CuR (M 3) nn N (sm (sm Ma 42 6 0) 42 7 (-1)) Mc) : RdI t Mc ∧ Mc 42 6 = 0 ∧ Mc 42 7 = -1 ∧ (∀ k : Nat, k ≠ 42 → k ≠ 43 → ¬ (45 ≤ k ∧ k ≤ 47) → Mc k = Ma k) := by
  obtain ⟨u1, u2, u3, u4, u5, u6, u7, u8⟩ := hu
  obtain ⟨c1, c2, c3, c4, c5, c6⟩ := hc
  have r : ∀ k : Nat, k ≠ 42 → k ≠ 43 → ¬ (45 ≤ k ∧ k ≤ 47) → Mc k = Ma k := fun k a b c => by rw [u8 k b (by omega) (by omega) (by omega), sm_n a, sm_n a]
  have e42 : Mc 42 = sm (sm Ma 42 6 0) 42 7 (-1) 42 := u8 42 (by decide) (by decide) (by decide) (by decide)
  have tv : ∀ i : Int, 0 ≤ i → i < Mc 43 4 → Mc 45 i = tkS (M 3) nn (plT (M 3) nn i.toNat) ∧ Mc 47 i = tkV (M 3) nn (plT (M 3) nn i.toNat) := fun i i0 i1 => by
    have z := u5 i.toNat (by omega)
    rw [show ((i.toNat : Nat) : Int) = i by omega] at z
    exact ⟨z.1, z.2.2⟩
  have pl : ∀ j : Nat, plT (M 3) nn j ≤ nn := fun j => (plT_in (M 3) hn.1 j).2.2
  have lw0 : ∀ w : Nat, (w = t + 13 ∨ w = t + 15 ∨ w = t + 17) → LwI Mc w := fun w hw => by
    have e : Mc w 1 = 0 := by
      rw [r w (by omega) (by omega) (by omega)]
      rcases hw with e | e | e <;> rw [e]
      · exact c5.1
      · exact c5.2.1
      · exact c5.2.2
    refine ⟨by omega, fun i i0 i1 => by omega⟩
  have ta := c2
  refine ⟨⟨⟨by omega, ?_, ?_⟩, ?_, ?_, ⟨lw0 _ (by omega), lw0 _ (by omega), lw0 _ (by omega)⟩, ?_, fun i i0 i1 => ?_, fun i i0 i1 => ?_, fun i i0 i1 i2 => ?_⟩, ?_, ?_, r⟩
  · rw [u3]; exact u4
  · have z := (u5 N (Nat.le_refl N)).1
    rw [show Mc 43 4 - 1 = (N : Int) by omega, z, u6]
    unfold tkS
    rw [if_pos (by omega)]
  · unfold ToI at hI ⊢
    rw [r t (by omega) (by omega) (by omega), r (t + 2) (by omega) (by omega) (by omega), r (t + 3) (by omega) (by omega) (by omega), r (t + 4) (by omega) (by omega) (by omega), r (t + 5) (by omega) (by omega) (by omega), r (t + 6) (by omega) (by omega) (by omega), r (t + 7) (by omega) (by omega) (by omega), r (t + 8) (by omega) (by omega) (by omega), r (t + 9) (by omega) (by omega) (by omega), r (t + 10) (by omega) (by omega) (by omega), c6 (t + 2) (by omega) (by omega) (by omega) (by omega) (by omega) (by omega), c6 (t + 3) (by omega) (by omega) (by omega) (by omega) (by omega) (by omega), c6 (t + 4) (by omega) (by omega) (by omega) (by omega) (by omega) (by omega), c6 (t + 5) (by omega) (by omega) (by omega) (by omega) (by omega) (by omega), c6 (t + 6) (by omega) (by omega) (by omega) (by omega) (by omega) (by omega), c6 (t + 7) (by omega) (by omega) (by omega) (by omega) (by omega) (by omega), c6 (t + 8) (by omega) (by omega) (by omega) (by omega) (by omega) (by omega), c6 (t + 9) (by omega) (by omega) (by omega) (by omega) (by omega) (by omega)]
    obtain ⟨a1, a2, a3, a4, a5, a6, a7, a8, a9, a10, a11⟩ := hI
    exact ⟨by omega, by omega, by omega, a4, a5, a6, a7, by omega, by omega, by omega, by omega⟩
  · rw [r t (by omega) (by omega) (by omega)]; omega
  · rw [r t (by omega) (by omega) (by omega)]; omega
  · rw [(tv i i0 i1).2]; exact (tkV_in (pl _)).1
  · rw [r 1 (by decide) (by decide) (by omega), c6 1 (by omega) (by omega) (by omega) (by omega) (by omega) (by omega)]; exact hR i i0 i1
  · rw [(tv i i0 i1).1] at i2
    rw [(tv i i0 i1).2]
    exact (tkV_in (pl _)).2 i2
  · rw [e42, sm_k, us_n (by decide), sm_s]
  · rw [e42, sm_s]
def rdL (t : Nat) : Nat → zM → zM
  | 0, M => M
  | n + 1, M => if M 42 6 = 0 ∧ M 43 9 ≠ 0 then rdL t n (leM t (rlnM t M)) else M
theorem rdL_s (t n : Nat) (M : zM) : rdL t (n + 1) M = if M 42 6 = 0 ∧ M 43 9 ≠ 0 then rdL t n (leM t (rlnM t M)) else M := rfl
theorem rdL_I {t : Nat} (ht : t = 4 ∨ t = 23) : ∀ (n : Nat) (M : zM), RdI t M → RdI t (rdL t n M) ∧ ∀ k : Nat, k ≠ 42 → k ≠ 43 → k ≠ 49 → ¬ (t ≤ k ∧ k ≤ t + 18) → rdL t n M k = M k
  | 0, M, h => ⟨h, fun _ _ _ _ _ => rfl⟩
  | n + 1, M, h => by
    rw [rdL_s]
    split
    · rename_i c
      have l := h.line ht c.1 c.2
      have z := rdL_I ht n _ l.1
      exact ⟨z.1, fun k k1 k2 k3 k4 => (z.2 k k1 k2 k3 k4).trans (l.2.1 k k1 k2 k3 k4)⟩
    · exact ⟨h, fun _ _ _ _ _ => rfl⟩

set_option maxRecDepth 100000 in
set_option maxHeartbeats 4000000 in
theorem m_X4_readLine {G : zG} {l : Launch} {L : Nat} {P : zP} {M : zM} {t : Nat} (hP : PFok P) (h42 : P 42 1 = some t) (hT : ToA L P t) (ht : t = 4 ∨ t = 23) (h : RdI t M) (h0 : M 42 6 = 0) (hs : M 43 9 ≠ 0) : AM G l yX4_readLine mdX4_readLine [aR 42] (LAY L) P M (zpe (LAY L) P (fun M' => M' = rlnM t M)) := by
  refine AM.go [some (aR 42)] rfl (Nat.le_of_ble_eq_true rfl) ?_ (by decide) rfl rfl
  refine a_aloadn dX4_readLine_0 rfl ?_
  refine a_getR (j' := 0) (y := 43) dX4_readLine_1 flX4_12 rfl rfl (L42 L) (p42_0 hP) ?_
  refine b_getI (j' := 9) dX4_readLine_4 flX4_50 rfl rfl (L43 L) (fun hr4 => ?_)
  refine a_iconst dX4_readLine_7 ?_
  refine a_icmp_ne (tgt := 21) dX4_readLine_8 (by decide) hr4 ⟨by omega, by omega⟩ (fun hb8 => ?_) (fun hb8 => ?_)
  · refine a_iconst dX4_readLine_21 ?_
    obtain ⟨x9, ex⟩ : ∃ x9, x9 = lvM M := ⟨_, rfl⟩
    refine a_stk (st' := [aI x9]) (by rw [ex]; unfold lvM; first | (rw [if_pos (by omega)]; done) | (rw [if_neg (by omega)]; done)) ?_
    have rx : -1 ≤ x9 ∧ x9 ≤ 20 := by rw [ex]; unfold lvM; split; (rename_i c9; have := h.2.2.2.2.2.2.2.at h.1 c9; omega); omega
    rcases (show x9 = 0 ∨ x9 = 1 ∨ x9 = 2 ∨ x9 = 3 ∨ x9 = 4 ∨ x9 = 5 ∨ x9 = 6 ∨ x9 = 7 ∨ (x9 < 0 ∨ 7 < x9) by omega) with e22 | e22 | e22 | e22 | e22 | e22 | e22 | e22 | e22
    · refine c_tabIn (tgt := 68) (off := 46) e22 dX4_readLine_22 ⟨by decide, by decide⟩ (by decide) (by decide) rfl (by decide) ?_
      refine a_aloadn dX4_readLine_68 rfl ?_
      refine a_callVv (as := []) (q := 42) dX4_readLine_69 mvX4_63 ⟨by decide, by decide⟩ (L42 L) rfl rfl rfl (Nat.le_of_ble_eq_true rfl) ⟨rfl, rfl⟩ ⟨by decide, by decide⟩ (m_X4_readHouse hP h42 hT ht h.2.1 h.1 hs h0 (lw_val h.1 hs h.2.2.2.2.2.1)) ?_
      refine a_goto (tgt := 145) dX4_readLine_72 (by decide) ?_
      exact a_return dX4_readLine_145 rfl rfl rfl (by
      unfold zpe
      rcases (show lvM M = 0 ∨ lvM M = 1 ∨ lvM M = 2 ∨ lvM M = 3 ∨ lvM M = 4 ∨ lvM M = 5 ∨ lvM M = 6 ∨ lvM M = 7 ∨ (lvM M < 0 ∨ 7 < lvM M) by omega) with q | q | q | q | q | q | q | q | q
      · first | (exfalso; omega) | exact ⟨rfl, rfl, PE.rf P, by unfold rlnM; rw [if_pos (by omega)]⟩ | exact ⟨rfl, rfl, hP1, by rw [hM1]; unfold rlnM; rw [if_pos (by omega)]⟩
      · first | (exfalso; omega) | exact ⟨rfl, rfl, PE.rf P, by unfold rlnM; rw [if_neg (by omega), if_pos (by omega)]⟩ | exact ⟨rfl, rfl, hP1, by rw [hM1]; unfold rlnM; rw [if_neg (by omega), if_pos (by omega)]⟩
      · first | (exfalso; omega) | exact ⟨rfl, rfl, PE.rf P, by unfold rlnM; rw [if_neg (by omega), if_neg (by omega), if_pos (by omega)]⟩ | exact ⟨rfl, rfl, hP1, by rw [hM1]; unfold rlnM; rw [if_neg (by omega), if_neg (by omega), if_pos (by omega)]⟩
      · first | (exfalso; omega) | exact ⟨rfl, rfl, PE.rf P, by unfold rlnM; rw [if_neg (by omega), if_neg (by omega), if_neg (by omega), if_pos (by omega)]⟩ | exact ⟨rfl, rfl, hP1, by rw [hM1]; unfold rlnM; rw [if_neg (by omega), if_neg (by omega), if_neg (by omega), if_pos (by omega)]⟩
      · first | (exfalso; omega) | exact ⟨rfl, rfl, PE.rf P, by unfold rlnM; rw [if_neg (by omega), if_neg (by omega), if_neg (by omega), if_neg (by omega), if_pos (by omega)]⟩ | exact ⟨rfl, rfl, hP1, by rw [hM1]; unfold rlnM; rw [if_neg (by omega), if_neg (by omega), if_neg (by omega), if_neg (by omega), if_pos (by omega)]⟩
      · first | (exfalso; omega) | exact ⟨rfl, rfl, PE.rf P, by unfold rlnM; rw [if_neg (by omega), if_neg (by omega), if_neg (by omega), if_neg (by omega), if_neg (by omega), if_pos (by omega)]⟩ | exact ⟨rfl, rfl, hP1, by rw [hM1]; unfold rlnM; rw [if_neg (by omega), if_neg (by omega), if_neg (by omega), if_neg (by omega), if_neg (by omega), if_pos (by omega)]⟩
      · first | (exfalso; omega) | exact ⟨rfl, rfl, PE.rf P, by unfold rlnM; rw [if_neg (by omega), if_neg (by omega), if_neg (by omega), if_neg (by omega), if_neg (by omega), if_neg (by omega), if_pos (by omega)]⟩ | exact ⟨rfl, rfl, hP1, by rw [hM1]; unfold rlnM; rw [if_neg (by omega), if_neg (by omega), if_neg (by omega), if_neg (by omega), if_neg (by omega), if_neg (by omega), if_pos (by omega)]⟩
      · first | (exfalso; omega) | exact ⟨rfl, rfl, PE.rf P, by unfold rlnM; rw [if_neg (by omega), if_neg (by omega), if_neg (by omega), if_neg (by omega), if_neg (by omega), if_neg (by omega), if_neg (by omega), if_pos (by omega)]⟩ | exact ⟨rfl, rfl, hP1, by rw [hM1]; unfold rlnM; rw [if_neg (by omega), if_neg (by omega), if_neg (by omega), if_neg (by omega), if_neg (by omega), if_neg (by omega), if_neg (by omega), if_pos (by omega)]⟩
      · first | (exfalso; omega) | exact ⟨rfl, rfl, PE.rf P, by unfold rlnM; rw [if_neg (by omega), if_neg (by omega), if_neg (by omega), if_neg (by omega), if_neg (by omega), if_neg (by omega), if_neg (by omega), if_neg (by omega)]⟩)
    · refine c_tabIn (tgt := 75) (off := 53) e22 dX4_readLine_22 ⟨by decide, by decide⟩ (by decide) (by decide) rfl (by decide) ?_
      refine a_aloadn dX4_readLine_75 rfl ?_
      refine a_callVv (as := []) (q := 42) dX4_readLine_76 mvX4_66 ⟨by decide, by decide⟩ (L42 L) rfl rfl rfl (Nat.le_of_ble_eq_true rfl) ⟨rfl, rfl⟩ ⟨by decide, by decide⟩ (m_X4_readTurn hP h42 hT ht h.2.1 h.1 hs h0 (lw_val h.1 hs h.2.2.2.2.2.1)) ?_
      refine a_goto (tgt := 145) dX4_readLine_79 (by decide) ?_
      exact a_return dX4_readLine_145 rfl rfl rfl (by
      unfold zpe
      rcases (show lvM M = 0 ∨ lvM M = 1 ∨ lvM M = 2 ∨ lvM M = 3 ∨ lvM M = 4 ∨ lvM M = 5 ∨ lvM M = 6 ∨ lvM M = 7 ∨ (lvM M < 0 ∨ 7 < lvM M) by omega) with q | q | q | q | q | q | q | q | q
      · first | (exfalso; omega) | exact ⟨rfl, rfl, PE.rf P, by unfold rlnM; rw [if_pos (by omega)]⟩ | exact ⟨rfl, rfl, hP1, by rw [hM1]; unfold rlnM; rw [if_pos (by omega)]⟩
      · first | (exfalso; omega) | exact ⟨rfl, rfl, PE.rf P, by unfold rlnM; rw [if_neg (by omega), if_pos (by omega)]⟩ | exact ⟨rfl, rfl, hP1, by rw [hM1]; unfold rlnM; rw [if_neg (by omega), if_pos (by omega)]⟩
      · first | (exfalso; omega) | exact ⟨rfl, rfl, PE.rf P, by unfold rlnM; rw [if_neg (by omega), if_neg (by omega), if_pos (by omega)]⟩ | exact ⟨rfl, rfl, hP1, by rw [hM1]; unfold rlnM; rw [if_neg (by omega), if_neg (by omega), if_pos (by omega)]⟩
      · first | (exfalso; omega) | exact ⟨rfl, rfl, PE.rf P, by unfold rlnM; rw [if_neg (by omega), if_neg (by omega), if_neg (by omega), if_pos (by omega)]⟩ | exact ⟨rfl, rfl, hP1, by rw [hM1]; unfold rlnM; rw [if_neg (by omega), if_neg (by omega), if_neg (by omega), if_pos (by omega)]⟩
      · first | (exfalso; omega) | exact ⟨rfl, rfl, PE.rf P, by unfold rlnM; rw [if_neg (by omega), if_neg (by omega), if_neg (by omega), if_neg (by omega), if_pos (by omega)]⟩ | exact ⟨rfl, rfl, hP1, by rw [hM1]; unfold rlnM; rw [if_neg (by omega), if_neg (by omega), if_neg (by omega), if_neg (by omega), if_pos (by omega)]⟩
      · first | (exfalso; omega) | exact ⟨rfl, rfl, PE.rf P, by unfold rlnM; rw [if_neg (by omega), if_neg (by omega), if_neg (by omega), if_neg (by omega), if_neg (by omega), if_pos (by omega)]⟩ | exact ⟨rfl, rfl, hP1, by rw [hM1]; unfold rlnM; rw [if_neg (by omega), if_neg (by omega), if_neg (by omega), if_neg (by omega), if_neg (by omega), if_pos (by omega)]⟩
      · first | (exfalso; omega) | exact ⟨rfl, rfl, PE.rf P, by unfold rlnM; rw [if_neg (by omega), if_neg (by omega), if_neg (by omega), if_neg (by omega), if_neg (by omega), if_neg (by omega), if_pos (by omega)]⟩ | exact ⟨rfl, rfl, hP1, by rw [hM1]; unfold rlnM; rw [if_neg (by omega), if_neg (by omega), if_neg (by omega), if_neg (by omega), if_neg (by omega), if_neg (by omega), if_pos (by omega)]⟩
      · first | (exfalso; omega) | exact ⟨rfl, rfl, PE.rf P, by unfold rlnM; rw [if_neg (by omega), if_neg (by omega), if_neg (by omega), if_neg (by omega), if_neg (by omega), if_neg (by omega), if_neg (by omega), if_pos (by omega)]⟩ | exact ⟨rfl, rfl, hP1, by rw [hM1]; unfold rlnM; rw [if_neg (by omega), if_neg (by omega), if_neg (by omega), if_neg (by omega), if_neg (by omega), if_neg (by omega), if_neg (by omega), if_pos (by omega)]⟩
      · first | (exfalso; omega) | exact ⟨rfl, rfl, PE.rf P, by unfold rlnM; rw [if_neg (by omega), if_neg (by omega), if_neg (by omega), if_neg (by omega), if_neg (by omega), if_neg (by omega), if_neg (by omega), if_neg (by omega)]⟩)
    · refine c_tabIn (tgt := 82) (off := 60) e22 dX4_readLine_22 ⟨by decide, by decide⟩ (by decide) (by decide) rfl (by decide) ?_
      refine a_aloadn dX4_readLine_82 rfl ?_
      refine a_callVv (as := []) (q := 42) dX4_readLine_83 mvX4_69 ⟨by decide, by decide⟩ (L42 L) rfl rfl rfl (Nat.le_of_ble_eq_true rfl) ⟨rfl, rfl⟩ ⟨by decide, by decide⟩ (m_X4_readSound hP h42 hT ht h.2.1 h.1 hs h0 (lw_val h.1 hs h.2.2.2.2.2.1)) ?_
      refine a_goto (tgt := 145) dX4_readLine_86 (by decide) ?_
      exact a_return dX4_readLine_145 rfl rfl rfl (by
      unfold zpe
      rcases (show lvM M = 0 ∨ lvM M = 1 ∨ lvM M = 2 ∨ lvM M = 3 ∨ lvM M = 4 ∨ lvM M = 5 ∨ lvM M = 6 ∨ lvM M = 7 ∨ (lvM M < 0 ∨ 7 < lvM M) by omega) with q | q | q | q | q | q | q | q | q
      · first | (exfalso; omega) | exact ⟨rfl, rfl, PE.rf P, by unfold rlnM; rw [if_pos (by omega)]⟩ | exact ⟨rfl, rfl, hP1, by rw [hM1]; unfold rlnM; rw [if_pos (by omega)]⟩
      · first | (exfalso; omega) | exact ⟨rfl, rfl, PE.rf P, by unfold rlnM; rw [if_neg (by omega), if_pos (by omega)]⟩ | exact ⟨rfl, rfl, hP1, by rw [hM1]; unfold rlnM; rw [if_neg (by omega), if_pos (by omega)]⟩
      · first | (exfalso; omega) | exact ⟨rfl, rfl, PE.rf P, by unfold rlnM; rw [if_neg (by omega), if_neg (by omega), if_pos (by omega)]⟩ | exact ⟨rfl, rfl, hP1, by rw [hM1]; unfold rlnM; rw [if_neg (by omega), if_neg (by omega), if_pos (by omega)]⟩
      · first | (exfalso; omega) | exact ⟨rfl, rfl, PE.rf P, by unfold rlnM; rw [if_neg (by omega), if_neg (by omega), if_neg (by omega), if_pos (by omega)]⟩ | exact ⟨rfl, rfl, hP1, by rw [hM1]; unfold rlnM; rw [if_neg (by omega), if_neg (by omega), if_neg (by omega), if_pos (by omega)]⟩
      · first | (exfalso; omega) | exact ⟨rfl, rfl, PE.rf P, by unfold rlnM; rw [if_neg (by omega), if_neg (by omega), if_neg (by omega), if_neg (by omega), if_pos (by omega)]⟩ | exact ⟨rfl, rfl, hP1, by rw [hM1]; unfold rlnM; rw [if_neg (by omega), if_neg (by omega), if_neg (by omega), if_neg (by omega), if_pos (by omega)]⟩
      · first | (exfalso; omega) | exact ⟨rfl, rfl, PE.rf P, by unfold rlnM; rw [if_neg (by omega), if_neg (by omega), if_neg (by omega), if_neg (by omega), if_neg (by omega), if_pos (by omega)]⟩ | exact ⟨rfl, rfl, hP1, by rw [hM1]; unfold rlnM; rw [if_neg (by omega), if_neg (by omega), if_neg (by omega), if_neg (by omega), if_neg (by omega), if_pos (by omega)]⟩
      · first | (exfalso; omega) | exact ⟨rfl, rfl, PE.rf P, by unfold rlnM; rw [if_neg (by omega), if_neg (by omega), if_neg (by omega), if_neg (by omega), if_neg (by omega), if_neg (by omega), if_pos (by omega)]⟩ | exact ⟨rfl, rfl, hP1, by rw [hM1]; unfold rlnM; rw [if_neg (by omega), if_neg (by omega), if_neg (by omega), if_neg (by omega), if_neg (by omega), if_neg (by omega), if_pos (by omega)]⟩
      · first | (exfalso; omega) | exact ⟨rfl, rfl, PE.rf P, by unfold rlnM; rw [if_neg (by omega), if_neg (by omega), if_neg (by omega), if_neg (by omega), if_neg (by omega), if_neg (by omega), if_neg (by omega), if_pos (by omega)]⟩ | exact ⟨rfl, rfl, hP1, by rw [hM1]; unfold rlnM; rw [if_neg (by omega), if_neg (by omega), if_neg (by omega), if_neg (by omega), if_neg (by omega), if_neg (by omega), if_neg (by omega), if_pos (by omega)]⟩
      · first | (exfalso; omega) | exact ⟨rfl, rfl, PE.rf P, by unfold rlnM; rw [if_neg (by omega), if_neg (by omega), if_neg (by omega), if_neg (by omega), if_neg (by omega), if_neg (by omega), if_neg (by omega), if_neg (by omega)]⟩)
    · refine c_tabIn (tgt := 89) (off := 67) e22 dX4_readLine_22 ⟨by decide, by decide⟩ (by decide) (by decide) rfl (by decide) ?_
      refine a_aloadn dX4_readLine_89 rfl ?_
      refine a_iconst dX4_readLine_90 ?_
      refine a_iconst dX4_readLine_91 ?_
      refine a_bipush (w := 20) dX4_readLine_92 (by decide) ?_
      refine a_callVv (as := [_, _, _]) (q := 42) dX4_readLine_94 mvX4_72 ⟨by decide, by decide⟩ (L42 L) rfl rfl rfl (Nat.le_of_ble_eq_true rfl) ⟨rfl, rfl⟩ ⟨by decide, by decide⟩ (m_X4_readSetting hP h42 hT ht h.2.1 h.1 hs h0 ⟨by omega, by omega⟩ ⟨by omega, by omega⟩ ⟨by omega, by omega⟩ (by omega)) ?_
      refine a_goto (tgt := 145) dX4_readLine_97 (by decide) ?_
      exact a_return dX4_readLine_145 rfl rfl rfl (by
      unfold zpe
      rcases (show lvM M = 0 ∨ lvM M = 1 ∨ lvM M = 2 ∨ lvM M = 3 ∨ lvM M = 4 ∨ lvM M = 5 ∨ lvM M = 6 ∨ lvM M = 7 ∨ (lvM M < 0 ∨ 7 < lvM M) by omega) with q | q | q | q | q | q | q | q | q
      · first | (exfalso; omega) | exact ⟨rfl, rfl, PE.rf P, by unfold rlnM; rw [if_pos (by omega)]⟩ | exact ⟨rfl, rfl, hP1, by rw [hM1]; unfold rlnM; rw [if_pos (by omega)]⟩
      · first | (exfalso; omega) | exact ⟨rfl, rfl, PE.rf P, by unfold rlnM; rw [if_neg (by omega), if_pos (by omega)]⟩ | exact ⟨rfl, rfl, hP1, by rw [hM1]; unfold rlnM; rw [if_neg (by omega), if_pos (by omega)]⟩
      · first | (exfalso; omega) | exact ⟨rfl, rfl, PE.rf P, by unfold rlnM; rw [if_neg (by omega), if_neg (by omega), if_pos (by omega)]⟩ | exact ⟨rfl, rfl, hP1, by rw [hM1]; unfold rlnM; rw [if_neg (by omega), if_neg (by omega), if_pos (by omega)]⟩
      · first | (exfalso; omega) | exact ⟨rfl, rfl, PE.rf P, by unfold rlnM; rw [if_neg (by omega), if_neg (by omega), if_neg (by omega), if_pos (by omega)]⟩ | exact ⟨rfl, rfl, hP1, by rw [hM1]; unfold rlnM; rw [if_neg (by omega), if_neg (by omega), if_neg (by omega), if_pos (by omega)]⟩
      · first | (exfalso; omega) | exact ⟨rfl, rfl, PE.rf P, by unfold rlnM; rw [if_neg (by omega), if_neg (by omega), if_neg (by omega), if_neg (by omega), if_pos (by omega)]⟩ | exact ⟨rfl, rfl, hP1, by rw [hM1]; unfold rlnM; rw [if_neg (by omega), if_neg (by omega), if_neg (by omega), if_neg (by omega), if_pos (by omega)]⟩
      · first | (exfalso; omega) | exact ⟨rfl, rfl, PE.rf P, by unfold rlnM; rw [if_neg (by omega), if_neg (by omega), if_neg (by omega), if_neg (by omega), if_neg (by omega), if_pos (by omega)]⟩ | exact ⟨rfl, rfl, hP1, by rw [hM1]; unfold rlnM; rw [if_neg (by omega), if_neg (by omega), if_neg (by omega), if_neg (by omega), if_neg (by omega), if_pos (by omega)]⟩
      · first | (exfalso; omega) | exact ⟨rfl, rfl, PE.rf P, by unfold rlnM; rw [if_neg (by omega), if_neg (by omega), if_neg (by omega), if_neg (by omega), if_neg (by omega), if_neg (by omega), if_pos (by omega)]⟩ | exact ⟨rfl, rfl, hP1, by rw [hM1]; unfold rlnM; rw [if_neg (by omega), if_neg (by omega), if_neg (by omega), if_neg (by omega), if_neg (by omega), if_neg (by omega), if_pos (by omega)]⟩
      · first | (exfalso; omega) | exact ⟨rfl, rfl, PE.rf P, by unfold rlnM; rw [if_neg (by omega), if_neg (by omega), if_neg (by omega), if_neg (by omega), if_neg (by omega), if_neg (by omega), if_neg (by omega), if_pos (by omega)]⟩ | exact ⟨rfl, rfl, hP1, by rw [hM1]; unfold rlnM; rw [if_neg (by omega), if_neg (by omega), if_neg (by omega), if_neg (by omega), if_neg (by omega), if_neg (by omega), if_neg (by omega), if_pos (by omega)]⟩
      · first | (exfalso; omega) | exact ⟨rfl, rfl, PE.rf P, by unfold rlnM; rw [if_neg (by omega), if_neg (by omega), if_neg (by omega), if_neg (by omega), if_neg (by omega), if_neg (by omega), if_neg (by omega), if_neg (by omega)]⟩)
    · refine c_tabIn (tgt := 100) (off := 78) e22 dX4_readLine_22 ⟨by decide, by decide⟩ (by decide) (by decide) rfl (by decide) ?_
      refine a_aloadn dX4_readLine_100 rfl ?_
      refine a_iconst dX4_readLine_101 ?_
      refine a_iconst dX4_readLine_102 ?_
      refine a_bipush (w := 9) dX4_readLine_103 (by decide) ?_
      refine a_callVv (as := [_, _, _]) (q := 42) dX4_readLine_105 mvX4_72 ⟨by decide, by decide⟩ (L42 L) rfl rfl rfl (Nat.le_of_ble_eq_true rfl) ⟨rfl, rfl⟩ ⟨by decide, by decide⟩ (m_X4_readSetting hP h42 hT ht h.2.1 h.1 hs h0 ⟨by omega, by omega⟩ ⟨by omega, by omega⟩ ⟨by omega, by omega⟩ (by omega)) ?_
      refine a_goto (tgt := 145) dX4_readLine_108 (by decide) ?_
      exact a_return dX4_readLine_145 rfl rfl rfl (by
      unfold zpe
      rcases (show lvM M = 0 ∨ lvM M = 1 ∨ lvM M = 2 ∨ lvM M = 3 ∨ lvM M = 4 ∨ lvM M = 5 ∨ lvM M = 6 ∨ lvM M = 7 ∨ (lvM M < 0 ∨ 7 < lvM M) by omega) with q | q | q | q | q | q | q | q | q
      · first | (exfalso; omega) | exact ⟨rfl, rfl, PE.rf P, by unfold rlnM; rw [if_pos (by omega)]⟩ | exact ⟨rfl, rfl, hP1, by rw [hM1]; unfold rlnM; rw [if_pos (by omega)]⟩
      · first | (exfalso; omega) | exact ⟨rfl, rfl, PE.rf P, by unfold rlnM; rw [if_neg (by omega), if_pos (by omega)]⟩ | exact ⟨rfl, rfl, hP1, by rw [hM1]; unfold rlnM; rw [if_neg (by omega), if_pos (by omega)]⟩
      · first | (exfalso; omega) | exact ⟨rfl, rfl, PE.rf P, by unfold rlnM; rw [if_neg (by omega), if_neg (by omega), if_pos (by omega)]⟩ | exact ⟨rfl, rfl, hP1, by rw [hM1]; unfold rlnM; rw [if_neg (by omega), if_neg (by omega), if_pos (by omega)]⟩
      · first | (exfalso; omega) | exact ⟨rfl, rfl, PE.rf P, by unfold rlnM; rw [if_neg (by omega), if_neg (by omega), if_neg (by omega), if_pos (by omega)]⟩ | exact ⟨rfl, rfl, hP1, by rw [hM1]; unfold rlnM; rw [if_neg (by omega), if_neg (by omega), if_neg (by omega), if_pos (by omega)]⟩
      · first | (exfalso; omega) | exact ⟨rfl, rfl, PE.rf P, by unfold rlnM; rw [if_neg (by omega), if_neg (by omega), if_neg (by omega), if_neg (by omega), if_pos (by omega)]⟩ | exact ⟨rfl, rfl, hP1, by rw [hM1]; unfold rlnM; rw [if_neg (by omega), if_neg (by omega), if_neg (by omega), if_neg (by omega), if_pos (by omega)]⟩
      · first | (exfalso; omega) | exact ⟨rfl, rfl, PE.rf P, by unfold rlnM; rw [if_neg (by omega), if_neg (by omega), if_neg (by omega), if_neg (by omega), if_neg (by omega), if_pos (by omega)]⟩ | exact ⟨rfl, rfl, hP1, by rw [hM1]; unfold rlnM; rw [if_neg (by omega), if_neg (by omega), if_neg (by omega), if_neg (by omega), if_neg (by omega), if_pos (by omega)]⟩
      · first | (exfalso; omega) | exact ⟨rfl, rfl, PE.rf P, by unfold rlnM; rw [if_neg (by omega), if_neg (by omega), if_neg (by omega), if_neg (by omega), if_neg (by omega), if_neg (by omega), if_pos (by omega)]⟩ | exact ⟨rfl, rfl, hP1, by rw [hM1]; unfold rlnM; rw [if_neg (by omega), if_neg (by omega), if_neg (by omega), if_neg (by omega), if_neg (by omega), if_neg (by omega), if_pos (by omega)]⟩
      · first | (exfalso; omega) | exact ⟨rfl, rfl, PE.rf P, by unfold rlnM; rw [if_neg (by omega), if_neg (by omega), if_neg (by omega), if_neg (by omega), if_neg (by omega), if_neg (by omega), if_neg (by omega), if_pos (by omega)]⟩ | exact ⟨rfl, rfl, hP1, by rw [hM1]; unfold rlnM; rw [if_neg (by omega), if_neg (by omega), if_neg (by omega), if_neg (by omega), if_neg (by omega), if_neg (by omega), if_neg (by omega), if_pos (by omega)]⟩
      · first | (exfalso; omega) | exact ⟨rfl, rfl, PE.rf P, by unfold rlnM; rw [if_neg (by omega), if_neg (by omega), if_neg (by omega), if_neg (by omega), if_neg (by omega), if_neg (by omega), if_neg (by omega), if_neg (by omega)]⟩)
    · refine c_tabIn (tgt := 111) (off := 89) e22 dX4_readLine_22 ⟨by decide, by decide⟩ (by decide) (by decide) rfl (by decide) ?_
      refine a_aloadn dX4_readLine_111 rfl ?_
      refine a_iconst dX4_readLine_112 ?_
      refine a_iconst dX4_readLine_113 ?_
      refine a_bipush (w := 100) dX4_readLine_114 (by decide) ?_
      refine a_callVv (as := [_, _, _]) (q := 42) dX4_readLine_116 mvX4_72 ⟨by decide, by decide⟩ (L42 L) rfl rfl rfl (Nat.le_of_ble_eq_true rfl) ⟨rfl, rfl⟩ ⟨by decide, by decide⟩ (m_X4_readSetting hP h42 hT ht h.2.1 h.1 hs h0 ⟨by omega, by omega⟩ ⟨by omega, by omega⟩ ⟨by omega, by omega⟩ (by omega)) ?_
      refine a_goto (tgt := 145) dX4_readLine_119 (by decide) ?_
      exact a_return dX4_readLine_145 rfl rfl rfl (by
      unfold zpe
      rcases (show lvM M = 0 ∨ lvM M = 1 ∨ lvM M = 2 ∨ lvM M = 3 ∨ lvM M = 4 ∨ lvM M = 5 ∨ lvM M = 6 ∨ lvM M = 7 ∨ (lvM M < 0 ∨ 7 < lvM M) by omega) with q | q | q | q | q | q | q | q | q
      · first | (exfalso; omega) | exact ⟨rfl, rfl, PE.rf P, by unfold rlnM; rw [if_pos (by omega)]⟩ | exact ⟨rfl, rfl, hP1, by rw [hM1]; unfold rlnM; rw [if_pos (by omega)]⟩
      · first | (exfalso; omega) | exact ⟨rfl, rfl, PE.rf P, by unfold rlnM; rw [if_neg (by omega), if_pos (by omega)]⟩ | exact ⟨rfl, rfl, hP1, by rw [hM1]; unfold rlnM; rw [if_neg (by omega), if_pos (by omega)]⟩
      · first | (exfalso; omega) | exact ⟨rfl, rfl, PE.rf P, by unfold rlnM; rw [if_neg (by omega), if_neg (by omega), if_pos (by omega)]⟩ | exact ⟨rfl, rfl, hP1, by rw [hM1]; unfold rlnM; rw [if_neg (by omega), if_neg (by omega), if_pos (by omega)]⟩
      · first | (exfalso; omega) | exact ⟨rfl, rfl, PE.rf P, by unfold rlnM; rw [if_neg (by omega), if_neg (by omega), if_neg (by omega), if_pos (by omega)]⟩ | exact ⟨rfl, rfl, hP1, by rw [hM1]; unfold rlnM; rw [if_neg (by omega), if_neg (by omega), if_neg (by omega), if_pos (by omega)]⟩
      · first | (exfalso; omega) | exact ⟨rfl, rfl, PE.rf P, by unfold rlnM; rw [if_neg (by omega), if_neg (by omega), if_neg (by omega), if_neg (by omega), if_pos (by omega)]⟩ | exact ⟨rfl, rfl, hP1, by rw [hM1]; unfold rlnM; rw [if_neg (by omega), if_neg (by omega), if_neg (by omega), if_neg (by omega), if_pos (by omega)]⟩
      · first | (exfalso; omega) | exact ⟨rfl, rfl, PE.rf P, by unfold rlnM; rw [if_neg (by omega), if_neg (by omega), if_neg (by omega), if_neg (by omega), if_neg (by omega), if_pos (by omega)]⟩ | exact ⟨rfl, rfl, hP1, by rw [hM1]; unfold rlnM; rw [if_neg (by omega), if_neg (by omega), if_neg (by omega), if_neg (by omega), if_neg (by omega), if_pos (by omega)]⟩
      · first | (exfalso; omega) | exact ⟨rfl, rfl, PE.rf P, by unfold rlnM; rw [if_neg (by omega), if_neg (by omega), if_neg (by omega), if_neg (by omega), if_neg (by omega), if_neg (by omega), if_pos (by omega)]⟩ | exact ⟨rfl, rfl, hP1, by rw [hM1]; unfold rlnM; rw [if_neg (by omega), if_neg (by omega), if_neg (by omega), if_neg (by omega), if_neg (by omega), if_neg (by omega), if_pos (by omega)]⟩
      · first | (exfalso; omega) | exact ⟨rfl, rfl, PE.rf P, by unfold rlnM; rw [if_neg (by omega), if_neg (by omega), if_neg (by omega), if_neg (by omega), if_neg (by omega), if_neg (by omega), if_neg (by omega), if_pos (by omega)]⟩ | exact ⟨rfl, rfl, hP1, by rw [hM1]; unfold rlnM; rw [if_neg (by omega), if_neg (by omega), if_neg (by omega), if_neg (by omega), if_neg (by omega), if_neg (by omega), if_neg (by omega), if_pos (by omega)]⟩
      · first | (exfalso; omega) | exact ⟨rfl, rfl, PE.rf P, by unfold rlnM; rw [if_neg (by omega), if_neg (by omega), if_neg (by omega), if_neg (by omega), if_neg (by omega), if_neg (by omega), if_neg (by omega), if_neg (by omega)]⟩)
    · refine c_tabIn (tgt := 122) (off := 100) e22 dX4_readLine_22 ⟨by decide, by decide⟩ (by decide) (by decide) rfl (by decide) ?_
      refine a_aloadn dX4_readLine_122 rfl ?_
      refine a_iconst dX4_readLine_123 ?_
      refine a_iconst dX4_readLine_124 ?_
      refine a_ldc (w := 99999) dX4_readLine_125 knX4_76 (by decide) ?_
      refine a_callVv (as := [_, _, _]) (q := 42) dX4_readLine_127 mvX4_72 ⟨by decide, by decide⟩ (L42 L) rfl rfl rfl (Nat.le_of_ble_eq_true rfl) ⟨rfl, rfl⟩ ⟨by decide, by decide⟩ (m_X4_readSetting hP h42 hT ht h.2.1 h.1 hs h0 ⟨by omega, by omega⟩ ⟨by omega, by omega⟩ ⟨by omega, by omega⟩ (by omega)) ?_
      refine a_goto (tgt := 145) dX4_readLine_130 (by decide) ?_
      exact a_return dX4_readLine_145 rfl rfl rfl (by
      unfold zpe
      rcases (show lvM M = 0 ∨ lvM M = 1 ∨ lvM M = 2 ∨ lvM M = 3 ∨ lvM M = 4 ∨ lvM M = 5 ∨ lvM M = 6 ∨ lvM M = 7 ∨ (lvM M < 0 ∨ 7 < lvM M) by omega) with q | q | q | q | q | q | q | q | q
      · first | (exfalso; omega) | exact ⟨rfl, rfl, PE.rf P, by unfold rlnM; rw [if_pos (by omega)]⟩ | exact ⟨rfl, rfl, hP1, by rw [hM1]; unfold rlnM; rw [if_pos (by omega)]⟩
      · first | (exfalso; omega) | exact ⟨rfl, rfl, PE.rf P, by unfold rlnM; rw [if_neg (by omega), if_pos (by omega)]⟩ | exact ⟨rfl, rfl, hP1, by rw [hM1]; unfold rlnM; rw [if_neg (by omega), if_pos (by omega)]⟩
      · first | (exfalso; omega) | exact ⟨rfl, rfl, PE.rf P, by unfold rlnM; rw [if_neg (by omega), if_neg (by omega), if_pos (by omega)]⟩ | exact ⟨rfl, rfl, hP1, by rw [hM1]; unfold rlnM; rw [if_neg (by omega), if_neg (by omega), if_pos (by omega)]⟩
      · first | (exfalso; omega) | exact ⟨rfl, rfl, PE.rf P, by unfold rlnM; rw [if_neg (by omega), if_neg (by omega), if_neg (by omega), if_pos (by omega)]⟩ | exact ⟨rfl, rfl, hP1, by rw [hM1]; unfold rlnM; rw [if_neg (by omega), if_neg (by omega), if_neg (by omega), if_pos (by omega)]⟩
      · first | (exfalso; omega) | exact ⟨rfl, rfl, PE.rf P, by unfold rlnM; rw [if_neg (by omega), if_neg (by omega), if_neg (by omega), if_neg (by omega), if_pos (by omega)]⟩ | exact ⟨rfl, rfl, hP1, by rw [hM1]; unfold rlnM; rw [if_neg (by omega), if_neg (by omega), if_neg (by omega), if_neg (by omega), if_pos (by omega)]⟩
      · first | (exfalso; omega) | exact ⟨rfl, rfl, PE.rf P, by unfold rlnM; rw [if_neg (by omega), if_neg (by omega), if_neg (by omega), if_neg (by omega), if_neg (by omega), if_pos (by omega)]⟩ | exact ⟨rfl, rfl, hP1, by rw [hM1]; unfold rlnM; rw [if_neg (by omega), if_neg (by omega), if_neg (by omega), if_neg (by omega), if_neg (by omega), if_pos (by omega)]⟩
      · first | (exfalso; omega) | exact ⟨rfl, rfl, PE.rf P, by unfold rlnM; rw [if_neg (by omega), if_neg (by omega), if_neg (by omega), if_neg (by omega), if_neg (by omega), if_neg (by omega), if_pos (by omega)]⟩ | exact ⟨rfl, rfl, hP1, by rw [hM1]; unfold rlnM; rw [if_neg (by omega), if_neg (by omega), if_neg (by omega), if_neg (by omega), if_neg (by omega), if_neg (by omega), if_pos (by omega)]⟩
      · first | (exfalso; omega) | exact ⟨rfl, rfl, PE.rf P, by unfold rlnM; rw [if_neg (by omega), if_neg (by omega), if_neg (by omega), if_neg (by omega), if_neg (by omega), if_neg (by omega), if_neg (by omega), if_pos (by omega)]⟩ | exact ⟨rfl, rfl, hP1, by rw [hM1]; unfold rlnM; rw [if_neg (by omega), if_neg (by omega), if_neg (by omega), if_neg (by omega), if_neg (by omega), if_neg (by omega), if_neg (by omega), if_pos (by omega)]⟩
      · first | (exfalso; omega) | exact ⟨rfl, rfl, PE.rf P, by unfold rlnM; rw [if_neg (by omega), if_neg (by omega), if_neg (by omega), if_neg (by omega), if_neg (by omega), if_neg (by omega), if_neg (by omega), if_neg (by omega)]⟩)
    · refine c_tabIn (tgt := 133) (off := 111) e22 dX4_readLine_22 ⟨by decide, by decide⟩ (by decide) (by decide) rfl (by decide) ?_
      refine a_aloadn dX4_readLine_133 rfl ?_
      refine a_peVv (as := []) (q := 42) dX4_readLine_134 mvX4_77 ⟨by decide, by decide⟩ (L42 L) rfl rfl rfl (Nat.le_of_ble_eq_true rfl) ⟨rfl, rfl⟩ ⟨by decide, by decide⟩ (m_X4_readLaw hP h42 hT ht h.1 hs h0 h.2.2.1 h.2.2.2.2.2.2.1 h.2.2.2.2.2.2.2 ⟨h.2.2.2.1.1.1, h.2.2.2.1.2.1.1, h.2.2.2.1.2.2.1⟩ h.2.2.2.2.2.1) (fun P1 M1 hP1 hM1 => ?_)
      refine a_goto (tgt := 145) dX4_readLine_137 (by decide) ?_
      exact a_return dX4_readLine_145 rfl rfl rfl (by
      unfold zpe
      rcases (show lvM M = 0 ∨ lvM M = 1 ∨ lvM M = 2 ∨ lvM M = 3 ∨ lvM M = 4 ∨ lvM M = 5 ∨ lvM M = 6 ∨ lvM M = 7 ∨ (lvM M < 0 ∨ 7 < lvM M) by omega) with q | q | q | q | q | q | q | q | q
      · first | (exfalso; omega) | exact ⟨rfl, rfl, PE.rf P, by unfold rlnM; rw [if_pos (by omega)]⟩ | exact ⟨rfl, rfl, hP1, by rw [hM1]; unfold rlnM; rw [if_pos (by omega)]⟩
      · first | (exfalso; omega) | exact ⟨rfl, rfl, PE.rf P, by unfold rlnM; rw [if_neg (by omega), if_pos (by omega)]⟩ | exact ⟨rfl, rfl, hP1, by rw [hM1]; unfold rlnM; rw [if_neg (by omega), if_pos (by omega)]⟩
      · first | (exfalso; omega) | exact ⟨rfl, rfl, PE.rf P, by unfold rlnM; rw [if_neg (by omega), if_neg (by omega), if_pos (by omega)]⟩ | exact ⟨rfl, rfl, hP1, by rw [hM1]; unfold rlnM; rw [if_neg (by omega), if_neg (by omega), if_pos (by omega)]⟩
      · first | (exfalso; omega) | exact ⟨rfl, rfl, PE.rf P, by unfold rlnM; rw [if_neg (by omega), if_neg (by omega), if_neg (by omega), if_pos (by omega)]⟩ | exact ⟨rfl, rfl, hP1, by rw [hM1]; unfold rlnM; rw [if_neg (by omega), if_neg (by omega), if_neg (by omega), if_pos (by omega)]⟩
      · first | (exfalso; omega) | exact ⟨rfl, rfl, PE.rf P, by unfold rlnM; rw [if_neg (by omega), if_neg (by omega), if_neg (by omega), if_neg (by omega), if_pos (by omega)]⟩ | exact ⟨rfl, rfl, hP1, by rw [hM1]; unfold rlnM; rw [if_neg (by omega), if_neg (by omega), if_neg (by omega), if_neg (by omega), if_pos (by omega)]⟩
      · first | (exfalso; omega) | exact ⟨rfl, rfl, PE.rf P, by unfold rlnM; rw [if_neg (by omega), if_neg (by omega), if_neg (by omega), if_neg (by omega), if_neg (by omega), if_pos (by omega)]⟩ | exact ⟨rfl, rfl, hP1, by rw [hM1]; unfold rlnM; rw [if_neg (by omega), if_neg (by omega), if_neg (by omega), if_neg (by omega), if_neg (by omega), if_pos (by omega)]⟩
      · first | (exfalso; omega) | exact ⟨rfl, rfl, PE.rf P, by unfold rlnM; rw [if_neg (by omega), if_neg (by omega), if_neg (by omega), if_neg (by omega), if_neg (by omega), if_neg (by omega), if_pos (by omega)]⟩ | exact ⟨rfl, rfl, hP1, by rw [hM1]; unfold rlnM; rw [if_neg (by omega), if_neg (by omega), if_neg (by omega), if_neg (by omega), if_neg (by omega), if_neg (by omega), if_pos (by omega)]⟩
      · first | (exfalso; omega) | exact ⟨rfl, rfl, PE.rf P, by unfold rlnM; rw [if_neg (by omega), if_neg (by omega), if_neg (by omega), if_neg (by omega), if_neg (by omega), if_neg (by omega), if_neg (by omega), if_pos (by omega)]⟩ | exact ⟨rfl, rfl, hP1, by rw [hM1]; unfold rlnM; rw [if_neg (by omega), if_neg (by omega), if_neg (by omega), if_neg (by omega), if_neg (by omega), if_neg (by omega), if_neg (by omega), if_pos (by omega)]⟩
      · first | (exfalso; omega) | exact ⟨rfl, rfl, PE.rf P, by unfold rlnM; rw [if_neg (by omega), if_neg (by omega), if_neg (by omega), if_neg (by omega), if_neg (by omega), if_neg (by omega), if_neg (by omega), if_neg (by omega)]⟩)
    · refine c_tabOut (tgt := 140) e22 dX4_readLine_22 ⟨by omega, by omega⟩ (by decide) ?_
      refine a_aloadn dX4_readLine_140 rfl ?_
      refine a_iconst dX4_readLine_141 ?_
      refine a_callVv (as := [_]) (q := 42) dX4_readLine_142 mvX4_80 ⟨by decide, by decide⟩ (L42 L) rfl rfl rfl (Nat.le_of_ble_eq_true rfl) ⟨rfl, rfl⟩ ⟨by decide, by decide⟩ (m_X4_fail hP ⟨by omega, by omega⟩) ?_
      exact a_return dX4_readLine_145 rfl rfl rfl (by
      unfold zpe
      rcases (show lvM M = 0 ∨ lvM M = 1 ∨ lvM M = 2 ∨ lvM M = 3 ∨ lvM M = 4 ∨ lvM M = 5 ∨ lvM M = 6 ∨ lvM M = 7 ∨ (lvM M < 0 ∨ 7 < lvM M) by omega) with q | q | q | q | q | q | q | q | q
      · first | (exfalso; omega) | exact ⟨rfl, rfl, PE.rf P, by unfold rlnM; rw [if_pos (by omega)]⟩ | exact ⟨rfl, rfl, hP1, by rw [hM1]; unfold rlnM; rw [if_pos (by omega)]⟩
      · first | (exfalso; omega) | exact ⟨rfl, rfl, PE.rf P, by unfold rlnM; rw [if_neg (by omega), if_pos (by omega)]⟩ | exact ⟨rfl, rfl, hP1, by rw [hM1]; unfold rlnM; rw [if_neg (by omega), if_pos (by omega)]⟩
      · first | (exfalso; omega) | exact ⟨rfl, rfl, PE.rf P, by unfold rlnM; rw [if_neg (by omega), if_neg (by omega), if_pos (by omega)]⟩ | exact ⟨rfl, rfl, hP1, by rw [hM1]; unfold rlnM; rw [if_neg (by omega), if_neg (by omega), if_pos (by omega)]⟩
      · first | (exfalso; omega) | exact ⟨rfl, rfl, PE.rf P, by unfold rlnM; rw [if_neg (by omega), if_neg (by omega), if_neg (by omega), if_pos (by omega)]⟩ | exact ⟨rfl, rfl, hP1, by rw [hM1]; unfold rlnM; rw [if_neg (by omega), if_neg (by omega), if_neg (by omega), if_pos (by omega)]⟩
      · first | (exfalso; omega) | exact ⟨rfl, rfl, PE.rf P, by unfold rlnM; rw [if_neg (by omega), if_neg (by omega), if_neg (by omega), if_neg (by omega), if_pos (by omega)]⟩ | exact ⟨rfl, rfl, hP1, by rw [hM1]; unfold rlnM; rw [if_neg (by omega), if_neg (by omega), if_neg (by omega), if_neg (by omega), if_pos (by omega)]⟩
      · first | (exfalso; omega) | exact ⟨rfl, rfl, PE.rf P, by unfold rlnM; rw [if_neg (by omega), if_neg (by omega), if_neg (by omega), if_neg (by omega), if_neg (by omega), if_pos (by omega)]⟩ | exact ⟨rfl, rfl, hP1, by rw [hM1]; unfold rlnM; rw [if_neg (by omega), if_neg (by omega), if_neg (by omega), if_neg (by omega), if_neg (by omega), if_pos (by omega)]⟩
      · first | (exfalso; omega) | exact ⟨rfl, rfl, PE.rf P, by unfold rlnM; rw [if_neg (by omega), if_neg (by omega), if_neg (by omega), if_neg (by omega), if_neg (by omega), if_neg (by omega), if_pos (by omega)]⟩ | exact ⟨rfl, rfl, hP1, by rw [hM1]; unfold rlnM; rw [if_neg (by omega), if_neg (by omega), if_neg (by omega), if_neg (by omega), if_neg (by omega), if_neg (by omega), if_pos (by omega)]⟩
      · first | (exfalso; omega) | exact ⟨rfl, rfl, PE.rf P, by unfold rlnM; rw [if_neg (by omega), if_neg (by omega), if_neg (by omega), if_neg (by omega), if_neg (by omega), if_neg (by omega), if_neg (by omega), if_pos (by omega)]⟩ | exact ⟨rfl, rfl, hP1, by rw [hM1]; unfold rlnM; rw [if_neg (by omega), if_neg (by omega), if_neg (by omega), if_neg (by omega), if_neg (by omega), if_neg (by omega), if_neg (by omega), if_pos (by omega)]⟩
      · first | (exfalso; omega) | exact ⟨rfl, rfl, PE.rf P, by unfold rlnM; rw [if_neg (by omega), if_neg (by omega), if_neg (by omega), if_neg (by omega), if_neg (by omega), if_neg (by omega), if_neg (by omega), if_neg (by omega)]⟩)
  · refine a_aloadn dX4_readLine_11 rfl ?_
    refine a_getR (j' := 0) (y := 43) dX4_readLine_12 flX4_12 rfl rfl (L42 L) (p42_0 hP) ?_
    refine b_getI (j' := 11) dX4_readLine_15 flX4_60 rfl rfl (L43 L) (fun hr15 => ?_)
    refine a_goto (tgt := 22) dX4_readLine_18 (by decide) ?_
    obtain ⟨x9, ex⟩ : ∃ x9, x9 = lvM M := ⟨_, rfl⟩
    refine a_stk (st' := [aI x9]) (by rw [ex]; unfold lvM; first | (rw [if_pos (by omega)]; done) | (rw [if_neg (by omega)]; done)) ?_
    have rx : -1 ≤ x9 ∧ x9 ≤ 20 := by rw [ex]; unfold lvM; split; (rename_i c9; have := h.2.2.2.2.2.2.2.at h.1 c9; omega); omega
    rcases (show x9 = 0 ∨ x9 = 1 ∨ x9 = 2 ∨ x9 = 3 ∨ x9 = 4 ∨ x9 = 5 ∨ x9 = 6 ∨ x9 = 7 ∨ (x9 < 0 ∨ 7 < x9) by omega) with e22 | e22 | e22 | e22 | e22 | e22 | e22 | e22 | e22
    · refine c_tabIn (tgt := 68) (off := 46) e22 dX4_readLine_22 ⟨by decide, by decide⟩ (by decide) (by decide) rfl (by decide) ?_
      refine a_aloadn dX4_readLine_68 rfl ?_
      refine a_callVv (as := []) (q := 42) dX4_readLine_69 mvX4_63 ⟨by decide, by decide⟩ (L42 L) rfl rfl rfl (Nat.le_of_ble_eq_true rfl) ⟨rfl, rfl⟩ ⟨by decide, by decide⟩ (m_X4_readHouse hP h42 hT ht h.2.1 h.1 hs h0 (lw_val h.1 hs h.2.2.2.2.2.1)) ?_
      refine a_goto (tgt := 145) dX4_readLine_72 (by decide) ?_
      exact a_return dX4_readLine_145 rfl rfl rfl (by
      unfold zpe
      rcases (show lvM M = 0 ∨ lvM M = 1 ∨ lvM M = 2 ∨ lvM M = 3 ∨ lvM M = 4 ∨ lvM M = 5 ∨ lvM M = 6 ∨ lvM M = 7 ∨ (lvM M < 0 ∨ 7 < lvM M) by omega) with q | q | q | q | q | q | q | q | q
      · first | (exfalso; omega) | exact ⟨rfl, rfl, PE.rf P, by unfold rlnM; rw [if_pos (by omega)]⟩ | exact ⟨rfl, rfl, hP1, by rw [hM1]; unfold rlnM; rw [if_pos (by omega)]⟩
      · first | (exfalso; omega) | exact ⟨rfl, rfl, PE.rf P, by unfold rlnM; rw [if_neg (by omega), if_pos (by omega)]⟩ | exact ⟨rfl, rfl, hP1, by rw [hM1]; unfold rlnM; rw [if_neg (by omega), if_pos (by omega)]⟩
      · first | (exfalso; omega) | exact ⟨rfl, rfl, PE.rf P, by unfold rlnM; rw [if_neg (by omega), if_neg (by omega), if_pos (by omega)]⟩ | exact ⟨rfl, rfl, hP1, by rw [hM1]; unfold rlnM; rw [if_neg (by omega), if_neg (by omega), if_pos (by omega)]⟩
      · first | (exfalso; omega) | exact ⟨rfl, rfl, PE.rf P, by unfold rlnM; rw [if_neg (by omega), if_neg (by omega), if_neg (by omega), if_pos (by omega)]⟩ | exact ⟨rfl, rfl, hP1, by rw [hM1]; unfold rlnM; rw [if_neg (by omega), if_neg (by omega), if_neg (by omega), if_pos (by omega)]⟩
      · first | (exfalso; omega) | exact ⟨rfl, rfl, PE.rf P, by unfold rlnM; rw [if_neg (by omega), if_neg (by omega), if_neg (by omega), if_neg (by omega), if_pos (by omega)]⟩ | exact ⟨rfl, rfl, hP1, by rw [hM1]; unfold rlnM; rw [if_neg (by omega), if_neg (by omega), if_neg (by omega), if_neg (by omega), if_pos (by omega)]⟩
      · first | (exfalso; omega) | exact ⟨rfl, rfl, PE.rf P, by unfold rlnM; rw [if_neg (by omega), if_neg (by omega), if_neg (by omega), if_neg (by omega), if_neg (by omega), if_pos (by omega)]⟩ | exact ⟨rfl, rfl, hP1, by rw [hM1]; unfold rlnM; rw [if_neg (by omega), if_neg (by omega), if_neg (by omega), if_neg (by omega), if_neg (by omega), if_pos (by omega)]⟩
      · first | (exfalso; omega) | exact ⟨rfl, rfl, PE.rf P, by unfold rlnM; rw [if_neg (by omega), if_neg (by omega), if_neg (by omega), if_neg (by omega), if_neg (by omega), if_neg (by omega), if_pos (by omega)]⟩ | exact ⟨rfl, rfl, hP1, by rw [hM1]; unfold rlnM; rw [if_neg (by omega), if_neg (by omega), if_neg (by omega), if_neg (by omega), if_neg (by omega), if_neg (by omega), if_pos (by omega)]⟩
      · first | (exfalso; omega) | exact ⟨rfl, rfl, PE.rf P, by unfold rlnM; rw [if_neg (by omega), if_neg (by omega), if_neg (by omega), if_neg (by omega), if_neg (by omega), if_neg (by omega), if_neg (by omega), if_pos (by omega)]⟩ | exact ⟨rfl, rfl, hP1, by rw [hM1]; unfold rlnM; rw [if_neg (by omega), if_neg (by omega), if_neg (by omega), if_neg (by omega), if_neg (by omega), if_neg (by omega), if_neg (by omega), if_pos (by omega)]⟩
      · first | (exfalso; omega) | exact ⟨rfl, rfl, PE.rf P, by unfold rlnM; rw [if_neg (by omega), if_neg (by omega), if_neg (by omega), if_neg (by omega), if_neg (by omega), if_neg (by omega), if_neg (by omega), if_neg (by omega)]⟩)
    · refine c_tabIn (tgt := 75) (off := 53) e22 dX4_readLine_22 ⟨by decide, by decide⟩ (by decide) (by decide) rfl (by decide) ?_
      refine a_aloadn dX4_readLine_75 rfl ?_
      refine a_callVv (as := []) (q := 42) dX4_readLine_76 mvX4_66 ⟨by decide, by decide⟩ (L42 L) rfl rfl rfl (Nat.le_of_ble_eq_true rfl) ⟨rfl, rfl⟩ ⟨by decide, by decide⟩ (m_X4_readTurn hP h42 hT ht h.2.1 h.1 hs h0 (lw_val h.1 hs h.2.2.2.2.2.1)) ?_
      refine a_goto (tgt := 145) dX4_readLine_79 (by decide) ?_
      exact a_return dX4_readLine_145 rfl rfl rfl (by
      unfold zpe
      rcases (show lvM M = 0 ∨ lvM M = 1 ∨ lvM M = 2 ∨ lvM M = 3 ∨ lvM M = 4 ∨ lvM M = 5 ∨ lvM M = 6 ∨ lvM M = 7 ∨ (lvM M < 0 ∨ 7 < lvM M) by omega) with q | q | q | q | q | q | q | q | q
      · first | (exfalso; omega) | exact ⟨rfl, rfl, PE.rf P, by unfold rlnM; rw [if_pos (by omega)]⟩ | exact ⟨rfl, rfl, hP1, by rw [hM1]; unfold rlnM; rw [if_pos (by omega)]⟩
      · first | (exfalso; omega) | exact ⟨rfl, rfl, PE.rf P, by unfold rlnM; rw [if_neg (by omega), if_pos (by omega)]⟩ | exact ⟨rfl, rfl, hP1, by rw [hM1]; unfold rlnM; rw [if_neg (by omega), if_pos (by omega)]⟩
      · first | (exfalso; omega) | exact ⟨rfl, rfl, PE.rf P, by unfold rlnM; rw [if_neg (by omega), if_neg (by omega), if_pos (by omega)]⟩ | exact ⟨rfl, rfl, hP1, by rw [hM1]; unfold rlnM; rw [if_neg (by omega), if_neg (by omega), if_pos (by omega)]⟩
      · first | (exfalso; omega) | exact ⟨rfl, rfl, PE.rf P, by unfold rlnM; rw [if_neg (by omega), if_neg (by omega), if_neg (by omega), if_pos (by omega)]⟩ | exact ⟨rfl, rfl, hP1, by rw [hM1]; unfold rlnM; rw [if_neg (by omega), if_neg (by omega), if_neg (by omega), if_pos (by omega)]⟩
      · first | (exfalso; omega) | exact ⟨rfl, rfl, PE.rf P, by unfold rlnM; rw [if_neg (by omega), if_neg (by omega), if_neg (by omega), if_neg (by omega), if_pos (by omega)]⟩ | exact ⟨rfl, rfl, hP1, by rw [hM1]; unfold rlnM; rw [if_neg (by omega), if_neg (by omega), if_neg (by omega), if_neg (by omega), if_pos (by omega)]⟩
      · first | (exfalso; omega) | exact ⟨rfl, rfl, PE.rf P, by unfold rlnM; rw [if_neg (by omega), if_neg (by omega), if_neg (by omega), if_neg (by omega), if_neg (by omega), if_pos (by omega)]⟩ | exact ⟨rfl, rfl, hP1, by rw [hM1]; unfold rlnM; rw [if_neg (by omega), if_neg (by omega), if_neg (by omega), if_neg (by omega), if_neg (by omega), if_pos (by omega)]⟩
      · first | (exfalso; omega) | exact ⟨rfl, rfl, PE.rf P, by unfold rlnM; rw [if_neg (by omega), if_neg (by omega), if_neg (by omega), if_neg (by omega), if_neg (by omega), if_neg (by omega), if_pos (by omega)]⟩ | exact ⟨rfl, rfl, hP1, by rw [hM1]; unfold rlnM; rw [if_neg (by omega), if_neg (by omega), if_neg (by omega), if_neg (by omega), if_neg (by omega), if_neg (by omega), if_pos (by omega)]⟩
      · first | (exfalso; omega) | exact ⟨rfl, rfl, PE.rf P, by unfold rlnM; rw [if_neg (by omega), if_neg (by omega), if_neg (by omega), if_neg (by omega), if_neg (by omega), if_neg (by omega), if_neg (by omega), if_pos (by omega)]⟩ | exact ⟨rfl, rfl, hP1, by rw [hM1]; unfold rlnM; rw [if_neg (by omega), if_neg (by omega), if_neg (by omega), if_neg (by omega), if_neg (by omega), if_neg (by omega), if_neg (by omega), if_pos (by omega)]⟩
      · first | (exfalso; omega) | exact ⟨rfl, rfl, PE.rf P, by unfold rlnM; rw [if_neg (by omega), if_neg (by omega), if_neg (by omega), if_neg (by omega), if_neg (by omega), if_neg (by omega), if_neg (by omega), if_neg (by omega)]⟩)
    · refine c_tabIn (tgt := 82) (off := 60) e22 dX4_readLine_22 ⟨by decide, by decide⟩ (by decide) (by decide) rfl (by decide) ?_
      refine a_aloadn dX4_readLine_82 rfl ?_
      refine a_callVv (as := []) (q := 42) dX4_readLine_83 mvX4_69 ⟨by decide, by decide⟩ (L42 L) rfl rfl rfl (Nat.le_of_ble_eq_true rfl) ⟨rfl, rfl⟩ ⟨by decide, by decide⟩ (m_X4_readSound hP h42 hT ht h.2.1 h.1 hs h0 (lw_val h.1 hs h.2.2.2.2.2.1)) ?_
      refine a_goto (tgt := 145) dX4_readLine_86 (by decide) ?_
      exact a_return dX4_readLine_145 rfl rfl rfl (by
      unfold zpe
      rcases (show lvM M = 0 ∨ lvM M = 1 ∨ lvM M = 2 ∨ lvM M = 3 ∨ lvM M = 4 ∨ lvM M = 5 ∨ lvM M = 6 ∨ lvM M = 7 ∨ (lvM M < 0 ∨ 7 < lvM M) by omega) with q | q | q | q | q | q | q | q | q
      · first | (exfalso; omega) | exact ⟨rfl, rfl, PE.rf P, by unfold rlnM; rw [if_pos (by omega)]⟩ | exact ⟨rfl, rfl, hP1, by rw [hM1]; unfold rlnM; rw [if_pos (by omega)]⟩
      · first | (exfalso; omega) | exact ⟨rfl, rfl, PE.rf P, by unfold rlnM; rw [if_neg (by omega), if_pos (by omega)]⟩ | exact ⟨rfl, rfl, hP1, by rw [hM1]; unfold rlnM; rw [if_neg (by omega), if_pos (by omega)]⟩
      · first | (exfalso; omega) | exact ⟨rfl, rfl, PE.rf P, by unfold rlnM; rw [if_neg (by omega), if_neg (by omega), if_pos (by omega)]⟩ | exact ⟨rfl, rfl, hP1, by rw [hM1]; unfold rlnM; rw [if_neg (by omega), if_neg (by omega), if_pos (by omega)]⟩
      · first | (exfalso; omega) | exact ⟨rfl, rfl, PE.rf P, by unfold rlnM; rw [if_neg (by omega), if_neg (by omega), if_neg (by omega), if_pos (by omega)]⟩ | exact ⟨rfl, rfl, hP1, by rw [hM1]; unfold rlnM; rw [if_neg (by omega), if_neg (by omega), if_neg (by omega), if_pos (by omega)]⟩
      · first | (exfalso; omega) | exact ⟨rfl, rfl, PE.rf P, by unfold rlnM; rw [if_neg (by omega), if_neg (by omega), if_neg (by omega), if_neg (by omega), if_pos (by omega)]⟩ | exact ⟨rfl, rfl, hP1, by rw [hM1]; unfold rlnM; rw [if_neg (by omega), if_neg (by omega), if_neg (by omega), if_neg (by omega), if_pos (by omega)]⟩
      · first | (exfalso; omega) | exact ⟨rfl, rfl, PE.rf P, by unfold rlnM; rw [if_neg (by omega), if_neg (by omega), if_neg (by omega), if_neg (by omega), if_neg (by omega), if_pos (by omega)]⟩ | exact ⟨rfl, rfl, hP1, by rw [hM1]; unfold rlnM; rw [if_neg (by omega), if_neg (by omega), if_neg (by omega), if_neg (by omega), if_neg (by omega), if_pos (by omega)]⟩
      · first | (exfalso; omega) | exact ⟨rfl, rfl, PE.rf P, by unfold rlnM; rw [if_neg (by omega), if_neg (by omega), if_neg (by omega), if_neg (by omega), if_neg (by omega), if_neg (by omega), if_pos (by omega)]⟩ | exact ⟨rfl, rfl, hP1, by rw [hM1]; unfold rlnM; rw [if_neg (by omega), if_neg (by omega), if_neg (by omega), if_neg (by omega), if_neg (by omega), if_neg (by omega), if_pos (by omega)]⟩
      · first | (exfalso; omega) | exact ⟨rfl, rfl, PE.rf P, by unfold rlnM; rw [if_neg (by omega), if_neg (by omega), if_neg (by omega), if_neg (by omega), if_neg (by omega), if_neg (by omega), if_neg (by omega), if_pos (by omega)]⟩ | exact ⟨rfl, rfl, hP1, by rw [hM1]; unfold rlnM; rw [if_neg (by omega), if_neg (by omega), if_neg (by omega), if_neg (by omega), if_neg (by omega), if_neg (by omega), if_neg (by omega), if_pos (by omega)]⟩
      · first | (exfalso; omega) | exact ⟨rfl, rfl, PE.rf P, by unfold rlnM; rw [if_neg (by omega), if_neg (by omega), if_neg (by omega), if_neg (by omega), if_neg (by omega), if_neg (by omega), if_neg (by omega), if_neg (by omega)]⟩)
    · refine c_tabIn (tgt := 89) (off := 67) e22 dX4_readLine_22 ⟨by decide, by decide⟩ (by decide) (by decide) rfl (by decide) ?_
      refine a_aloadn dX4_readLine_89 rfl ?_
      refine a_iconst dX4_readLine_90 ?_
      refine a_iconst dX4_readLine_91 ?_
      refine a_bipush (w := 20) dX4_readLine_92 (by decide) ?_
      refine a_callVv (as := [_, _, _]) (q := 42) dX4_readLine_94 mvX4_72 ⟨by decide, by decide⟩ (L42 L) rfl rfl rfl (Nat.le_of_ble_eq_true rfl) ⟨rfl, rfl⟩ ⟨by decide, by decide⟩ (m_X4_readSetting hP h42 hT ht h.2.1 h.1 hs h0 ⟨by omega, by omega⟩ ⟨by omega, by omega⟩ ⟨by omega, by omega⟩ (by omega)) ?_
      refine a_goto (tgt := 145) dX4_readLine_97 (by decide) ?_
      exact a_return dX4_readLine_145 rfl rfl rfl (by
      unfold zpe
      rcases (show lvM M = 0 ∨ lvM M = 1 ∨ lvM M = 2 ∨ lvM M = 3 ∨ lvM M = 4 ∨ lvM M = 5 ∨ lvM M = 6 ∨ lvM M = 7 ∨ (lvM M < 0 ∨ 7 < lvM M) by omega) with q | q | q | q | q | q | q | q | q
      · first | (exfalso; omega) | exact ⟨rfl, rfl, PE.rf P, by unfold rlnM; rw [if_pos (by omega)]⟩ | exact ⟨rfl, rfl, hP1, by rw [hM1]; unfold rlnM; rw [if_pos (by omega)]⟩
      · first | (exfalso; omega) | exact ⟨rfl, rfl, PE.rf P, by unfold rlnM; rw [if_neg (by omega), if_pos (by omega)]⟩ | exact ⟨rfl, rfl, hP1, by rw [hM1]; unfold rlnM; rw [if_neg (by omega), if_pos (by omega)]⟩
      · first | (exfalso; omega) | exact ⟨rfl, rfl, PE.rf P, by unfold rlnM; rw [if_neg (by omega), if_neg (by omega), if_pos (by omega)]⟩ | exact ⟨rfl, rfl, hP1, by rw [hM1]; unfold rlnM; rw [if_neg (by omega), if_neg (by omega), if_pos (by omega)]⟩
      · first | (exfalso; omega) | exact ⟨rfl, rfl, PE.rf P, by unfold rlnM; rw [if_neg (by omega), if_neg (by omega), if_neg (by omega), if_pos (by omega)]⟩ | exact ⟨rfl, rfl, hP1, by rw [hM1]; unfold rlnM; rw [if_neg (by omega), if_neg (by omega), if_neg (by omega), if_pos (by omega)]⟩
      · first | (exfalso; omega) | exact ⟨rfl, rfl, PE.rf P, by unfold rlnM; rw [if_neg (by omega), if_neg (by omega), if_neg (by omega), if_neg (by omega), if_pos (by omega)]⟩ | exact ⟨rfl, rfl, hP1, by rw [hM1]; unfold rlnM; rw [if_neg (by omega), if_neg (by omega), if_neg (by omega), if_neg (by omega), if_pos (by omega)]⟩
      · first | (exfalso; omega) | exact ⟨rfl, rfl, PE.rf P, by unfold rlnM; rw [if_neg (by omega), if_neg (by omega), if_neg (by omega), if_neg (by omega), if_neg (by omega), if_pos (by omega)]⟩ | exact ⟨rfl, rfl, hP1, by rw [hM1]; unfold rlnM; rw [if_neg (by omega), if_neg (by omega), if_neg (by omega), if_neg (by omega), if_neg (by omega), if_pos (by omega)]⟩
      · first | (exfalso; omega) | exact ⟨rfl, rfl, PE.rf P, by unfold rlnM; rw [if_neg (by omega), if_neg (by omega), if_neg (by omega), if_neg (by omega), if_neg (by omega), if_neg (by omega), if_pos (by omega)]⟩ | exact ⟨rfl, rfl, hP1, by rw [hM1]; unfold rlnM; rw [if_neg (by omega), if_neg (by omega), if_neg (by omega), if_neg (by omega), if_neg (by omega), if_neg (by omega), if_pos (by omega)]⟩
      · first | (exfalso; omega) | exact ⟨rfl, rfl, PE.rf P, by unfold rlnM; rw [if_neg (by omega), if_neg (by omega), if_neg (by omega), if_neg (by omega), if_neg (by omega), if_neg (by omega), if_neg (by omega), if_pos (by omega)]⟩ | exact ⟨rfl, rfl, hP1, by rw [hM1]; unfold rlnM; rw [if_neg (by omega), if_neg (by omega), if_neg (by omega), if_neg (by omega), if_neg (by omega), if_neg (by omega), if_neg (by omega), if_pos (by omega)]⟩
      · first | (exfalso; omega) | exact ⟨rfl, rfl, PE.rf P, by unfold rlnM; rw [if_neg (by omega), if_neg (by omega), if_neg (by omega), if_neg (by omega), if_neg (by omega), if_neg (by omega), if_neg (by omega), if_neg (by omega)]⟩)
    · refine c_tabIn (tgt := 100) (off := 78) e22 dX4_readLine_22 ⟨by decide, by decide⟩ (by decide) (by decide) rfl (by decide) ?_
      refine a_aloadn dX4_readLine_100 rfl ?_
      refine a_iconst dX4_readLine_101 ?_
      refine a_iconst dX4_readLine_102 ?_
      refine a_bipush (w := 9) dX4_readLine_103 (by decide) ?_
      refine a_callVv (as := [_, _, _]) (q := 42) dX4_readLine_105 mvX4_72 ⟨by decide, by decide⟩ (L42 L) rfl rfl rfl (Nat.le_of_ble_eq_true rfl) ⟨rfl, rfl⟩ ⟨by decide, by decide⟩ (m_X4_readSetting hP h42 hT ht h.2.1 h.1 hs h0 ⟨by omega, by omega⟩ ⟨by omega, by omega⟩ ⟨by omega, by omega⟩ (by omega)) ?_
      refine a_goto (tgt := 145) dX4_readLine_108 (by decide) ?_
      exact a_return dX4_readLine_145 rfl rfl rfl (by
      unfold zpe
      rcases (show lvM M = 0 ∨ lvM M = 1 ∨ lvM M = 2 ∨ lvM M = 3 ∨ lvM M = 4 ∨ lvM M = 5 ∨ lvM M = 6 ∨ lvM M = 7 ∨ (lvM M < 0 ∨ 7 < lvM M) by omega) with q | q | q | q | q | q | q | q | q
      · first | (exfalso; omega) | exact ⟨rfl, rfl, PE.rf P, by unfold rlnM; rw [if_pos (by omega)]⟩ | exact ⟨rfl, rfl, hP1, by rw [hM1]; unfold rlnM; rw [if_pos (by omega)]⟩
      · first | (exfalso; omega) | exact ⟨rfl, rfl, PE.rf P, by unfold rlnM; rw [if_neg (by omega), if_pos (by omega)]⟩ | exact ⟨rfl, rfl, hP1, by rw [hM1]; unfold rlnM; rw [if_neg (by omega), if_pos (by omega)]⟩
      · first | (exfalso; omega) | exact ⟨rfl, rfl, PE.rf P, by unfold rlnM; rw [if_neg (by omega), if_neg (by omega), if_pos (by omega)]⟩ | exact ⟨rfl, rfl, hP1, by rw [hM1]; unfold rlnM; rw [if_neg (by omega), if_neg (by omega), if_pos (by omega)]⟩
      · first | (exfalso; omega) | exact ⟨rfl, rfl, PE.rf P, by unfold rlnM; rw [if_neg (by omega), if_neg (by omega), if_neg (by omega), if_pos (by omega)]⟩ | exact ⟨rfl, rfl, hP1, by rw [hM1]; unfold rlnM; rw [if_neg (by omega), if_neg (by omega), if_neg (by omega), if_pos (by omega)]⟩
      · first | (exfalso; omega) | exact ⟨rfl, rfl, PE.rf P, by unfold rlnM; rw [if_neg (by omega), if_neg (by omega), if_neg (by omega), if_neg (by omega), if_pos (by omega)]⟩ | exact ⟨rfl, rfl, hP1, by rw [hM1]; unfold rlnM; rw [if_neg (by omega), if_neg (by omega), if_neg (by omega), if_neg (by omega), if_pos (by omega)]⟩
      · first | (exfalso; omega) | exact ⟨rfl, rfl, PE.rf P, by unfold rlnM; rw [if_neg (by omega), if_neg (by omega), if_neg (by omega), if_neg (by omega), if_neg (by omega), if_pos (by omega)]⟩ | exact ⟨rfl, rfl, hP1, by rw [hM1]; unfold rlnM; rw [if_neg (by omega), if_neg (by omega), if_neg (by omega), if_neg (by omega), if_neg (by omega), if_pos (by omega)]⟩
      · first | (exfalso; omega) | exact ⟨rfl, rfl, PE.rf P, by unfold rlnM; rw [if_neg (by omega), if_neg (by omega), if_neg (by omega), if_neg (by omega), if_neg (by omega), if_neg (by omega), if_pos (by omega)]⟩ | exact ⟨rfl, rfl, hP1, by rw [hM1]; unfold rlnM; rw [if_neg (by omega), if_neg (by omega), if_neg (by omega), if_neg (by omega), if_neg (by omega), if_neg (by omega), if_pos (by omega)]⟩
      · first | (exfalso; omega) | exact ⟨rfl, rfl, PE.rf P, by unfold rlnM; rw [if_neg (by omega), if_neg (by omega), if_neg (by omega), if_neg (by omega), if_neg (by omega), if_neg (by omega), if_neg (by omega), if_pos (by omega)]⟩ | exact ⟨rfl, rfl, hP1, by rw [hM1]; unfold rlnM; rw [if_neg (by omega), if_neg (by omega), if_neg (by omega), if_neg (by omega), if_neg (by omega), if_neg (by omega), if_neg (by omega), if_pos (by omega)]⟩
      · first | (exfalso; omega) | exact ⟨rfl, rfl, PE.rf P, by unfold rlnM; rw [if_neg (by omega), if_neg (by omega), if_neg (by omega), if_neg (by omega), if_neg (by omega), if_neg (by omega), if_neg (by omega), if_neg (by omega)]⟩)
    · refine c_tabIn (tgt := 111) (off := 89) e22 dX4_readLine_22 ⟨by decide, by decide⟩ (by decide) (by decide) rfl (by decide) ?_
      refine a_aloadn dX4_readLine_111 rfl ?_
      refine a_iconst dX4_readLine_112 ?_
      refine a_iconst dX4_readLine_113 ?_
      refine a_bipush (w := 100) dX4_readLine_114 (by decide) ?_
      refine a_callVv (as := [_, _, _]) (q := 42) dX4_readLine_116 mvX4_72 ⟨by decide, by decide⟩ (L42 L) rfl rfl rfl (Nat.le_of_ble_eq_true rfl) ⟨rfl, rfl⟩ ⟨by decide, by decide⟩ (m_X4_readSetting hP h42 hT ht h.2.1 h.1 hs h0 ⟨by omega, by omega⟩ ⟨by omega, by omega⟩ ⟨by omega, by omega⟩ (by omega)) ?_
      refine a_goto (tgt := 145) dX4_readLine_119 (by decide) ?_
      exact a_return dX4_readLine_145 rfl rfl rfl (by
      unfold zpe
      rcases (show lvM M = 0 ∨ lvM M = 1 ∨ lvM M = 2 ∨ lvM M = 3 ∨ lvM M = 4 ∨ lvM M = 5 ∨ lvM M = 6 ∨ lvM M = 7 ∨ (lvM M < 0 ∨ 7 < lvM M) by omega) with q | q | q | q | q | q | q | q | q
      · first | (exfalso; omega) | exact ⟨rfl, rfl, PE.rf P, by unfold rlnM; rw [if_pos (by omega)]⟩ | exact ⟨rfl, rfl, hP1, by rw [hM1]; unfold rlnM; rw [if_pos (by omega)]⟩
      · first | (exfalso; omega) | exact ⟨rfl, rfl, PE.rf P, by unfold rlnM; rw [if_neg (by omega), if_pos (by omega)]⟩ | exact ⟨rfl, rfl, hP1, by rw [hM1]; unfold rlnM; rw [if_neg (by omega), if_pos (by omega)]⟩
      · first | (exfalso; omega) | exact ⟨rfl, rfl, PE.rf P, by unfold rlnM; rw [if_neg (by omega), if_neg (by omega), if_pos (by omega)]⟩ | exact ⟨rfl, rfl, hP1, by rw [hM1]; unfold rlnM; rw [if_neg (by omega), if_neg (by omega), if_pos (by omega)]⟩
      · first | (exfalso; omega) | exact ⟨rfl, rfl, PE.rf P, by unfold rlnM; rw [if_neg (by omega), if_neg (by omega), if_neg (by omega), if_pos (by omega)]⟩ | exact ⟨rfl, rfl, hP1, by rw [hM1]; unfold rlnM; rw [if_neg (by omega), if_neg (by omega), if_neg (by omega), if_pos (by omega)]⟩
      · first | (exfalso; omega) | exact ⟨rfl, rfl, PE.rf P, by unfold rlnM; rw [if_neg (by omega), if_neg (by omega), if_neg (by omega), if_neg (by omega), if_pos (by omega)]⟩ | exact ⟨rfl, rfl, hP1, by rw [hM1]; unfold rlnM; rw [if_neg (by omega), if_neg (by omega), if_neg (by omega), if_neg (by omega), if_pos (by omega)]⟩
      · first | (exfalso; omega) | exact ⟨rfl, rfl, PE.rf P, by unfold rlnM; rw [if_neg (by omega), if_neg (by omega), if_neg (by omega), if_neg (by omega), if_neg (by omega), if_pos (by omega)]⟩ | exact ⟨rfl, rfl, hP1, by rw [hM1]; unfold rlnM; rw [if_neg (by omega), if_neg (by omega), if_neg (by omega), if_neg (by omega), if_neg (by omega), if_pos (by omega)]⟩
      · first | (exfalso; omega) | exact ⟨rfl, rfl, PE.rf P, by unfold rlnM; rw [if_neg (by omega), if_neg (by omega), if_neg (by omega), if_neg (by omega), if_neg (by omega), if_neg (by omega), if_pos (by omega)]⟩ | exact ⟨rfl, rfl, hP1, by rw [hM1]; unfold rlnM; rw [if_neg (by omega), if_neg (by omega), if_neg (by omega), if_neg (by omega), if_neg (by omega), if_neg (by omega), if_pos (by omega)]⟩
      · first | (exfalso; omega) | exact ⟨rfl, rfl, PE.rf P, by unfold rlnM; rw [if_neg (by omega), if_neg (by omega), if_neg (by omega), if_neg (by omega), if_neg (by omega), if_neg (by omega), if_neg (by omega), if_pos (by omega)]⟩ | exact ⟨rfl, rfl, hP1, by rw [hM1]; unfold rlnM; rw [if_neg (by omega), if_neg (by omega), if_neg (by omega), if_neg (by omega), if_neg (by omega), if_neg (by omega), if_neg (by omega), if_pos (by omega)]⟩
      · first | (exfalso; omega) | exact ⟨rfl, rfl, PE.rf P, by unfold rlnM; rw [if_neg (by omega), if_neg (by omega), if_neg (by omega), if_neg (by omega), if_neg (by omega), if_neg (by omega), if_neg (by omega), if_neg (by omega)]⟩)
    · refine c_tabIn (tgt := 122) (off := 100) e22 dX4_readLine_22 ⟨by decide, by decide⟩ (by decide) (by decide) rfl (by decide) ?_
      refine a_aloadn dX4_readLine_122 rfl ?_
      refine a_iconst dX4_readLine_123 ?_
      refine a_iconst dX4_readLine_124 ?_
      refine a_ldc (w := 99999) dX4_readLine_125 knX4_76 (by decide) ?_
      refine a_callVv (as := [_, _, _]) (q := 42) dX4_readLine_127 mvX4_72 ⟨by decide, by decide⟩ (L42 L) rfl rfl rfl (Nat.le_of_ble_eq_true rfl) ⟨rfl, rfl⟩ ⟨by decide, by decide⟩ (m_X4_readSetting hP h42 hT ht h.2.1 h.1 hs h0 ⟨by omega, by omega⟩ ⟨by omega, by omega⟩ ⟨by omega, by omega⟩ (by omega)) ?_
      refine a_goto (tgt := 145) dX4_readLine_130 (by decide) ?_
      exact a_return dX4_readLine_145 rfl rfl rfl (by
      unfold zpe
      rcases (show lvM M = 0 ∨ lvM M = 1 ∨ lvM M = 2 ∨ lvM M = 3 ∨ lvM M = 4 ∨ lvM M = 5 ∨ lvM M = 6 ∨ lvM M = 7 ∨ (lvM M < 0 ∨ 7 < lvM M) by omega) with q | q | q | q | q | q | q | q | q
      · first | (exfalso; omega) | exact ⟨rfl, rfl, PE.rf P, by unfold rlnM; rw [if_pos (by omega)]⟩ | exact ⟨rfl, rfl, hP1, by rw [hM1]; unfold rlnM; rw [if_pos (by omega)]⟩
      · first | (exfalso; omega) | exact ⟨rfl, rfl, PE.rf P, by unfold rlnM; rw [if_neg (by omega), if_pos (by omega)]⟩ | exact ⟨rfl, rfl, hP1, by rw [hM1]; unfold rlnM; rw [if_neg (by omega), if_pos (by omega)]⟩
      · first | (exfalso; omega) | exact ⟨rfl, rfl, PE.rf P, by unfold rlnM; rw [if_neg (by omega), if_neg (by omega), if_pos (by omega)]⟩ | exact ⟨rfl, rfl, hP1, by rw [hM1]; unfold rlnM; rw [if_neg (by omega), if_neg (by omega), if_pos (by omega)]⟩
      · first | (exfalso; omega) | exact ⟨rfl, rfl, PE.rf P, by unfold rlnM; rw [if_neg (by omega), if_neg (by omega), if_neg (by omega), if_pos (by omega)]⟩ | exact ⟨rfl, rfl, hP1, by rw [hM1]; unfold rlnM; rw [if_neg (by omega), if_neg (by omega), if_neg (by omega), if_pos (by omega)]⟩
      · first | (exfalso; omega) | exact ⟨rfl, rfl, PE.rf P, by unfold rlnM; rw [if_neg (by omega), if_neg (by omega), if_neg (by omega), if_neg (by omega), if_pos (by omega)]⟩ | exact ⟨rfl, rfl, hP1, by rw [hM1]; unfold rlnM; rw [if_neg (by omega), if_neg (by omega), if_neg (by omega), if_neg (by omega), if_pos (by omega)]⟩
      · first | (exfalso; omega) | exact ⟨rfl, rfl, PE.rf P, by unfold rlnM; rw [if_neg (by omega), if_neg (by omega), if_neg (by omega), if_neg (by omega), if_neg (by omega), if_pos (by omega)]⟩ | exact ⟨rfl, rfl, hP1, by rw [hM1]; unfold rlnM; rw [if_neg (by omega), if_neg (by omega), if_neg (by omega), if_neg (by omega), if_neg (by omega), if_pos (by omega)]⟩
      · first | (exfalso; omega) | exact ⟨rfl, rfl, PE.rf P, by unfold rlnM; rw [if_neg (by omega), if_neg (by omega), if_neg (by omega), if_neg (by omega), if_neg (by omega), if_neg (by omega), if_pos (by omega)]⟩ | exact ⟨rfl, rfl, hP1, by rw [hM1]; unfold rlnM; rw [if_neg (by omega), if_neg (by omega), if_neg (by omega), if_neg (by omega), if_neg (by omega), if_neg (by omega), if_pos (by omega)]⟩
      · first | (exfalso; omega) | exact ⟨rfl, rfl, PE.rf P, by unfold rlnM; rw [if_neg (by omega), if_neg (by omega), if_neg (by omega), if_neg (by omega), if_neg (by omega), if_neg (by omega), if_neg (by omega), if_pos (by omega)]⟩ | exact ⟨rfl, rfl, hP1, by rw [hM1]; unfold rlnM; rw [if_neg (by omega), if_neg (by omega), if_neg (by omega), if_neg (by omega), if_neg (by omega), if_neg (by omega), if_neg (by omega), if_pos (by omega)]⟩
      · first | (exfalso; omega) | exact ⟨rfl, rfl, PE.rf P, by unfold rlnM; rw [if_neg (by omega), if_neg (by omega), if_neg (by omega), if_neg (by omega), if_neg (by omega), if_neg (by omega), if_neg (by omega), if_neg (by omega)]⟩)
    · refine c_tabIn (tgt := 133) (off := 111) e22 dX4_readLine_22 ⟨by decide, by decide⟩ (by decide) (by decide) rfl (by decide) ?_
      refine a_aloadn dX4_readLine_133 rfl ?_
      refine a_peVv (as := []) (q := 42) dX4_readLine_134 mvX4_77 ⟨by decide, by decide⟩ (L42 L) rfl rfl rfl (Nat.le_of_ble_eq_true rfl) ⟨rfl, rfl⟩ ⟨by decide, by decide⟩ (m_X4_readLaw hP h42 hT ht h.1 hs h0 h.2.2.1 h.2.2.2.2.2.2.1 h.2.2.2.2.2.2.2 ⟨h.2.2.2.1.1.1, h.2.2.2.1.2.1.1, h.2.2.2.1.2.2.1⟩ h.2.2.2.2.2.1) (fun P1 M1 hP1 hM1 => ?_)
      refine a_goto (tgt := 145) dX4_readLine_137 (by decide) ?_
      exact a_return dX4_readLine_145 rfl rfl rfl (by
      unfold zpe
      rcases (show lvM M = 0 ∨ lvM M = 1 ∨ lvM M = 2 ∨ lvM M = 3 ∨ lvM M = 4 ∨ lvM M = 5 ∨ lvM M = 6 ∨ lvM M = 7 ∨ (lvM M < 0 ∨ 7 < lvM M) by omega) with q | q | q | q | q | q | q | q | q
      · first | (exfalso; omega) | exact ⟨rfl, rfl, PE.rf P, by unfold rlnM; rw [if_pos (by omega)]⟩ | exact ⟨rfl, rfl, hP1, by rw [hM1]; unfold rlnM; rw [if_pos (by omega)]⟩
      · first | (exfalso; omega) | exact ⟨rfl, rfl, PE.rf P, by unfold rlnM; rw [if_neg (by omega), if_pos (by omega)]⟩ | exact ⟨rfl, rfl, hP1, by rw [hM1]; unfold rlnM; rw [if_neg (by omega), if_pos (by omega)]⟩
      · first | (exfalso; omega) | exact ⟨rfl, rfl, PE.rf P, by unfold rlnM; rw [if_neg (by omega), if_neg (by omega), if_pos (by omega)]⟩ | exact ⟨rfl, rfl, hP1, by rw [hM1]; unfold rlnM; rw [if_neg (by omega), if_neg (by omega), if_pos (by omega)]⟩
      · first | (exfalso; omega) | exact ⟨rfl, rfl, PE.rf P, by unfold rlnM; rw [if_neg (by omega), if_neg (by omega), if_neg (by omega), if_pos (by omega)]⟩ | exact ⟨rfl, rfl, hP1, by rw [hM1]; unfold rlnM; rw [if_neg (by omega), if_neg (by omega), if_neg (by omega), if_pos (by omega)]⟩
      · first | (exfalso; omega) | exact ⟨rfl, rfl, PE.rf P, by unfold rlnM; rw [if_neg (by omega), if_neg (by omega), if_neg (by omega), if_neg (by omega), if_pos (by omega)]⟩ | exact ⟨rfl, rfl, hP1, by rw [hM1]; unfold rlnM; rw [if_neg (by omega), if_neg (by omega), if_neg (by omega), if_neg (by omega), if_pos (by omega)]⟩
      · first | (exfalso; omega) | exact ⟨rfl, rfl, PE.rf P, by unfold rlnM; rw [if_neg (by omega), if_neg (by omega), if_neg (by omega), if_neg (by omega), if_neg (by omega), if_pos (by omega)]⟩ | exact ⟨rfl, rfl, hP1, by rw [hM1]; unfold rlnM; rw [if_neg (by omega), if_neg (by omega), if_neg (by omega), if_neg (by omega), if_neg (by omega), if_pos (by omega)]⟩
      · first | (exfalso; omega) | exact ⟨rfl, rfl, PE.rf P, by unfold rlnM; rw [if_neg (by omega), if_neg (by omega), if_neg (by omega), if_neg (by omega), if_neg (by omega), if_neg (by omega), if_pos (by omega)]⟩ | exact ⟨rfl, rfl, hP1, by rw [hM1]; unfold rlnM; rw [if_neg (by omega), if_neg (by omega), if_neg (by omega), if_neg (by omega), if_neg (by omega), if_neg (by omega), if_pos (by omega)]⟩
      · first | (exfalso; omega) | exact ⟨rfl, rfl, PE.rf P, by unfold rlnM; rw [if_neg (by omega), if_neg (by omega), if_neg (by omega), if_neg (by omega), if_neg (by omega), if_neg (by omega), if_neg (by omega), if_pos (by omega)]⟩ | exact ⟨rfl, rfl, hP1, by rw [hM1]; unfold rlnM; rw [if_neg (by omega), if_neg (by omega), if_neg (by omega), if_neg (by omega), if_neg (by omega), if_neg (by omega), if_neg (by omega), if_pos (by omega)]⟩
      · first | (exfalso; omega) | exact ⟨rfl, rfl, PE.rf P, by unfold rlnM; rw [if_neg (by omega), if_neg (by omega), if_neg (by omega), if_neg (by omega), if_neg (by omega), if_neg (by omega), if_neg (by omega), if_neg (by omega)]⟩)
    · refine c_tabOut (tgt := 140) e22 dX4_readLine_22 ⟨by omega, by omega⟩ (by decide) ?_
      refine a_aloadn dX4_readLine_140 rfl ?_
      refine a_iconst dX4_readLine_141 ?_
      refine a_callVv (as := [_]) (q := 42) dX4_readLine_142 mvX4_80 ⟨by decide, by decide⟩ (L42 L) rfl rfl rfl (Nat.le_of_ble_eq_true rfl) ⟨rfl, rfl⟩ ⟨by decide, by decide⟩ (m_X4_fail hP ⟨by omega, by omega⟩) ?_
      exact a_return dX4_readLine_145 rfl rfl rfl (by
      unfold zpe
      rcases (show lvM M = 0 ∨ lvM M = 1 ∨ lvM M = 2 ∨ lvM M = 3 ∨ lvM M = 4 ∨ lvM M = 5 ∨ lvM M = 6 ∨ lvM M = 7 ∨ (lvM M < 0 ∨ 7 < lvM M) by omega) with q | q | q | q | q | q | q | q | q
      · first | (exfalso; omega) | exact ⟨rfl, rfl, PE.rf P, by unfold rlnM; rw [if_pos (by omega)]⟩ | exact ⟨rfl, rfl, hP1, by rw [hM1]; unfold rlnM; rw [if_pos (by omega)]⟩
      · first | (exfalso; omega) | exact ⟨rfl, rfl, PE.rf P, by unfold rlnM; rw [if_neg (by omega), if_pos (by omega)]⟩ | exact ⟨rfl, rfl, hP1, by rw [hM1]; unfold rlnM; rw [if_neg (by omega), if_pos (by omega)]⟩
      · first | (exfalso; omega) | exact ⟨rfl, rfl, PE.rf P, by unfold rlnM; rw [if_neg (by omega), if_neg (by omega), if_pos (by omega)]⟩ | exact ⟨rfl, rfl, hP1, by rw [hM1]; unfold rlnM; rw [if_neg (by omega), if_neg (by omega), if_pos (by omega)]⟩
      · first | (exfalso; omega) | exact ⟨rfl, rfl, PE.rf P, by unfold rlnM; rw [if_neg (by omega), if_neg (by omega), if_neg (by omega), if_pos (by omega)]⟩ | exact ⟨rfl, rfl, hP1, by rw [hM1]; unfold rlnM; rw [if_neg (by omega), if_neg (by omega), if_neg (by omega), if_pos (by omega)]⟩
      · first | (exfalso; omega) | exact ⟨rfl, rfl, PE.rf P, by unfold rlnM; rw [if_neg (by omega), if_neg (by omega), if_neg (by omega), if_neg (by omega), if_pos (by omega)]⟩ | exact ⟨rfl, rfl, hP1, by rw [hM1]; unfold rlnM; rw [if_neg (by omega), if_neg (by omega), if_neg (by omega), if_neg (by omega), if_pos (by omega)]⟩
      · first | (exfalso; omega) | exact ⟨rfl, rfl, PE.rf P, by unfold rlnM; rw [if_neg (by omega), if_neg (by omega), if_neg (by omega), if_neg (by omega), if_neg (by omega), if_pos (by omega)]⟩ | exact ⟨rfl, rfl, hP1, by rw [hM1]; unfold rlnM; rw [if_neg (by omega), if_neg (by omega), if_neg (by omega), if_neg (by omega), if_neg (by omega), if_pos (by omega)]⟩
      · first | (exfalso; omega) | exact ⟨rfl, rfl, PE.rf P, by unfold rlnM; rw [if_neg (by omega), if_neg (by omega), if_neg (by omega), if_neg (by omega), if_neg (by omega), if_neg (by omega), if_pos (by omega)]⟩ | exact ⟨rfl, rfl, hP1, by rw [hM1]; unfold rlnM; rw [if_neg (by omega), if_neg (by omega), if_neg (by omega), if_neg (by omega), if_neg (by omega), if_neg (by omega), if_pos (by omega)]⟩
      · first | (exfalso; omega) | exact ⟨rfl, rfl, PE.rf P, by unfold rlnM; rw [if_neg (by omega), if_neg (by omega), if_neg (by omega), if_neg (by omega), if_neg (by omega), if_neg (by omega), if_neg (by omega), if_pos (by omega)]⟩ | exact ⟨rfl, rfl, hP1, by rw [hM1]; unfold rlnM; rw [if_neg (by omega), if_neg (by omega), if_neg (by omega), if_neg (by omega), if_neg (by omega), if_neg (by omega), if_neg (by omega), if_pos (by omega)]⟩
      · first | (exfalso; omega) | exact ⟨rfl, rfl, PE.rf P, by unfold rlnM; rw [if_neg (by omega), if_neg (by omega), if_neg (by omega), if_neg (by omega), if_neg (by omega), if_neg (by omega), if_neg (by omega), if_neg (by omega)]⟩)

def zrd (L : Nat) (P0 : zP) (Mf : zM) : zZ := fun r lay P' M' => r = some (aI (if Mf 42 6 = 0 then 1 else 0)) ∧ lay = LAY L ∧ PE P0 P' ∧ M' = Mf

set_option maxRecDepth 100000 in
set_option maxHeartbeats 4000000 in
theorem lpX4_read {G : zG} {l : Launch} {L : Nat} {P0 : zP} {t : Nat} {nn : Int} (ht : t = 4 ∨ t = 23) (hn : 0 ≤ nn ∧ nn ≤ 700) : ∀ (n : Nat) (i : Int) (Q : zP) (M : zM) (g0 : 0 ≤ i) (g1 : i + n = nn + 1) (hP : PFok Q) (h42 : Q 42 1 = some t) (hT : ToA L Q t) (pe : PE P0 Q) (h : RdI t M), AW G l mdX4_read (zrd L P0 (rdL t n M)) 34 [some (aR 42), some (aR 3), some (aI nn), some (aR t), some (aI i)] [] (LAY L) Q M 0 0 := by
  intro n
  induction n with
  | zero =>
    intro i Q M g0 g1 hP h42 hT pe h
    refine a_iload dX4_read_34 rfl ?_
    refine a_iloadn dX4_read_36 rfl ?_
    refine a_icmp_gt (tgt := 71) dX4_read_37 (by decide) ⟨by omega, by omega⟩ ⟨by omega, by omega⟩ (fun hb37 => ?_) (fun hb37 => ?_)
    · refine a_aloadn dX4_read_71 rfl ?_
      refine b_getI (j' := 6) dX4_read_72 flX4_43 rfl rfl (L42 L) (fun hr72 => ?_)
      refine a_if_ne (tgt := 82) dX4_read_75 (by decide) ⟨by omega, by omega⟩ (fun hb75 => ?_) (fun hb75 => ?_)
      · refine a_iconst dX4_read_82 ?_
        exact a_zreturn dX4_read_83 rfl rfl rfl (by omega) (show zrd L P0 M _ _ _ _ from ⟨by first | (rw [if_pos (by omega)]; done) | (rw [if_neg (by omega)]; done), rfl, pe, rfl⟩)
      · refine a_iconst dX4_read_78 ?_
        refine a_goto (tgt := 83) dX4_read_79 (by decide) ?_
        exact a_zreturn dX4_read_83 rfl rfl rfl (by omega) (show zrd L P0 M _ _ _ _ from ⟨by first | (rw [if_pos (by omega)]; done) | (rw [if_neg (by omega)]; done), rfl, pe, rfl⟩)
    · exfalso; omega
  | succ n ih =>
    intro i Q M g0 g1 hP h42 hT pe h
    refine a_iload dX4_read_34 rfl ?_
    refine a_iloadn dX4_read_36 rfl ?_
    refine a_icmp_gt (tgt := 71) dX4_read_37 (by decide) ⟨by omega, by omega⟩ ⟨by omega, by omega⟩ (fun hb37 => ?_) (fun hb37 => ?_)
    · exfalso; omega
    · refine a_aloadn dX4_read_40 rfl ?_
      refine b_getI (j' := 6) dX4_read_41 flX4_43 rfl rfl (L42 L) (fun hr41 => ?_)
      refine a_if_ne (tgt := 71) dX4_read_44 (by decide) ⟨by omega, by omega⟩ (fun hb44 => ?_) (fun hb44 => ?_)
      · refine a_aloadn dX4_read_71 rfl ?_
        refine b_getI (j' := 6) dX4_read_72 flX4_43 rfl rfl (L42 L) (fun hr72 => ?_)
        refine a_if_ne (tgt := 82) dX4_read_75 (by decide) ⟨by omega, by omega⟩ (fun hb75 => ?_) (fun hb75 => ?_)
        · refine a_iconst dX4_read_82 ?_
          exact a_zreturn dX4_read_83 rfl rfl rfl (by omega) (by rw [rdL_s, if_neg (by omega)]; exact ⟨by first | (rw [if_pos (by omega)]; done) | (rw [if_neg (by omega)]; done), rfl, pe, rfl⟩)
        · refine a_iconst dX4_read_78 ?_
          refine a_goto (tgt := 83) dX4_read_79 (by decide) ?_
          exact a_zreturn dX4_read_83 rfl rfl rfl (by omega) (by rw [rdL_s, if_neg (by omega)]; exact ⟨by first | (rw [if_pos (by omega)]; done) | (rw [if_neg (by omega)]; done), rfl, pe, rfl⟩)
      · refine a_aloadn dX4_read_47 rfl ?_
        refine a_getR (j' := 0) (y := 43) dX4_read_48 flX4_12 rfl rfl (L42 L) (p42_0 hP) ?_
        refine b_getI (j' := 9) dX4_read_51 flX4_50 rfl rfl (L43 L) (fun hr51 => ?_)
        refine a_if_eq (tgt := 71) dX4_read_54 (by decide) ⟨by omega, by omega⟩ (fun hb54 => ?_) (fun hb54 => ?_)
        · refine a_aloadn dX4_read_71 rfl ?_
          refine b_getI (j' := 6) dX4_read_72 flX4_43 rfl rfl (L42 L) (fun hr72 => ?_)
          refine a_if_ne (tgt := 82) dX4_read_75 (by decide) ⟨by omega, by omega⟩ (fun hb75 => ?_) (fun hb75 => ?_)
          · refine a_iconst dX4_read_82 ?_
            exact a_zreturn dX4_read_83 rfl rfl rfl (by omega) (by rw [rdL_s, if_neg (by omega)]; exact ⟨by first | (rw [if_pos (by omega)]; done) | (rw [if_neg (by omega)]; done), rfl, pe, rfl⟩)
          · refine a_iconst dX4_read_78 ?_
            refine a_goto (tgt := 83) dX4_read_79 (by decide) ?_
            exact a_zreturn dX4_read_83 rfl rfl rfl (by omega) (by rw [rdL_s, if_neg (by omega)]; exact ⟨by first | (rw [if_pos (by omega)]; done) | (rw [if_neg (by omega)]; done), rfl, pe, rfl⟩)
        · refine a_aloadn dX4_read_57 rfl ?_
          refine a_peVv (as := []) (q := 42) dX4_read_58 mvX4_53 ⟨by decide, by decide⟩ (L42 L) rfl rfl rfl (Nat.le_of_ble_eq_true rfl) ⟨rfl, rfl⟩ ⟨by decide, by decide⟩ (m_X4_readLine hP h42 hT ht h (by omega) (by omega)) (fun P1 M1 hP1 hM1 => ?_)
          subst hM1
          have hPb := hP1.pf hP
          have h42b : P1 42 1 = some t := by rw [hP1 42 1 (by omega)]; exact h42
          have hTb := hP1.toa ht hT
          have jj := rln_J ht h (by omega) (by omega)
          have jv := jj.1
          have jl := jj.2.2.2.2.1
          have hl5 := h.2.2.2.2.1
          have hl6 := h.1.1
          have l9 := h.line ht (by omega) (by omega)
          refine a_aloadn dX4_read_61 rfl ?_
          refine a_callVv (as := []) (q := 42) dX4_read_62 mvX4_56 ⟨by decide, by decide⟩ (L42 L) rfl rfl rfl (Nat.le_of_ble_eq_true rfl) ⟨rfl, rfl⟩ ⟨by decide, by decide⟩ (m_X4_takeLineEnd hPb h42b hTb ht jv ⟨by omega, by omega⟩) ?_
          refine c_iinc (ls' := [_, _, _, _, _]) dX4_read_65 rfl (by decide) rfl rfl ?_
          refine a_goto (tgt := 34) dX4_read_68 (by decide) ?_
          rw [rdL_s, if_pos ⟨by omega, by omega⟩]
          exact ih _ P1 _ (by omega) (by omega) hPb h42b hTb (pe.tr hP1) l9.1

/-- what reading a text does to the pointers -/
def PR (P P' : zP) : Prop := ∀ (k : Nat) (i : Int), ¬ (k = 42 ∧ (i = 1 ∨ i = 2)) → ¬ (k = 43 ∧ i = 6) → P' k i = P k i
def zrt (L t : Nat) (P : zP) (M : zM) (nn : Int) : zZ := fun r lay P' M' => lay = LAY L ∧ PR P P' ∧ PFok P' ∧ ∃ (Ma Mc : zM) (N : Nat), clT t M Ma ∧ CuR (M 3) nn N (sm (sm Ma 42 6 0) 42 7 (-1)) Mc ∧ M' = rdL t (nn + 1).toNat Mc ∧ r = some (aI (if M' 42 6 = 0 then 1 else 0))
theorem ToA_pr {P P' : zP} {L t : Nat} (ht : t = 4 ∨ t = 23) (h : ∀ (k : Nat) (i : Int), k ≠ 42 → k ≠ 43 → P' k i = P k i) (hT : ToA L P t) : ToA L P' t := by
  obtain ⟨h0, ⟨h1, l1⟩, ⟨h2, l2⟩, ⟨h3, l3⟩⟩ := hT
  unfold ToA ToA0 LwA at *
  rw [h t _ (by omega) (by omega), h t _ (by omega) (by omega), h t _ (by omega) (by omega), h t _ (by omega) (by omega), h t _ (by omega) (by omega), h t _ (by omega) (by omega), h t _ (by omega) (by omega), h t _ (by omega) (by omega), h t _ (by omega) (by omega), h t _ (by omega) (by omega), h t _ (by omega) (by omega), h t _ (by omega) (by omega), h (t + 12) _ (by omega) (by omega), h (t + 12) _ (by omega) (by omega), h (t + 12) _ (by omega) (by omega), h (t + 13) _ (by omega) (by omega), h (t + 15) _ (by omega) (by omega), h (t + 17) _ (by omega) (by omega)]
  exact ⟨h0, ⟨h1, l1⟩, ⟨h2, l2⟩, ⟨h3, l3⟩⟩

set_option maxRecDepth 100000 in
set_option maxHeartbeats 4000000 in
theorem m_X4_read {G : zG} {l : Launch} {L : Nat} {P : zP} {M : zM} {t : Nat} {nn : Int} (hP : PFok P) (hT : ToA L P t) (ht : t = 4 ∨ t = 23) (hn : 0 ≤ nn ∧ nn ≤ 700) (hL : ∀ k : Int, 0 ≤ k → k < 21 → M 44 k = lngF k) (hR : ∀ i : Int, 0 ≤ i → i < 14 → M 1 i = rnk i) (hI : ToI M t) : AM G l yX4_read mdX4_read [aR 42, aR 3, aI nn, aR t] (LAY L) P M (zrt L t P M nn) := by
  refine AM.go [some (aR 42), some (aR 3), some (aI nn), some (aR t), none] rfl (Nat.le_of_ble_eq_true rfl) ?_ (by decide) rfl rfl
  refine a_aloadn dX4_read_0 rfl ?_
  refine a_aloadn dX4_read_1 rfl ?_
  refine a_putR (j' := 1) dX4_read_2 flX4_26 rfl rfl (L42 L) (by decide) rfl ?_
  obtain ⟨P1, eP⟩ : ∃ P1, P1 = sp P 42 1 (some t) := ⟨_, rfl⟩
  rw [← eP]
  have hP1 : PFok P1 := by rw [eP]; exact PF_off hP (by decide +kernel) _
  have h421 : P1 42 1 = some t := by rw [eP]; exact sp_s _ _ _ _
  have p1 : ∀ (k : Nat) (i : Int), ¬ (k = 42 ∧ i = 1) → P1 k i = P k i := fun k i hk => by
    rw [eP]
    by_cases e : k = 42
    · subst e; exact sp_k (fun z => hk ⟨rfl, z⟩)
    · rw [sp_n e]
  have hT1 : ToA L P1 t := ToA_pr ht (fun k i a b => p1 k i (by omega)) hT
  refine a_aloadn dX4_read_5 rfl ?_
  refine a_getR (j' := 1) (y := t) dX4_read_6 flX4_26 rfl rfl (L42 L) h421 ?_
  refine a_relVv (as := []) (q := t) dX4_read_9 mvX4_40 ⟨by decide, by decide⟩ hT1.1.2.1 rfl rfl rfl (Nat.le_of_ble_eq_true rfl) ⟨rfl, rfl⟩ ⟨by decide, by decide⟩ (m_X8_clear hT1 ht) (fun Ma hMa => ?_)
  refine a_aloadn dX4_read_12 rfl ?_
  refine a_iconst dX4_read_13 ?_
  refine a_putI (j' := 6) dX4_read_14 flX4_43 rfl rfl (L42 L) (by decide) rfl ⟨by omega, by omega⟩ ?_
  refine a_aloadn dX4_read_17 rfl ?_
  refine a_iconst dX4_read_18 ?_
  refine a_putI (j' := 7) dX4_read_19 flX4_22 rfl rfl (L42 L) (by decide) rfl ⟨by omega, by omega⟩ ?_
  refine a_aloadn dX4_read_22 rfl ?_
  refine a_getR (j' := 0) (y := 43) dX4_read_23 flX4_12 rfl rfl (L42 L) (p42_0 hP1) ?_
  refine a_aloadn dX4_read_26 rfl ?_
  refine a_iloadn dX4_read_27 rfl ?_
  refine a_relPVv (as := [_, _]) (q := 43) dX4_read_28 mvX4_46 ⟨by decide, by decide⟩ (L43 L) rfl rfl rfl (Nat.le_of_ble_eq_true rfl) ⟨rfl, rfl⟩ ⟨by decide, by decide⟩ (m_X7_cut hP1 hn (fun k k0 k1 => by rw [sm_n (by decide), sm_n (by decide), hMa.2.2.2.2.2 44 (by omega) (by omega) (by omega) (by omega) (by omega) (by omega)]; exact hL k k0 k1)) (fun Mc hMc => ?_)
  obtain ⟨N, hN⟩ := hMc
  obtain ⟨P2, eP2⟩ : ∃ P2, P2 = sp P1 43 6 (some 3) := ⟨_, rfl⟩
  rw [← eP2]
  have hP2 : PFok P2 := by rw [eP2]; exact PF_off hP1 (by decide +kernel) _
  have p2 : ∀ (k : Nat) (i : Int), ¬ (k = 43 ∧ i = 6) → P2 k i = P1 k i := fun k i hk => by
    rw [eP2]
    by_cases e : k = 43
    · subst e; exact sp_k (fun z => hk ⟨rfl, z⟩)
    · rw [sp_n e]
  have h422 : P2 42 1 = some t := by rw [p2 42 1 (by omega)]; exact h421
  have hT2 : ToA L P2 t := ToA_pr ht (fun k i a b => p2 k i (by omega)) hT1
  rw [show sm (sm Ma 42 6 0) 42 7 (-1) 3 = M 3 from by rw [sm_n (by decide), sm_n (by decide), hMa.2.2.2.2.2 3 (by omega) (by omega) (by omega) (by omega) (by omega) (by omega)]] at hN
  have hini := rd_ini ht hn hI hR hMa hN
  refine a_iconst dX4_read_31 ?_
  refine c_istore (ls' := [_, _, _, _, _]) dX4_read_32 (by decide) rfl rfl ?_
  refine AW.mono2 (lpX4_read (P0 := P2) ht hn (nn + 1).toNat 0 P2 Mc (by omega) (by omega) hP2 h422 hT2 (PE.rf P2) hini.1) ?_
  rintro r lay P' M' ⟨z1, z2, z3, z4⟩
  refine ⟨z2, fun k i a b => ?_, z3.pf hP2, Ma, Mc, N, hMa, hN, z4, by rw [z4]; exact z1⟩
  rw [z3 k i (by omega), p2 k i (by omega), p1 k i (by omega)]
