theorem kfRANKS : Cond.fieldLink "StaticDial$Reader" 193 "StaticDial$Reader" "RANKS" "[I" ∈ zt := zmem (tm0 646 (by decide +kernel)) rfl
theorem rnk_dec : ∀ x : Fin 14, 0 ≤ rnk ((x.val : Nat) : Int) ∧ rnk ((x.val : Nat) : Int) ≤ 6 ∧ (rnk ((x.val : Nat) : Int) < 1 ↔ ((x.val : Nat) : Int) = 13) := by decide +kernel
theorem rnk_in {x : Int} (h : 0 ≤ x ∧ x ≤ 13) : 0 ≤ rnk x ∧ rnk x ≤ 6 ∧ (rnk x < 1 ↔ x = 13) := by
  obtain ⟨k, rfl⟩ : ∃ k : Nat, x = (k : Int) := ⟨x.toNat, by omega⟩
  exact rnk_dec ⟨k, by omega⟩
theorem rkA_in {M : zM} (h : AsI M) : 0 ≤ rkA M ∧ rkA M ≤ 6 := by
  unfold rkA
  split
  · have := rnk_in (h.2.1 (M 42 4 - 1) (by omega) (by omega)); omega
  · omega
theorem AsI.of {M M' : zM} (h : AsI M) (h4 : M' 42 4 = M 42 4) (h5 : M' 42 5 = M 42 5) (h9 : M' 49 = M 49) : AsI M' := by
  unfold AsI at *
  rw [h4, h5, h9]
  exact h
theorem laM_n (w : Nat) (x : Int) (M : zM) {k : Nat} (h : k ≠ w) (h2 : k ≠ w + 1) : laM w x M k = M k := by
  unfold laM
  split
  · rw [sm_n h, sm_n h2]
  · rfl
theorem laM_s {w : Nat} {x : Int} {M : zM} (h : 0 ≤ M w 1 ∧ M w 1 ≤ 64) : 0 ≤ laM w x M w 1 ∧ laM w x M w 1 ≤ 64 := by
  unfold laM
  split
  · rw [sm_s]; omega
  · exact h
/-- a sign is taken from aside -/
def pop1 (w : Nat) (M : zM) : zM := laM w (20000 + M 49 (M 42 4 - 1)) (sm M 42 4 (M 42 4 - 1))
theorem pop1_n (w : Nat) (M : zM) {k : Nat} (h0 : k ≠ 42) (h : k ≠ w) (h2 : k ≠ w + 1) : pop1 w M k = M k := by
  unfold pop1
  rw [laM_n _ _ _ h h2, sm_n h0]
theorem pop1_42 {w : Nat} (M : zM) (hw : w + 1 < 42) : pop1 w M 42 4 = M 42 4 - 1 ∧ ∀ i : Int, i ≠ 4 → pop1 w M 42 i = M 42 i := by
  unfold pop1
  rw [laM_n _ _ _ (by omega) (by omega)]
  exact ⟨by rw [sm_s], fun i hi => by rw [sm_k, us_n hi]⟩
theorem pop1_s {w : Nat} {M : zM} (hw : w + 1 < 42) (h : 0 ≤ M w 1 ∧ M w 1 ≤ 64) : 0 ≤ pop1 w M w 1 ∧ pop1 w M w 1 ≤ 64 := by
  unfold pop1
  exact laM_s (by rw [sm_n (by omega)]; exact h)
theorem pop1_as {w : Nat} {M : zM} (hw : w + 1 < 42) (h : AsI M) (h4 : 0 < M 42 4) : AsI (pop1 w M) := by
  obtain ⟨h1, h2, h3⟩ := h
  unfold AsI
  rw [(pop1_42 M hw).1, (pop1_42 M hw).2 5 (by decide), pop1_n w M (show 49 ≠ 42 by decide) (by omega) (by omega)]
  exact ⟨by omega, fun j j0 j1 => h2 j j0 (by omega), h3⟩
theorem m_laM {G : zG} {l : Launch} {L : Nat} {P : zP} {M : zM} {w : Nat} {x : Int} (hw : LwA L P w) (hi : 0 ≤ M w 1 ∧ M w 1 ≤ 64) (rx : inR x) : AM G l yX1_add mdX1_add [aR w, aI x] (LAY L) P M (zdet none (LAY L) P (laM w x M)) := by
  refine (m_X1_add (G := G) (l := l) hw hi rx).mono ?_
  rintro r lay P' M' ⟨rfl, rfl, rfl, h | h⟩
  · exact zdet_V (by rw [h.2]; unfold laM; rw [if_neg (by omega)])
  · exact zdet_V (by rw [h.2]; unfold laM; rw [if_pos (by omega)])
theorem lyA_s (w : Nat) (r : Int) (n : Nat) (M : zM) : lyA w r (n + 1) M = if 0 < M 42 4 ∧ r ≤ rkA M then lyA w r n (pop1 w M) else M := rfl

set_option maxRecDepth 100000 in
set_option maxHeartbeats 4000000 in
theorem m_X4_rankAside {G : zG} {l : Launch} {L : Nat} {P : zP} {M : zM}  (hP : PFok P) (hA : AsI M) (hR : ∀ i : Int, 0 ≤ i → i < 14 → M 1 i = rnk i) : AM G l yX4_rankAside mdX4_rankAside [aR 42] (LAY L) P M (zdet (some (aI (rkA M))) (LAY L) P M) := by
  have a1 := hA.1
  refine AM.go [some (aR 42)] rfl (Nat.le_of_ble_eq_true rfl) ?_ (by decide) rfl rfl
  refine a_aloadn dX4_rankAside_0 rfl ?_
  refine b_getI (j' := 4) dX4_rankAside_1 flX4_150 rfl rfl (L42 L) (fun hr1 => ?_)
  refine a_if_le (tgt := 25) dX4_rankAside_4 (by decide) ⟨by omega, by omega⟩ (fun hb4 => ?_) (fun hb4 => ?_)
  · refine a_iconst dX4_rankAside_25 ?_
    exact a_ireturn dX4_rankAside_26 rfl rfl rfl (zdet_I (by unfold rkA; first | (rw [if_pos (by omega)]; done) | (rw [if_neg (by omega)]; done)) rfl)
  · refine a_ranks dX4_rankAside_7 kfRANKS ?_
    refine a_aloadn dX4_rankAside_10 rfl ?_
    refine a_getR (j' := 3) (y := 49) dX4_rankAside_11 flX4_18 rfl rfl (L42 L) (p42_3 hP) ?_
    refine a_aloadn dX4_rankAside_14 rfl ?_
    refine b_getI (j' := 4) dX4_rankAside_15 flX4_150 rfl rfl (L42 L) (fun hr15 => ?_)
    refine a_iconst dX4_rankAside_18 ?_
    refine a_isub dX4_rankAside_19 ?_
    refine b_iald (N := 72) dX4_rankAside_20 (L49 L) (by decide) (by omega) (by omega) (fun hr20 => ?_)
    have a2 := hA.2.1 (M 42 4 - 1) (by omega) (by omega)
    refine b_iald (N := 14) dX4_rankAside_21 (L1 L) (by decide) (by omega) (by omega) (fun hr21 => ?_)
    rw [hR _ (by omega) (by omega)] at hr21
    rw [hR _ (by omega) (by omega)]
    refine a_goto (tgt := 26) dX4_rankAside_22 (by decide) ?_
    exact a_ireturn dX4_rankAside_26 rfl rfl rfl (zdet_I (by unfold rkA; first | (rw [if_pos (by omega)]; done) | (rw [if_neg (by omega)]; done)) rfl)

set_option maxRecDepth 100000 in
set_option maxHeartbeats 4000000 in
theorem m_X4_putAside {G : zG} {l : Launch} {L : Nat} {P : zP} {M : zM} {s : Int} (hP : PFok P) (h4 : 0 ≤ M 42 4 ∧ M 42 4 ≤ 72) (rs : inR s) : AM G l yX4_putAside mdX4_putAside [aR 42, aI s] (LAY L) P M (zdet none (LAY L) P (paM s M)) := by
  refine AM.go [some (aR 42), some (aI s)] rfl (Nat.le_of_ble_eq_true rfl) ?_ (by decide) rfl rfl
  refine a_aloadn dX4_putAside_0 rfl ?_
  refine b_getI (j' := 4) dX4_putAside_1 flX4_150 rfl rfl (L42 L) (fun hr1 => ?_)
  refine a_aloadn dX4_putAside_4 rfl ?_
  refine a_getR (j' := 3) (y := 49) dX4_putAside_5 flX4_18 rfl rfl (L42 L) (p42_3 hP) ?_
  refine a_alen (w := 72) dX4_putAside_8 (L49 L) (by decide) rfl ?_
  refine a_icmp_ge (tgt := 32) dX4_putAside_9 (by decide) ⟨by omega, by omega⟩ ⟨by omega, by omega⟩ (fun hb9 => ?_) (fun hb9 => ?_)
  · exact a_return dX4_putAside_32 rfl rfl rfl (zdet_V (by unfold paM; first | (rw [if_pos (by omega)]; done) | (rw [if_neg (by omega)]; done)))
  · refine a_aloadn dX4_putAside_12 rfl ?_
    refine a_getR (j' := 3) (y := 49) dX4_putAside_13 flX4_18 rfl rfl (L42 L) (p42_3 hP) ?_
    refine a_aloadn dX4_putAside_16 rfl ?_
    refine b_getI (j' := 4) dX4_putAside_17 flX4_150 rfl rfl (L42 L) (fun hr17 => ?_)
    refine a_iloadn dX4_putAside_20 rfl ?_
    refine a_iast (N := 72) dX4_putAside_21 (L49 L) (by decide) (by decide) (by omega) (by omega) rs ?_
    refine a_aloadn dX4_putAside_22 rfl ?_
    refine a_dupR dX4_putAside_23 ?_
    refine b_getI (j' := 4) dX4_putAside_24 flX4_150 rfl rfl (L42 L) (fun hr24 => ?_)
    rw [sm_n (show 42 ≠ 49 by decide)] at hr24
    rw [sm_n (show 42 ≠ 49 by decide)]
    refine a_iconst dX4_putAside_27 ?_
    refine a_iadd dX4_putAside_28 ?_
    refine a_putI (j' := 4) dX4_putAside_29 flX4_150 rfl rfl (L42 L) (by decide) rfl ⟨by omega, by omega⟩ ?_
    exact a_return dX4_putAside_32 rfl rfl rfl (zdet_V (by unfold paM; first | (rw [if_pos (by omega)]; done) | (rw [if_neg (by omega)]; done)))

set_option maxRecDepth 100000 in
set_option maxHeartbeats 4000000 in
theorem lpX4_layAside {G : zG} {l : Launch} {L : Nat} {P : zP} {t w : Nat} {r : Int} (hP : PFok P) (h42 : P 42 1 = some t) (hT : ToA L P t) (ht : t = 4 ∨ t = 23) (h2 : P 42 2 = some w) (hw : LwA L P w) (hwt : w = t + 13 ∨ w = t + 15 ∨ w = t + 17) (rr : inR r) : ∀ (n : Nat) (M : zM) (g : M 42 4 ≤ n) (hA : AsI M) (hl : 0 ≤ M w 1 ∧ M w 1 ≤ 64) (hR : ∀ i : Int, 0 ≤ i → i < 14 → M 1 i = rnk i), AW G l mdX4_layAside (zdet none (LAY L) P (lyA w r n M)) 0 [some (aR 42), some (aI r)] [] (LAY L) P M 0 0 := by
  intro n
  induction n with
  | zero =>
    intro M g hA hl hR
    have a1 := hA.1
    have a3 := rkA_in hA
    refine a_aloadn dX4_layAside_0 rfl ?_
    refine b_getI (j' := 4) dX4_layAside_1 flX4_150 rfl rfl (L42 L) (fun hr1 => ?_)
    refine a_if_le (tgt := 48) dX4_layAside_4 (by decide) ⟨by omega, by omega⟩ (fun hb4 => ?_) (fun hb4 => ?_)
    · exact a_return dX4_layAside_48 rfl rfl rfl (zdet_V rfl)
    · exfalso; omega
  | succ n ih =>
    intro M g hA hl hR
    have a1 := hA.1
    have a3 := rkA_in hA
    refine a_aloadn dX4_layAside_0 rfl ?_
    refine b_getI (j' := 4) dX4_layAside_1 flX4_150 rfl rfl (L42 L) (fun hr1 => ?_)
    refine a_if_le (tgt := 48) dX4_layAside_4 (by decide) ⟨by omega, by omega⟩ (fun hb4 => ?_) (fun hb4 => ?_)
    · exact a_return dX4_layAside_48 rfl rfl rfl (zdet_V (by rw [lyA_s, if_neg (by omega)]))
    · refine a_aloadn dX4_layAside_7 rfl ?_
      refine a_callV (as := []) (q := 42) dX4_layAside_8 mvX4_186 ⟨by decide, by decide⟩ (L42 L) rfl rfl rfl (Nat.le_of_ble_eq_true rfl) ⟨rfl, rfl⟩ ⟨by decide, by decide⟩ (m_X4_rankAside hP hA hR) ?_
      refine a_iloadn dX4_layAside_11 rfl ?_
      refine a_icmp_lt (tgt := 48) dX4_layAside_12 (by decide) ⟨by omega, by omega⟩ ⟨by omega, by omega⟩ (fun hb12 => ?_) (fun hb12 => ?_)
      · exact a_return dX4_layAside_48 rfl rfl rfl (zdet_V (by rw [lyA_s, if_neg (by omega)]))
      · refine a_aloadn dX4_layAside_15 rfl ?_
        refine a_dupR dX4_layAside_16 ?_
        refine b_getI (j' := 4) dX4_layAside_17 flX4_150 rfl rfl (L42 L) (fun hr17 => ?_)
        refine a_iconst dX4_layAside_20 ?_
        refine a_isub dX4_layAside_21 ?_
        refine a_putI (j' := 4) dX4_layAside_22 flX4_150 rfl rfl (L42 L) (by decide) rfl ⟨by omega, by omega⟩ ?_
        refine a_aloadn dX4_layAside_25 rfl ?_
        refine a_getR (j' := 2) (y := w) dX4_layAside_26 flX4_36 rfl rfl (L42 L) h2 ?_
        refine a_sipush (w := 20000) dX4_layAside_29 (by decide) ?_
        refine a_aloadn dX4_layAside_32 rfl ?_
        refine a_getR (j' := 3) (y := 49) dX4_layAside_33 flX4_18 rfl rfl (L42 L) (p42_3 hP) ?_
        refine a_aloadn dX4_layAside_36 rfl ?_
        refine b_getI (j' := 4) dX4_layAside_37 flX4_150 rfl rfl (L42 L) (fun hr37 => ?_)
        rw [sm_s] at hr37
        rw [sm_s]
        refine b_iald (N := 72) dX4_layAside_40 (L49 L) (by decide) (by omega) (by omega) (fun hr40 => ?_)
        have a2 := hA.2.1 (M 42 4 - 1) (by omega) (by omega)
        rw [sm_n (show 49 ≠ 42 by decide)] at hr40
        rw [sm_n (show 49 ≠ 42 by decide)]
        refine a_iadd dX4_layAside_41 ?_
        refine a_callVv (as := [_]) (q := w) dX4_layAside_42 mvX4_180 ⟨by decide, by decide⟩ hw.2.1 rfl rfl rfl (Nat.le_of_ble_eq_true rfl) ⟨rfl, rfl⟩ ⟨by decide, by decide⟩ (m_laM hw (by rw [sm_n (by omega)]; exact hl) ⟨by omega, by omega⟩) ?_
        refine a_goto (tgt := 0) dX4_layAside_45 (by decide) ?_
        rw [lyA_s, if_pos ⟨by omega, by omega⟩]
        refine ih _ (by rw [(pop1_42 M (by omega)).1]; omega) (pop1_as (by omega) hA (by omega)) (pop1_s (by omega) hl) (fun i i0 i1 => by rw [pop1_n w M (by decide) (by omega) (by omega)]; exact hR i i0 i1)

set_option maxRecDepth 100000 in
set_option maxHeartbeats 4000000 in
theorem m_X4_layAside {G : zG} {l : Launch} {L : Nat} {P : zP} {M : zM} {t w : Nat} {r : Int} (hP : PFok P) (h42 : P 42 1 = some t) (hT : ToA L P t) (ht : t = 4 ∨ t = 23) (h2 : P 42 2 = some w) (hw : LwA L P w) (hwt : w = t + 13 ∨ w = t + 15 ∨ w = t + 17) (rr : inR r) (hA : AsI M) (hl : 0 ≤ M w 1 ∧ M w 1 ≤ 64) (hR : ∀ i : Int, 0 ≤ i → i < 14 → M 1 i = rnk i) : AM G l yX4_layAside mdX4_layAside [aR 42, aI r] (LAY L) P M (zdet none (LAY L) P (lyA w r (M 42 4).toNat M)) := by
  refine AM.go [some (aR 42), some (aI r)] rfl (Nat.le_of_ble_eq_true rfl) ?_ (by decide) rfl rfl
  exact lpX4_layAside hP h42 hT ht h2 hw hwt rr (M 42 4).toNat M (by have := hA.1; omega) hA hl hR

set_option maxRecDepth 100000 in
set_option maxHeartbeats 4000000 in
theorem m_X4_isAheadOfPart {G : zG} {l : Launch} {L : Nat} {P : zP} {M : zM}  (hP : PFok P) (hA : AsI M) (hR : ∀ i : Int, 0 ≤ i → i < 14 → M 1 i = rnk i) : AM G l yX4_isAheadOfPart mdX4_isAheadOfPart [aR 42] (LAY L) P M (zone (LAY L) P M (fun r => r = iaV M)) := by
  have a3 := rkA_in hA
  refine AM.go [some (aR 42)] rfl (Nat.le_of_ble_eq_true rfl) ?_ (by decide) rfl rfl
  refine a_aloadn dX4_isAheadOfPart_0 rfl ?_
  refine a_getR (j' := 0) (y := 43) dX4_isAheadOfPart_1 flX4_12 rfl rfl (L42 L) (p42_0 hP) ?_
  refine a_bipush (w := 13) dX4_isAheadOfPart_4 (by decide) ?_
  refine a_oneV (as := [_]) (q := 43) dX4_isAheadOfPart_6 mvX4_84 ⟨by decide, by decide⟩ (L43 L) rfl rfl rfl (Nat.le_of_ble_eq_true rfl) ⟨rfl, rfl⟩ ⟨by decide, by decide⟩ (m_X7_isSign ⟨by omega, by omega⟩) (fun x6 hx6 => ?_)
  refine a_if_ne (tgt := 32) dX4_isAheadOfPart_9 (by decide) ⟨by omega, by omega⟩ (fun hb9 => ?_) (fun hb9 => ?_)
  · refine a_iconst dX4_isAheadOfPart_32 ?_
    refine a_goto (tgt := 37) dX4_isAheadOfPart_33 (by decide) ?_
    exact a_zreturn dX4_isAheadOfPart_37 rfl rfl rfl (by omega) (zone_i (by unfold iaV; first | (rw [if_pos (by omega)]; done) | (rw [if_neg (by omega)]; done)))
  · refine a_aloadn dX4_isAheadOfPart_12 rfl ?_
    refine a_getR (j' := 0) (y := 43) dX4_isAheadOfPart_13 flX4_12 rfl rfl (L42 L) (p42_0 hP) ?_
    refine a_bipush (w := 13) dX4_isAheadOfPart_16 (by decide) ?_
    refine a_oneV (as := [_]) (q := 43) dX4_isAheadOfPart_18 mvX4_183 ⟨by decide, by decide⟩ (L43 L) rfl rfl rfl (Nat.le_of_ble_eq_true rfl) ⟨rfl, rfl⟩ ⟨by decide, by decide⟩ (m_X7_isWord ⟨by omega, by omega⟩) (fun x18 hx18 => ?_)
    refine a_if_eq (tgt := 36) dX4_isAheadOfPart_21 (by decide) ⟨by omega, by omega⟩ (fun hb21 => ?_) (fun hb21 => ?_)
    · refine a_iconst dX4_isAheadOfPart_36 ?_
      exact a_zreturn dX4_isAheadOfPart_37 rfl rfl rfl (by omega) (zone_i (by unfold iaV; first | (rw [if_pos (by omega)]; done) | (rw [if_neg (by omega)]; done)))
    · refine a_aloadn dX4_isAheadOfPart_24 rfl ?_
      refine a_callV (as := []) (q := 42) dX4_isAheadOfPart_25 mvX4_186 ⟨by decide, by decide⟩ (L42 L) rfl rfl rfl (Nat.le_of_ble_eq_true rfl) ⟨rfl, rfl⟩ ⟨by decide, by decide⟩ (m_X4_rankAside hP hA hR) ?_
      refine a_iconst dX4_isAheadOfPart_28 ?_
      refine a_icmp_gt (tgt := 36) dX4_isAheadOfPart_29 (by decide) ⟨by omega, by omega⟩ ⟨by omega, by omega⟩ (fun hb29 => ?_) (fun hb29 => ?_)
      · refine a_iconst dX4_isAheadOfPart_36 ?_
        exact a_zreturn dX4_isAheadOfPart_37 rfl rfl rfl (by omega) (zone_i (by unfold iaV; first | (rw [if_pos (by omega)]; done) | (rw [if_neg (by omega)]; done)))
      · refine a_iconst dX4_isAheadOfPart_32 ?_
        refine a_goto (tgt := 37) dX4_isAheadOfPart_33 (by decide) ?_
        exact a_zreturn dX4_isAheadOfPart_37 rfl rfl rfl (by omega) (zone_i (by unfold iaV; first | (rw [if_pos (by omega)]; done) | (rw [if_neg (by omega)]; done)))

theorem paM_n (s : Int) (M : zM) {k : Nat} (h : k ≠ 42) (h2 : k ≠ 49) : paM s M k = M k := by
  unfold paM
  split
  · rw [sm_n h, sm_n h2]
  · rfl
theorem paM_42 (s : Int) (M : zM) {i : Int} (h : i ≠ 4) : paM s M 42 i = M 42 i := by
  unfold paM
  split
  · rw [sm_k, us_n h, sm_n (by decide)]
  · rfl
theorem tcM_n (t : Nat) (M : zM) {k : Nat} (h : k ≠ 42) (h2 : k ≠ 43) (h3 : k ≠ t) : tcM t M k = M k := by
  unfold tcM
  split
  · rw [stT_n _ h2, sm_n h3]
  · exact flM_n M 2 h
theorem tcM_42 {t : Nat} (ht : t < 42) (M : zM) {i : Int} (h : i ≠ 6 ∧ i ≠ 7) : tcM t M 42 i = M 42 i := by
  unfold tcM
  split
  · rw [stT_n _ (by decide), sm_n (by omega)]
  · exact flM_42 M 2 h
theorem TV.sm {M : zM} (h : TV M) {k : Nat} (hk : k ≠ 43 ∧ k ≠ 45 ∧ k ≠ 46 ∧ k ≠ 47) (i v : Int) : TV (sm M k i v) := h.of (sm_n (by omega)) (sm_n (by omega)) (sm_n (by omega)) (sm_n (by omega))
theorem TV.pa {M : zM} (h : TV M) (s : Int) : TV (paM s M) := h.of (paM_n _ _ (by decide) (by decide)) (paM_n _ _ (by decide) (by decide)) (paM_n _ _ (by decide) (by decide)) (paM_n _ _ (by decide) (by decide))
theorem TV.tc {M : zM} {t : Nat} (ht : t < 42) (h : TV M) (hs : M 43 9 ≠ 0) : TV (tcM t M) := by
  unfold tcM
  split
  · exact (h.sm (by omega) _ _).st (by rw [sm_n (by omega)]; exact hs)
  · exact h.fl 2

set_option maxRecDepth 100000 in
set_option maxHeartbeats 4000000 in
theorem m_X4_takeOpen {G : zG} {l : Launch} {L : Nat} {P : zP} {M : zM}  (hP : PFok P) (h4 : 0 ≤ M 42 4 ∧ M 42 4 ≤ 72) (hv : TV M) (hs : M 43 9 ≠ 0) : AM G l yX4_takeOpen mdX4_takeOpen [aR 42] (LAY L) P M (zdet none (LAY L) P (toM M)) := by
  refine AM.go [some (aR 42)] rfl (Nat.le_of_ble_eq_true rfl) ?_ (by decide) rfl rfl
  refine a_aloadn dX4_takeOpen_0 rfl ?_
  refine b_getI (j' := 5) dX4_takeOpen_1 flX4_153 rfl rfl (L42 L) (fun hr1 => ?_)
  refine a_bipush (w := 8) dX4_takeOpen_4 (by decide) ?_
  refine a_icmp_lt (tgt := 15) dX4_takeOpen_6 (by decide) ⟨by omega, by omega⟩ ⟨by omega, by omega⟩ (fun hb6 => ?_) (fun hb6 => ?_)
  · refine a_aloadn dX4_takeOpen_15 rfl ?_
    refine a_dupR dX4_takeOpen_16 ?_
    refine b_getI (j' := 5) dX4_takeOpen_17 flX4_153 rfl rfl (L42 L) (fun hr17 => ?_)
    refine a_iconst dX4_takeOpen_20 ?_
    refine a_iadd dX4_takeOpen_21 ?_
    refine a_putI (j' := 5) dX4_takeOpen_22 flX4_153 rfl rfl (L42 L) (by decide) rfl ⟨by omega, by omega⟩ ?_
    refine a_aloadn dX4_takeOpen_25 rfl ?_
    refine a_bipush (w := 13) dX4_takeOpen_26 (by decide) ?_
    refine a_callVv (as := [_]) (q := 42) dX4_takeOpen_28 mvX4_177 ⟨by decide, by decide⟩ (L42 L) rfl rfl rfl (Nat.le_of_ble_eq_true rfl) ⟨rfl, rfl⟩ ⟨by decide, by decide⟩ (m_X4_putAside hP (by rw [sm_k, us_n (by decide)]; exact h4) ⟨by omega, by omega⟩) ?_
    refine a_aloadn dX4_takeOpen_31 rfl ?_
    refine a_getR (j' := 0) (y := 43) dX4_takeOpen_32 flX4_12 rfl rfl (L42 L) (p42_0 hP) ?_
    refine a_callVv (as := []) (q := 43) dX4_takeOpen_35 mvX4_88 ⟨by decide, by decide⟩ (L43 L) rfl rfl rfl (Nat.le_of_ble_eq_true rfl) ⟨rfl, rfl⟩ ⟨by decide, by decide⟩ (m_X7_step hP (((hv.sm (k := 42) (by omega) _ _).pa 13).lt (by rw [paM_n _ _ (by decide) (by decide), sm_n (by decide)]; exact hs))) ?_
    exact a_return dX4_takeOpen_38 rfl rfl rfl (zdet_V (by unfold toM; rw [if_pos (by omega)]))
  · refine a_aloadn dX4_takeOpen_9 rfl ?_
    refine a_iconst dX4_takeOpen_10 ?_
    refine a_callVv (as := [_]) (q := 42) dX4_takeOpen_11 mvX4_80 ⟨by decide, by decide⟩ (L42 L) rfl rfl rfl (Nat.le_of_ble_eq_true rfl) ⟨rfl, rfl⟩ ⟨by decide, by decide⟩ (m_X4_fail hP ⟨by omega, by omega⟩) ?_
    exact a_return dX4_takeOpen_14 rfl rfl rfl (zdet_V (by unfold toM; rw [if_neg (by omega)]))

set_option maxRecDepth 100000 in
set_option maxHeartbeats 4000000 in
theorem m_X4_takeKnot {G : zG} {l : Launch} {L : Nat} {P : zP} {M : zM} {t : Nat} (hP : PFok P) (h42 : P 42 1 = some t) (hT : ToA L P t) (ht : t = 4 ∨ t = 23) (hk : 0 ≤ M t 1 ∧ M t 1 ≤ 64) (hv : TV M) (hs : M 43 9 ≠ 0) : AM G l yX4_takeKnot mdX4_takeKnot [aR 42] (LAY L) P M (zdet none (LAY L) P (tcM t M)) := by
  refine AM.go [some (aR 42)] rfl (Nat.le_of_ble_eq_true rfl) ?_ (by decide) rfl rfl
  refine a_aloadn dX4_takeKnot_0 rfl ?_
  refine a_getR (j' := 1) (y := t) dX4_takeKnot_1 flX4_26 rfl rfl (L42 L) h42 ?_
  refine b_getI (j' := 1) dX4_takeKnot_4 flX4_196 rfl rfl hT.1.2.1 (fun hr4 => ?_)
  refine a_bipush (w := 64) dX4_takeKnot_7 (by decide) ?_
  refine a_icmp_lt (tgt := 18) dX4_takeKnot_9 (by decide) ⟨by omega, by omega⟩ ⟨by omega, by omega⟩ (fun hb9 => ?_) (fun hb9 => ?_)
  · refine a_aloadn dX4_takeKnot_18 rfl ?_
    refine a_getR (j' := 1) (y := t) dX4_takeKnot_19 flX4_26 rfl rfl (L42 L) h42 ?_
    refine a_dupR dX4_takeKnot_22 ?_
    refine b_getI (j' := 1) dX4_takeKnot_23 flX4_196 rfl rfl hT.1.2.1 (fun hr23 => ?_)
    refine a_iconst dX4_takeKnot_26 ?_
    refine a_iadd dX4_takeKnot_27 ?_
    refine a_putI (j' := 1) dX4_takeKnot_28 flX4_196 rfl rfl hT.1.2.1 hT.1.1 rfl ⟨by omega, by omega⟩ ?_
    refine a_aloadn dX4_takeKnot_31 rfl ?_
    refine a_getR (j' := 0) (y := 43) dX4_takeKnot_32 flX4_12 rfl rfl (L42 L) (p42_0 hP) ?_
    refine a_callVv (as := []) (q := 43) dX4_takeKnot_35 mvX4_88 ⟨by decide, by decide⟩ (L43 L) rfl rfl rfl (Nat.le_of_ble_eq_true rfl) ⟨rfl, rfl⟩ ⟨by decide, by decide⟩ (m_X7_step hP ((hv.sm (k := t) (by omega) _ _).lt (by rw [sm_n (by omega)]; exact hs))) ?_
    exact a_return dX4_takeKnot_38 rfl rfl rfl (zdet_V (by unfold tcM; rw [if_pos (by omega)]))
  · refine a_aloadn dX4_takeKnot_12 rfl ?_
    refine a_iconst dX4_takeKnot_13 ?_
    refine a_callVv (as := [_]) (q := 42) dX4_takeKnot_14 mvX4_80 ⟨by decide, by decide⟩ (L42 L) rfl rfl rfl (Nat.le_of_ble_eq_true rfl) ⟨rfl, rfl⟩ ⟨by decide, by decide⟩ (m_X4_fail hP ⟨by omega, by omega⟩) ?_
    exact a_return dX4_takeKnot_17 rfl rfl rfl (zdet_V (by unfold tcM; rw [if_neg (by omega)]))

set_option maxRecDepth 100000 in
set_option maxHeartbeats 4000000 in
theorem m_X4_signHere {G : zG} {l : Launch} {L : Nat} {P : zP} {M : zM}  (hP : PFok P) : AM G l yX4_signHere mdX4_signHere [aR 42] (LAY L) P M (zone (LAY L) P M (fun r => r = sgH M)) := by
  refine AM.go [some (aR 42), none] rfl (Nat.le_of_ble_eq_true rfl) ?_ (by decide) rfl rfl
  refine a_aloadn dX4_signHere_0 rfl ?_
  refine a_getR (j' := 0) (y := 43) dX4_signHere_1 flX4_12 rfl rfl (L42 L) (p42_0 hP) ?_
  refine a_bipush (w := 11) dX4_signHere_4 (by decide) ?_
  refine a_oneV (as := [_]) (q := 43) dX4_signHere_6 mvX4_183 ⟨by decide, by decide⟩ (L43 L) rfl rfl rfl (Nat.le_of_ble_eq_true rfl) ⟨rfl, rfl⟩ ⟨by decide, by decide⟩ (m_X7_isWord ⟨by omega, by omega⟩) (fun x6 hx6 => ?_)
  refine a_if_eq (tgt := 14) dX4_signHere_9 (by decide) ⟨by omega, by omega⟩ (fun hb9 => ?_) (fun hb9 => ?_)
  · refine a_aloadn dX4_signHere_14 rfl ?_
    refine a_getR (j' := 0) (y := 43) dX4_signHere_15 flX4_12 rfl rfl (L42 L) (p42_0 hP) ?_
    refine a_bipush (w := 12) dX4_signHere_18 (by decide) ?_
    refine a_oneV (as := [_]) (q := 43) dX4_signHere_20 mvX4_183 ⟨by decide, by decide⟩ (L43 L) rfl rfl rfl (Nat.le_of_ble_eq_true rfl) ⟨rfl, rfl⟩ ⟨by decide, by decide⟩ (m_X7_isWord ⟨by omega, by omega⟩) (fun x20 hx20 => ?_)
    refine a_if_eq (tgt := 28) dX4_signHere_23 (by decide) ⟨by omega, by omega⟩ (fun hb23 => ?_) (fun hb23 => ?_)
    · refine a_aloadn dX4_signHere_28 rfl ?_
      refine a_getR (j' := 0) (y := 43) dX4_signHere_29 flX4_12 rfl rfl (L42 L) (p42_0 hP) ?_
      refine b_getI (j' := 9) dX4_signHere_32 flX4_50 rfl rfl (L43 L) (fun hr32 => ?_)
      refine a_iconst dX4_signHere_35 ?_
      refine a_icmp_ne (tgt := 59) dX4_signHere_36 (by decide) hr32 ⟨by omega, by omega⟩ (fun hb36 => ?_) (fun hb36 => ?_)
      · refine a_iconst dX4_signHere_59 ?_
        refine c_istoren (ls' := [_, _]) dX4_signHere_60 (by decide) rfl rfl ?_
        refine a_iloadn dX4_signHere_61 rfl ?_
        refine a_if_eq (tgt := 75) dX4_signHere_62 (by decide) ⟨by omega, by omega⟩ (fun hb62 => ?_) (fun hb62 => ?_)
        · refine a_iconst dX4_signHere_75 ?_
          exact a_ireturn dX4_signHere_76 rfl rfl rfl (zone_i (by unfold sgH; first | (exfalso; omega) | (rw [if_pos (by omega)]; done) | (rw [if_neg (by omega), if_pos (by omega)]; done) | (rw [if_neg (by omega), if_neg (by omega), if_pos (by omega)]; done) | (rw [if_neg (by omega), if_neg (by omega), if_neg (by omega)]; done)))
        · refine a_aloadn dX4_signHere_65 rfl ?_
          refine a_getR (j' := 0) (y := 43) dX4_signHere_66 flX4_12 rfl rfl (L42 L) (p42_0 hP) ?_
          refine b_getI (j' := 11) dX4_signHere_69 flX4_60 rfl rfl (L43 L) (fun hr69 => ?_)
          refine a_goto (tgt := 76) dX4_signHere_72 (by decide) ?_
          exact a_ireturn dX4_signHere_76 rfl rfl rfl (zone_i (by unfold sgH; first | (exfalso; omega) | (rw [if_pos (by omega)]; done) | (rw [if_neg (by omega), if_pos (by omega)]; done) | (rw [if_neg (by omega), if_neg (by omega), if_pos (by omega)]; done) | (rw [if_neg (by omega), if_neg (by omega), if_neg (by omega)]; done)))
      · refine a_aloadn dX4_signHere_39 rfl ?_
        refine a_getR (j' := 0) (y := 43) dX4_signHere_40 flX4_12 rfl rfl (L42 L) (p42_0 hP) ?_
        refine b_getI (j' := 11) dX4_signHere_43 flX4_60 rfl rfl (L43 L) (fun hr43 => ?_)
        refine a_iconst dX4_signHere_46 ?_
        refine a_bipush (w := 12) dX4_signHere_47 (by decide) ?_
        refine a_oneSN (as := [_, _, _]) dX4_signHere_49 mvX4_94 ⟨by decide, by decide⟩ rfl rfl (Nat.le_of_ble_eq_true rfl) ⟨rfl, rfl⟩ ⟨by decide, by decide⟩ (m_X10_isWithin hr43 ⟨by omega, by omega⟩ ⟨by omega, by omega⟩) (fun x49 hx49 => ?_)
        refine a_if_eq (tgt := 59) dX4_signHere_52 (by decide) ⟨by omega, by omega⟩ (fun hb52 => ?_) (fun hb52 => ?_)
        · refine a_iconst dX4_signHere_59 ?_
          refine c_istoren (ls' := [_, _]) dX4_signHere_60 (by decide) rfl rfl ?_
          refine a_iloadn dX4_signHere_61 rfl ?_
          refine a_if_eq (tgt := 75) dX4_signHere_62 (by decide) ⟨by omega, by omega⟩ (fun hb62 => ?_) (fun hb62 => ?_)
          · refine a_iconst dX4_signHere_75 ?_
            exact a_ireturn dX4_signHere_76 rfl rfl rfl (zone_i (by unfold sgH; first | (exfalso; omega) | (rw [if_pos (by omega)]; done) | (rw [if_neg (by omega), if_pos (by omega)]; done) | (rw [if_neg (by omega), if_neg (by omega), if_pos (by omega)]; done) | (rw [if_neg (by omega), if_neg (by omega), if_neg (by omega)]; done)))
          · refine a_aloadn dX4_signHere_65 rfl ?_
            refine a_getR (j' := 0) (y := 43) dX4_signHere_66 flX4_12 rfl rfl (L42 L) (p42_0 hP) ?_
            refine b_getI (j' := 11) dX4_signHere_69 flX4_60 rfl rfl (L43 L) (fun hr69 => ?_)
            refine a_goto (tgt := 76) dX4_signHere_72 (by decide) ?_
            exact a_ireturn dX4_signHere_76 rfl rfl rfl (zone_i (by unfold sgH; first | (exfalso; omega) | (rw [if_pos (by omega)]; done) | (rw [if_neg (by omega), if_pos (by omega)]; done) | (rw [if_neg (by omega), if_neg (by omega), if_pos (by omega)]; done) | (rw [if_neg (by omega), if_neg (by omega), if_neg (by omega)]; done)))
        · refine a_iconst dX4_signHere_55 ?_
          refine a_goto (tgt := 60) dX4_signHere_56 (by decide) ?_
          refine c_istoren (ls' := [_, _]) dX4_signHere_60 (by decide) rfl rfl ?_
          refine a_iloadn dX4_signHere_61 rfl ?_
          refine a_if_eq (tgt := 75) dX4_signHere_62 (by decide) ⟨by omega, by omega⟩ (fun hb62 => ?_) (fun hb62 => ?_)
          · refine a_iconst dX4_signHere_75 ?_
            exact a_ireturn dX4_signHere_76 rfl rfl rfl (zone_i (by unfold sgH; first | (exfalso; omega) | (rw [if_pos (by omega)]; done) | (rw [if_neg (by omega), if_pos (by omega)]; done) | (rw [if_neg (by omega), if_neg (by omega), if_pos (by omega)]; done) | (rw [if_neg (by omega), if_neg (by omega), if_neg (by omega)]; done)))
          · refine a_aloadn dX4_signHere_65 rfl ?_
            refine a_getR (j' := 0) (y := 43) dX4_signHere_66 flX4_12 rfl rfl (L42 L) (p42_0 hP) ?_
            refine b_getI (j' := 11) dX4_signHere_69 flX4_60 rfl rfl (L43 L) (fun hr69 => ?_)
            refine a_goto (tgt := 76) dX4_signHere_72 (by decide) ?_
            exact a_ireturn dX4_signHere_76 rfl rfl rfl (zone_i (by unfold sgH; first | (exfalso; omega) | (rw [if_pos (by omega)]; done) | (rw [if_neg (by omega), if_pos (by omega)]; done) | (rw [if_neg (by omega), if_neg (by omega), if_pos (by omega)]; done) | (rw [if_neg (by omega), if_neg (by omega), if_neg (by omega)]; done)))
    · refine a_iconst dX4_signHere_26 ?_
      exact a_ireturn dX4_signHere_27 rfl rfl rfl (zone_i (by unfold sgH; first | (exfalso; omega) | (rw [if_pos (by omega)]; done) | (rw [if_neg (by omega), if_pos (by omega)]; done) | (rw [if_neg (by omega), if_neg (by omega), if_pos (by omega)]; done) | (rw [if_neg (by omega), if_neg (by omega), if_neg (by omega)]; done)))
  · refine a_iconst dX4_signHere_12 ?_
    exact a_ireturn dX4_signHere_13 rfl rfl rfl (zone_i (by unfold sgH; first | (exfalso; omega) | (rw [if_pos (by omega)]; done) | (rw [if_neg (by omega), if_pos (by omega)]; done) | (rw [if_neg (by omega), if_neg (by omega), if_pos (by omega)]; done) | (rw [if_neg (by omega), if_neg (by omega), if_neg (by omega)]; done)))
