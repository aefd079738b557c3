set_option maxRecDepth 100000 in
set_option maxHeartbeats 4000000 in
theorem m_X9_clear {G : zG} {l : Launch} {L : Nat} {P : zP} {M : zM}  (hP : PFok P) : AM G l yX9_clear mdX9_clear [aR 79] (LAY L) P M (zdet none (LAY L) P (sm M 79 2 0)) := by
  refine AM.go [some (aR 79)] rfl (Nat.le_of_ble_eq_true rfl) ?_ (by decide) rfl rfl
  refine a_aloadn dX9_clear_0 rfl ?_
  refine a_iconst dX9_clear_1 ?_
  refine a_putI (j' := 2) dX9_clear_2 flX9_18 rfl rfl (L79 L) (by decide) rfl ⟨by omega, by omega⟩ ?_
  exact a_return dX9_clear_5 rfl rfl rfl (zdet_V rfl)

set_option maxRecDepth 100000 in
set_option maxHeartbeats 4000000 in
theorem m_X9_push {G : zG} {l : Launch} {L : Nat} {P : zP} {M : zM}  (hP : PFok P) (hU : UI M) : AM G l yX9_push mdX9_push [aR 79, aR 61] (LAY L) P M (zrel none (LAY L) P (fun M' => ∃ M1, CyR M (81 + 6 * (M 79 1).toNat) 61 M1 ∧ M' = sm (sm M1 79 1 ((M 79 1 + 1).tmod 20)) 79 2 (if M 79 2 + 1 < 20 then M 79 2 + 1 else 20))) := by
  obtain ⟨u1, u2⟩ := id hU
  have hu := un_at L hP u1
  have hs := st_now L hP
  have q5 : 0 ≤ (M 79 1 + 1).tmod 20 ∧ (M 79 1 + 1).tmod 20 < 20 := by rw [Int.tmod_eq_emod_of_nonneg (by omega)]; omega
  refine AM.go [some (aR 79), some (aR 61)] rfl (Nat.le_of_ble_eq_true rfl) ?_ (by decide) rfl rfl
  refine a_aloadn dX9_push_0 rfl ?_
  refine a_getR (j' := 0) (y := 80) dX9_push_1 flX9_11 rfl rfl (L79 L) (p79_0 hP) ?_
  refine a_aloadn dX9_push_4 rfl ?_
  refine b_getI (j' := 1) dX9_push_5 flX9_22 rfl rfl (L79 L) (fun hr5 => ?_)
  try simp (disch := omega) only [sm_n, sm_k, us_s, us_n, e79] at hr5 ⊢
  refine a_aald4 (N := 20) (y := (81 + 6 * (M 79 1).toNat)) dX9_push_8 (L80 L) (by decide) (by omega) (by omega) hu.1 ?_
  refine a_aloadn dX9_push_9 rfl ?_
  refine a_relVv (as := [_]) (q := (81 + 6 * (M 79 1).toNat)) dX9_push_10 mvX9_25 ⟨by decide, by decide⟩ hu.2.2.1 rfl rfl rfl (Nat.le_of_ble_eq_true rfl) ⟨rfl, rfl⟩ ⟨by decide, by decide⟩ (m_X5_copy hu.2 hs (by omega)) (fun M1 hM1 => ?_)
  have e79 : M1 79 = M 79 := hM1.2.2.2.2 79 (by omega)
  refine a_aloadn dX9_push_13 rfl ?_
  refine a_aloadn dX9_push_14 rfl ?_
  refine b_getI (j' := 1) dX9_push_15 flX9_22 rfl rfl (L79 L) (fun hr15 => ?_)
  try simp (disch := omega) only [sm_n, sm_k, us_s, us_n, e79] at hr15 ⊢
  refine a_iconst dX9_push_18 ?_
  refine a_iadd dX9_push_19 ?_
  refine a_bipush (w := 20) dX9_push_20 (by decide) ?_
  refine a_irem dX9_push_22 ⟨by omega, by omega⟩ ⟨by omega, by omega⟩ (by omega) (by omega) ?_
  refine a_putI (j' := 1) dX9_push_23 flX9_22 rfl rfl (L79 L) (by decide) rfl ⟨by omega, by omega⟩ ?_
  refine a_aloadn dX9_push_26 rfl ?_
  refine a_bipush (w := 20) dX9_push_27 (by decide) ?_
  refine a_aloadn dX9_push_29 rfl ?_
  refine b_getI (j' := 2) dX9_push_30 flX9_18 rfl rfl (L79 L) (fun hr30 => ?_)
  try simp (disch := omega) only [sm_n, sm_k, us_s, us_n, e79] at hr30 ⊢
  refine a_iconst dX9_push_33 ?_
  refine a_iadd dX9_push_34 ?_
  refine a_min dX9_push_35 mmX9_29 (Nat.le_of_ble_eq_true rfl) ⟨by decide, by decide⟩ ⟨by decide, by decide⟩ ⟨by omega, by omega⟩ ⟨by omega, by omega⟩ ?_
  refine a_putI (j' := 2) dX9_push_38 flX9_18 rfl rfl (L79 L) (by decide) rfl (by split <;> exact ⟨by omega, by omega⟩) ?_
  exact a_return dX9_push_41 rfl rfl rfl (zrel_V ⟨M1, hM1, rfl⟩)

set_option maxRecDepth 100000 in
set_option maxHeartbeats 4000000 in
theorem m_X9_pop {G : zG} {l : Launch} {L : Nat} {P : zP} {M : zM}  (hP : PFok P) (hU : UI M) : AM G l yX9_pop mdX9_pop [aR 79, aR 61] (LAY L) P M (zany (LAY L) P (fun r M' => (r = 0 ∧ M 79 2 = 0 ∧ M' = M) ∨ (r = 1 ∧ M 79 2 ≠ 0 ∧ CyR (sm (sm M 79 1 ((M 79 1 + 20 - 1).tmod 20)) 79 2 (M 79 2 - 1)) 61 (81 + 6 * ((M 79 1 + 20 - 1).tmod 20).toNat) M'))) := by
  obtain ⟨u1, u2⟩ := id hU
  have hs := st_now L hP
  have q5 : 0 ≤ ((M 79 1 + 20 - 1).tmod 20) ∧ ((M 79 1 + 20 - 1).tmod 20) < 20 := by rw [Int.tmod_eq_emod_of_nonneg (by omega)]; omega
  have hu := un_at L hP q5
  refine AM.go [some (aR 79), some (aR 61)] rfl (Nat.le_of_ble_eq_true rfl) ?_ (by decide) rfl rfl
  refine a_aloadn dX9_pop_0 rfl ?_
  refine b_getI (j' := 2) dX9_pop_1 flX9_18 rfl rfl (L79 L) (fun hr1 => ?_)
  try simp (disch := omega) only [sm_n, sm_k, us_s, us_n] at hr1 ⊢
  refine a_if_ne (tgt := 9) dX9_pop_4 (by decide) ⟨by omega, by omega⟩ (fun hb4 => ?_) (fun hb4 => ?_)
  · refine a_aloadn dX9_pop_9 rfl ?_
    refine a_aloadn dX9_pop_10 rfl ?_
    refine b_getI (j' := 1) dX9_pop_11 flX9_22 rfl rfl (L79 L) (fun hr11 => ?_)
    try simp (disch := omega) only [sm_n, sm_k, us_s, us_n] at hr11 ⊢
    refine a_bipush (w := 20) dX9_pop_14 (by decide) ?_
    refine a_iadd dX9_pop_16 ?_
    refine a_iconst dX9_pop_17 ?_
    refine a_isub dX9_pop_18 ?_
    refine a_bipush (w := 20) dX9_pop_19 (by decide) ?_
    refine a_irem dX9_pop_21 ⟨by omega, by omega⟩ ⟨by omega, by omega⟩ (by omega) (by omega) ?_
    refine a_putI (j' := 1) dX9_pop_22 flX9_22 rfl rfl (L79 L) (by decide) rfl ⟨by omega, by omega⟩ ?_
    refine a_aloadn dX9_pop_25 rfl ?_
    refine a_dupR dX9_pop_26 ?_
    refine b_getI (j' := 2) dX9_pop_27 flX9_18 rfl rfl (L79 L) (fun hr27 => ?_)
    try simp (disch := omega) only [sm_n, sm_k, us_s, us_n] at hr27 ⊢
    refine a_iconst dX9_pop_30 ?_
    refine a_isub dX9_pop_31 ?_
    refine a_putI (j' := 2) dX9_pop_32 flX9_18 rfl rfl (L79 L) (by decide) rfl ⟨by omega, by omega⟩ ?_
    refine a_aloadn dX9_pop_35 rfl ?_
    refine a_aloadn dX9_pop_36 rfl ?_
    refine a_getR (j' := 0) (y := 80) dX9_pop_37 flX9_11 rfl rfl (L79 L) (p79_0 hP) ?_
    refine a_aloadn dX9_pop_40 rfl ?_
    refine b_getI (j' := 1) dX9_pop_41 flX9_22 rfl rfl (L79 L) (fun hr41 => ?_)
    try simp (disch := omega) only [sm_n, sm_k, us_s, us_n] at hr41 ⊢
    refine a_aald4 (N := 20) (y := (81 + 6 * ((M 79 1 + 20 - 1).tmod 20).toNat)) dX9_pop_44 (L80 L) (by decide) (by omega) (by omega) hu.1 ?_
    refine a_relVv (as := [_]) (q := 61) dX9_pop_45 mvX9_25 ⟨by decide, by decide⟩ (L61 L) rfl rfl rfl (Nat.le_of_ble_eq_true rfl) ⟨rfl, rfl⟩ ⟨by decide, by decide⟩ (m_X5_copy hs hu.2 (by omega)) (fun M1 hM1 => ?_)
    refine a_iconst dX9_pop_48 ?_
    exact a_zreturn dX9_pop_49 rfl rfl rfl (by omega) (zany_i (Or.inr ⟨rfl, by omega, hM1⟩))
  · refine a_iconst dX9_pop_7 ?_
    exact a_zreturn dX9_pop_8 rfl rfl rfl (by omega) (zany_i (Or.inl ⟨rfl, by omega, rfl⟩))

/-- the four bytes of a number -/
def tpM (x : Int) : Nat → Int → zM → zM
  | 0, _, M => M
  | n + 1, s, M => tpM x n (s - 8) (sm (sm M 3 (M 2 1) (b_iand (b_iushr x s) 255)) 2 1 (M 2 1 + 1))
theorem tpM_1 (x : Int) : ∀ (n : Nat) (s : Int) (M : zM), tpM x n s M 2 1 = M 2 1 + n
  | 0, s, M => by simp [tpM]
  | n + 1, s, M => by
    unfold tpM
    rw [tpM_1 x n _ _, sm_s]
    omega

set_option maxRecDepth 100000 in
set_option maxHeartbeats 4000000 in
theorem lpX10_tapeNumber {G : zG} {l : Launch} {L : Nat} {P : zP} {x : Int} (hP : PFok P) : ∀ (n : Nat) (s : Int) (M : zM) (g0 : s + 8 = 8 * n) (g1 : n ≤ 4) (g2 : 0 ≤ M 2 1 ∧ M 2 1 + n ≤ 700), AW G l mdX10_tapeNumber (zdet none (LAY L) P (tpM x n s M)) 3 [some (aR 2), some (aI x), some (aI s)] [] (LAY L) P M 0 0 := by
  intro n
  induction n with
  | zero =>
    intro s M g0 g1 g2
    refine a_iloadn dX10_tapeNumber_3 rfl ?_
    refine a_if_lt (tgt := 39) dX10_tapeNumber_4 (by decide) ⟨by omega, by omega⟩ (fun hb4 => ?_) (fun hb4 => ?_)
    · exact a_return dX10_tapeNumber_39 rfl rfl rfl (zdet_V rfl)
    · exfalso; omega
  | succ n ih =>
    intro s M g0 g1 g2
    refine a_iloadn dX10_tapeNumber_3 rfl ?_
    refine a_if_lt (tgt := 39) dX10_tapeNumber_4 (by decide) ⟨by omega, by omega⟩ (fun hb4 => ?_) (fun hb4 => ?_)
    · exfalso; omega
    · refine a_aloadn dX10_tapeNumber_7 rfl ?_
      refine a_getR (j' := 0) (y := 3) dX10_tapeNumber_8 flX10_9 rfl rfl (L2 L) (p2_0 hP) ?_
      refine a_aloadn dX10_tapeNumber_11 rfl ?_
      refine b_getI (j' := 1) dX10_tapeNumber_12 flX10_84 rfl rfl (L2 L) (fun hr12 => ?_)
      try simp (disch := omega) only [sm_n, sm_k, us_s, us_n] at hr12 ⊢
      refine a_iloadn dX10_tapeNumber_15 rfl ?_
      refine a_iloadn dX10_tapeNumber_16 rfl ?_
      refine a_iushr dX10_tapeNumber_17 ?_
      refine a_sipush (w := 255) dX10_tapeNumber_18 (by decide) ?_
      refine a_iand dX10_tapeNumber_21 ?_
      refine a_iast (N := 700) dX10_tapeNumber_22 (L3 L) (by decide) (by decide) (by omega) (by omega) (ir _) ?_
      refine a_aloadn dX10_tapeNumber_23 rfl ?_
      refine a_dupR dX10_tapeNumber_24 ?_
      refine b_getI (j' := 1) dX10_tapeNumber_25 flX10_84 rfl rfl (L2 L) (fun hr25 => ?_)
      try simp (disch := omega) only [sm_n, sm_k, us_s, us_n] at hr25 ⊢
      refine a_iconst dX10_tapeNumber_28 ?_
      refine a_iadd dX10_tapeNumber_29 ?_
      refine a_putI (j' := 1) dX10_tapeNumber_30 flX10_84 rfl rfl (L2 L) (by decide) rfl ⟨by omega, by omega⟩ ?_
      refine c_iinc (ls' := [_, _, _]) dX10_tapeNumber_33 rfl (by decide) rfl rfl ?_
      refine a_goto (tgt := 3) dX10_tapeNumber_36 (by decide) ?_
      simp only [tpM]
      exact ih _ _ (by omega) (by omega) (by rw [sm_s]; omega)

set_option maxRecDepth 100000 in
set_option maxHeartbeats 4000000 in
theorem m_X10_tapeNumber {G : zG} {l : Launch} {L : Nat} {P : zP} {M : zM} {x : Int} (hP : PFok P) (g2 : 0 ≤ M 2 1 ∧ M 2 1 + 4 ≤ 700) : AM G l yX10_tapeNumber mdX10_tapeNumber [aR 2, aI x] (LAY L) P M (zdet none (LAY L) P (tpM x 4 24 M)) := by
  refine AM.go [some (aR 2), some (aI x), none] rfl (Nat.le_of_ble_eq_true rfl) ?_ (by decide) rfl rfl
  refine a_bipush (w := 24) dX10_tapeNumber_0 (by decide) ?_
  refine c_istoren (ls' := [_, _, _]) dX10_tapeNumber_2 (by decide) rfl rfl ?_
  exact lpX10_tapeNumber hP 4 24 M (by omega) (by omega) (by omega)

/-- twenty bytes of five numbers -/
def fdC (a b c d e : Int) (M : zM) : zM := (tpM e 4 24 (tpM d 4 24 (tpM c 4 24 (tpM b 4 24 (tpM a 4 24 M)))))

set_option maxRecDepth 100000 in
set_option maxHeartbeats 4000000 in
theorem m_X10_feed {G : zG} {l : Launch} {L : Nat} {P : zP} {M : zM} {a b c d e : Int} (hP : PFok P) (g2 : 0 ≤ M 2 1 ∧ M 2 1 ≤ 700) : AM G l yX10_feed mdX10_feed [aR 2, aI a, aI b, aI c, aI d, aI e] (LAY L) P M (zany (LAY L) P (fun r M' => (700 < M 2 1 + 20 ∧ r = -1 ∧ M' = M) ∨ (M 2 1 + 20 ≤ 700 ∧ r = M 2 1 + 20 ∧ M' = fdC a b c d e M))) := by
  refine AM.go [some (aR 2), some (aI a), some (aI b), some (aI c), some (aI d), some (aI e)] rfl (Nat.le_of_ble_eq_true rfl) ?_ (by decide) rfl rfl
  refine a_aloadn dX10_feed_0 rfl ?_
  refine b_getI (j' := 1) dX10_feed_1 flX10_84 rfl rfl (L2 L) (fun hr1 => ?_)
  refine a_bipush (w := 20) dX10_feed_4 (by decide) ?_
  refine a_iadd dX10_feed_6 ?_
  refine a_sipush (w := 700) dX10_feed_7 (by decide) ?_
  refine a_icmp_le (tgt := 15) dX10_feed_10 (by decide) ⟨by omega, by omega⟩ ⟨by omega, by omega⟩ (fun hb10 => ?_) (fun hb10 => ?_)
  · refine a_aloadn dX10_feed_15 rfl ?_
    refine a_iloadn dX10_feed_16 rfl ?_
    refine a_callVv (as := [_]) (q := 2) dX10_feed_17 mvX10_88 ⟨by decide, by decide⟩ (L2 L) rfl rfl rfl (Nat.le_of_ble_eq_true rfl) ⟨rfl, rfl⟩ ⟨by decide, by decide⟩ (m_X10_tapeNumber hP (by omega)) ?_
    refine a_aloadn dX10_feed_20 rfl ?_
    refine a_iloadn dX10_feed_21 rfl ?_
    refine a_callVv (as := [_]) (q := 2) dX10_feed_22 mvX10_88 ⟨by decide, by decide⟩ (L2 L) rfl rfl rfl (Nat.le_of_ble_eq_true rfl) ⟨rfl, rfl⟩ ⟨by decide, by decide⟩ (m_X10_tapeNumber hP (by rw [tpM_1]; omega)) ?_
    refine a_aloadn dX10_feed_25 rfl ?_
    refine a_iloadn dX10_feed_26 rfl ?_
    refine a_callVv (as := [_]) (q := 2) dX10_feed_27 mvX10_88 ⟨by decide, by decide⟩ (L2 L) rfl rfl rfl (Nat.le_of_ble_eq_true rfl) ⟨rfl, rfl⟩ ⟨by decide, by decide⟩ (m_X10_tapeNumber hP (by rw [tpM_1, tpM_1]; omega)) ?_
    refine a_aloadn dX10_feed_30 rfl ?_
    refine a_iload dX10_feed_31 rfl ?_
    refine a_callVv (as := [_]) (q := 2) dX10_feed_33 mvX10_88 ⟨by decide, by decide⟩ (L2 L) rfl rfl rfl (Nat.le_of_ble_eq_true rfl) ⟨rfl, rfl⟩ ⟨by decide, by decide⟩ (m_X10_tapeNumber hP (by rw [tpM_1, tpM_1, tpM_1]; omega)) ?_
    refine a_aloadn dX10_feed_36 rfl ?_
    refine a_iload dX10_feed_37 rfl ?_
    refine a_callVv (as := [_]) (q := 2) dX10_feed_39 mvX10_88 ⟨by decide, by decide⟩ (L2 L) rfl rfl rfl (Nat.le_of_ble_eq_true rfl) ⟨rfl, rfl⟩ ⟨by decide, by decide⟩ (m_X10_tapeNumber hP (by rw [tpM_1, tpM_1, tpM_1, tpM_1]; omega)) ?_
    refine a_aloadn dX10_feed_42 rfl ?_
    refine b_getI (j' := 1) dX10_feed_43 flX10_84 rfl rfl (L2 L) (fun hr43 => ?_)
    exact a_ireturn dX10_feed_46 rfl rfl rfl (zany_i (Or.inr ⟨by omega, by rw [tpM_1, tpM_1, tpM_1, tpM_1, tpM_1]; omega, rfl⟩))
  · refine a_iconst dX10_feed_13 ?_
    exact a_ireturn dX10_feed_14 rfl rfl rfl (zany_i (Or.inl ⟨by omega, rfl, rfl⟩))

set_option maxRecDepth 100000 in
set_option maxHeartbeats 4000000 in
theorem m_X1_add {G : zG} {l : Launch} {L : Nat} {P : zP} {M : zM} {w : Nat} {x : Int} (hw : LwA L P w) (hi : 0 ≤ M w 1 ∧ M w 1 ≤ 64) (rx : inR x) : AM G l yX1_add mdX1_add [aR w, aI x] (LAY L) P M (zrel none (LAY L) P (fun M' => (64 ≤ M w 1 ∧ M' = M) ∨ (M w 1 < 64 ∧ M' = sm (sm M (w + 1) (M w 1) x) w 1 (M w 1 + 1)))) := by
  refine AM.go [some (aR w), some (aI x)] rfl (Nat.le_of_ble_eq_true rfl) ?_ (by decide) rfl rfl
  refine a_aloadn dX1_add_0 rfl ?_
  refine b_getI (j' := 1) dX1_add_1 flX1_15 rfl rfl hw.2.1 (fun hr1 => ?_)
  try simp (disch := omega) only [sm_n, sm_k, us_s, us_n] at hr1 ⊢
  refine a_bipush (w := 64) dX1_add_4 (by decide) ?_
  refine a_icmp_ge (tgt := 29) dX1_add_6 (by decide) ⟨by omega, by omega⟩ ⟨by omega, by omega⟩ (fun hb6 => ?_) (fun hb6 => ?_)
  · exact a_return dX1_add_29 rfl rfl rfl (zrel_V (by first | exact Or.inl ⟨by omega, rfl⟩ | exact Or.inr ⟨by omega, rfl⟩))
  · refine a_aloadn dX1_add_9 rfl ?_
    refine a_getR (j' := 0) (y := (w + 1)) dX1_add_10 flX1_9 rfl rfl hw.2.1 hw.2.2.2 ?_
    refine a_aloadn dX1_add_13 rfl ?_
    refine b_getI (j' := 1) dX1_add_14 flX1_15 rfl rfl hw.2.1 (fun hr14 => ?_)
    try simp (disch := omega) only [sm_n, sm_k, us_s, us_n] at hr14 ⊢
    refine a_iloadn dX1_add_17 rfl ?_
    refine a_iast (N := 64) dX1_add_18 hw.2.2.1 (by have h9 := hw.1; omega) (by decide) (by omega) (by omega) rx ?_
    refine a_aloadn dX1_add_19 rfl ?_
    refine a_dupR dX1_add_20 ?_
    refine b_getI (j' := 1) dX1_add_21 flX1_15 rfl rfl hw.2.1 (fun hr21 => ?_)
    try simp (disch := omega) only [sm_n, sm_k, us_s, us_n] at hr21 ⊢
    refine a_iconst dX1_add_24 ?_
    refine a_iadd dX1_add_25 ?_
    refine a_putI (j' := 1) dX1_add_26 flX1_15 rfl rfl hw.2.1 hw.1 rfl ⟨by omega, by omega⟩ ?_
    exact a_return dX1_add_29 rfl rfl rfl (zrel_V (by first | exact Or.inl ⟨by omega, rfl⟩ | exact Or.inr ⟨by omega, rfl⟩))

set_option maxRecDepth 100000 in
set_option maxHeartbeats 4000000 in
theorem m_X8_addHouse {G : zG} {l : Launch} {L : Nat} {P : zP} {M : zM} {t : Nat} {x y z : Int} (hT : ToA L P t) (hi : 0 ≤ M t 2 ∧ M t 2 < 6) (rx : inR x) (ry : inR y) (rz : inR z) : AM G l yX8_addHouse mdX8_addHouse [aR t, aI x, aI y, aI z] (LAY L) P M (zdet none (LAY L) P (sm (sm (sm (sm M (t + 1) (M t 2) x) (t + 2) (M t 2) y) (t + 3) (M t 2) z) t 2 (M t 2 + 1))) := by
  refine AM.go [some (aR t), some (aI x), some (aI y), some (aI z)] rfl (Nat.le_of_ble_eq_true rfl) ?_ (by decide) rfl rfl
  refine a_aloadn dX8_addHouse_0 rfl ?_
  refine a_getR (j' := 3) (y := (t + 1)) dX8_addHouse_1 flX8_9 rfl rfl hT.1.2.1 hT.1.2.2.1.2 ?_
  refine a_aloadn dX8_addHouse_4 rfl ?_
  refine b_getI (j' := 2) dX8_addHouse_5 flX8_63 rfl rfl hT.1.2.1 (fun hr5 => ?_)
  try simp (disch := omega) only [sm_n, sm_k, us_s, us_n] at hr5 ⊢
  refine a_iloadn dX8_addHouse_8 rfl ?_
  refine a_iast (N := 6) dX8_addHouse_9 hT.1.2.2.1.1 (by have h9 := hT.1.1; omega) (by decide) (by omega) (by omega) rx ?_
  refine a_aloadn dX8_addHouse_10 rfl ?_
  refine a_getR (j' := 4) (y := (t + 2)) dX8_addHouse_11 flX8_15 rfl rfl hT.1.2.1 hT.1.2.2.2.1.2 ?_
  refine a_aloadn dX8_addHouse_14 rfl ?_
  refine b_getI (j' := 2) dX8_addHouse_15 flX8_63 rfl rfl hT.1.2.1 (fun hr15 => ?_)
  try simp (disch := omega) only [sm_n, sm_k, us_s, us_n] at hr15 ⊢
  refine a_iloadn dX8_addHouse_18 rfl ?_
  refine a_iast (N := 6) dX8_addHouse_19 hT.1.2.2.2.1.1 (by have h9 := hT.1.1; omega) (by decide) (by omega) (by omega) ry ?_
  refine a_aloadn dX8_addHouse_20 rfl ?_
  refine a_getR (j' := 5) (y := (t + 3)) dX8_addHouse_21 flX8_18 rfl rfl hT.1.2.1 hT.1.2.2.2.2.1.2 ?_
  refine a_aloadn dX8_addHouse_24 rfl ?_
  refine b_getI (j' := 2) dX8_addHouse_25 flX8_63 rfl rfl hT.1.2.1 (fun hr25 => ?_)
  try simp (disch := omega) only [sm_n, sm_k, us_s, us_n] at hr25 ⊢
  refine a_iloadn dX8_addHouse_28 rfl ?_
  refine a_iast (N := 6) dX8_addHouse_29 hT.1.2.2.2.2.1.1 (by have h9 := hT.1.1; omega) (by decide) (by omega) (by omega) rz ?_
  refine a_aloadn dX8_addHouse_30 rfl ?_
  refine a_dupR dX8_addHouse_31 ?_
  refine b_getI (j' := 2) dX8_addHouse_32 flX8_63 rfl rfl hT.1.2.1 (fun hr32 => ?_)
  try simp (disch := omega) only [sm_n, sm_k, us_s, us_n] at hr32 ⊢
  refine a_iconst dX8_addHouse_35 ?_
  refine a_iadd dX8_addHouse_36 ?_
  refine a_putI (j' := 2) dX8_addHouse_37 flX8_63 rfl rfl hT.1.2.1 hT.1.1 rfl ⟨by omega, by omega⟩ ?_
  exact a_return dX8_addHouse_40 rfl rfl rfl (zdet_V rfl)

set_option maxRecDepth 100000 in
set_option maxHeartbeats 4000000 in
theorem m_X8_addTurn {G : zG} {l : Launch} {L : Nat} {P : zP} {M : zM} {t : Nat} {x y z : Int} (hT : ToA L P t) (hi : 0 ≤ M t 6 ∧ M t 6 < 10) (rx : inR x) (ry : inR y) (rz : inR z) : AM G l yX8_addTurn mdX8_addTurn [aR t, aI x, aI y, aI z] (LAY L) P M (zdet none (LAY L) P (sm (sm (sm (sm M (t + 4) (M t 6) x) (t + 5) (M t 6) y) (t + 6) (M t 6) z) t 6 (M t 6 + 1))) := by
  refine AM.go [some (aR t), some (aI x), some (aI y), some (aI z)] rfl (Nat.le_of_ble_eq_true rfl) ?_ (by decide) rfl rfl
  refine a_aloadn dX8_addTurn_0 rfl ?_
  refine a_getR (j' := 7) (y := (t + 4)) dX8_addTurn_1 flX8_21 rfl rfl hT.1.2.1 hT.1.2.2.2.2.2.1.2 ?_
  refine a_aloadn dX8_addTurn_4 rfl ?_
  refine b_getI (j' := 6) dX8_addTurn_5 flX8_66 rfl rfl hT.1.2.1 (fun hr5 => ?_)
  try simp (disch := omega) only [sm_n, sm_k, us_s, us_n] at hr5 ⊢
  refine a_iloadn dX8_addTurn_8 rfl ?_
  refine a_iast (N := 10) dX8_addTurn_9 hT.1.2.2.2.2.2.1.1 (by have h9 := hT.1.1; omega) (by decide) (by omega) (by omega) rx ?_
  refine a_aloadn dX8_addTurn_10 rfl ?_
  refine a_getR (j' := 8) (y := (t + 5)) dX8_addTurn_11 flX8_24 rfl rfl hT.1.2.1 hT.1.2.2.2.2.2.2.1.2 ?_
  refine a_aloadn dX8_addTurn_14 rfl ?_
  refine b_getI (j' := 6) dX8_addTurn_15 flX8_66 rfl rfl hT.1.2.1 (fun hr15 => ?_)
  try simp (disch := omega) only [sm_n, sm_k, us_s, us_n] at hr15 ⊢
  refine a_iloadn dX8_addTurn_18 rfl ?_
  refine a_iast (N := 10) dX8_addTurn_19 hT.1.2.2.2.2.2.2.1.1 (by have h9 := hT.1.1; omega) (by decide) (by omega) (by omega) ry ?_
  refine a_aloadn dX8_addTurn_20 rfl ?_
  refine a_getR (j' := 9) (y := (t + 6)) dX8_addTurn_21 flX8_27 rfl rfl hT.1.2.1 hT.1.2.2.2.2.2.2.2.1.2 ?_
  refine a_aloadn dX8_addTurn_24 rfl ?_
  refine b_getI (j' := 6) dX8_addTurn_25 flX8_66 rfl rfl hT.1.2.1 (fun hr25 => ?_)
  try simp (disch := omega) only [sm_n, sm_k, us_s, us_n] at hr25 ⊢
  refine a_iloadn dX8_addTurn_28 rfl ?_
  refine a_iast (N := 10) dX8_addTurn_29 hT.1.2.2.2.2.2.2.2.1.1 (by have h9 := hT.1.1; omega) (by decide) (by omega) (by omega) rz ?_
  refine a_aloadn dX8_addTurn_30 rfl ?_
  refine a_dupR dX8_addTurn_31 ?_
  refine b_getI (j' := 6) dX8_addTurn_32 flX8_66 rfl rfl hT.1.2.1 (fun hr32 => ?_)
  try simp (disch := omega) only [sm_n, sm_k, us_s, us_n] at hr32 ⊢
  refine a_iconst dX8_addTurn_35 ?_
  refine a_iadd dX8_addTurn_36 ?_
  refine a_putI (j' := 6) dX8_addTurn_37 flX8_66 rfl rfl hT.1.2.1 hT.1.1 rfl ⟨by omega, by omega⟩ ?_
  exact a_return dX8_addTurn_40 rfl rfl rfl (zdet_V rfl)

set_option maxRecDepth 100000 in
set_option maxHeartbeats 4000000 in
theorem m_X8_addSound {G : zG} {l : Launch} {L : Nat} {P : zP} {M : zM} {t : Nat} {x y z : Int} (hT : ToA L P t) (hi : 0 ≤ M t 10 ∧ M t 10 < 12) (rx : inR x) (ry : inR y) (rz : inR z) : AM G l yX8_addSound mdX8_addSound [aR t, aI x, aI y, aI z] (LAY L) P M (zdet none (LAY L) P (sm (sm (sm (sm M (t + 7) (M t 10) x) (t + 8) (M t 10) y) (t + 9) (M t 10) z) t 10 (M t 10 + 1))) := by
  refine AM.go [some (aR t), some (aI x), some (aI y), some (aI z)] rfl (Nat.le_of_ble_eq_true rfl) ?_ (by decide) rfl rfl
  refine a_aloadn dX8_addSound_0 rfl ?_
  refine a_getR (j' := 11) (y := (t + 7)) dX8_addSound_1 flX8_30 rfl rfl hT.1.2.1 hT.1.2.2.2.2.2.2.2.2.1.2 ?_
  refine a_aloadn dX8_addSound_4 rfl ?_
  refine b_getI (j' := 10) dX8_addSound_5 flX8_69 rfl rfl hT.1.2.1 (fun hr5 => ?_)
  try simp (disch := omega) only [sm_n, sm_k, us_s, us_n] at hr5 ⊢
  refine a_iloadn dX8_addSound_8 rfl ?_
  refine a_iast (N := 12) dX8_addSound_9 hT.1.2.2.2.2.2.2.2.2.1.1 (by have h9 := hT.1.1; omega) (by decide) (by omega) (by omega) rx ?_
  refine a_aloadn dX8_addSound_10 rfl ?_
  refine a_getR (j' := 12) (y := (t + 8)) dX8_addSound_11 flX8_33 rfl rfl hT.1.2.1 hT.1.2.2.2.2.2.2.2.2.2.1.2 ?_
  refine a_aloadn dX8_addSound_14 rfl ?_
  refine b_getI (j' := 10) dX8_addSound_15 flX8_69 rfl rfl hT.1.2.1 (fun hr15 => ?_)
  try simp (disch := omega) only [sm_n, sm_k, us_s, us_n] at hr15 ⊢
  refine a_iloadn dX8_addSound_18 rfl ?_
  refine a_iast (N := 12) dX8_addSound_19 hT.1.2.2.2.2.2.2.2.2.2.1.1 (by have h9 := hT.1.1; omega) (by decide) (by omega) (by omega) ry ?_
  refine a_aloadn dX8_addSound_20 rfl ?_
  refine a_getR (j' := 13) (y := (t + 9)) dX8_addSound_21 flX8_36 rfl rfl hT.1.2.1 hT.1.2.2.2.2.2.2.2.2.2.2.1.2 ?_
  refine a_aloadn dX8_addSound_24 rfl ?_
  refine b_getI (j' := 10) dX8_addSound_25 flX8_69 rfl rfl hT.1.2.1 (fun hr25 => ?_)
  try simp (disch := omega) only [sm_n, sm_k, us_s, us_n] at hr25 ⊢
  refine a_iloadn dX8_addSound_28 rfl ?_
  refine a_iast (N := 12) dX8_addSound_29 hT.1.2.2.2.2.2.2.2.2.2.2.1.1 (by have h9 := hT.1.1; omega) (by decide) (by omega) (by omega) rz ?_
  refine a_aloadn dX8_addSound_30 rfl ?_
  refine a_dupR dX8_addSound_31 ?_
  refine b_getI (j' := 10) dX8_addSound_32 flX8_69 rfl rfl hT.1.2.1 (fun hr32 => ?_)
  try simp (disch := omega) only [sm_n, sm_k, us_s, us_n] at hr32 ⊢
  refine a_iconst dX8_addSound_35 ?_
  refine a_iadd dX8_addSound_36 ?_
  refine a_putI (j' := 10) dX8_addSound_37 flX8_69 rfl rfl hT.1.2.1 hT.1.1 rfl ⟨by omega, by omega⟩ ?_
  exact a_return dX8_addSound_40 rfl rfl rfl (zdet_V rfl)
