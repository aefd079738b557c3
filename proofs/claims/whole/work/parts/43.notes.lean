def naM (M : zM) (w x y z b : Int) : zM := sm (sm (sm (sm (sm (sm M 202 (M 201 6) w) 203 (M 201 6) x) 204 (M 201 6) y) 205 (M 201 6) z) 206 (M 201 6) b) 201 6 (M 201 6 + 1)

set_option maxRecDepth 100000 in
set_option maxHeartbeats 4000000 in
theorem m_X2_add {G : zG} {l : Launch} {L : Nat} {P : zP} {M : zM} {w x y z b : Int} (hP : PFok P) (hn : NI M) (rw9 : inR w) (rx : inR x) (ry : inR y) (rz : inR z) (rb : b = 0 ∨ b = 1) : AM G l yX2_add mdX2_add [aR 201, aI w, aI x, aI y, aI z, aI b] (LAY L) P M (zany (LAY L) P (fun r M' => (24 ≤ M 201 6 ∧ r = -1 ∧ M' = M) ∨ (M 201 6 < 24 ∧ r = M 201 6 ∧ M' = naM M w x y z b))) := by
  have q1 := hn.1
  refine AM.go [some (aR 201), some (aI w), some (aI x), some (aI y), some (aI z), some (aI b)] rfl (Nat.le_of_ble_eq_true rfl) ?_ (by decide) rfl rfl
  refine a_aloadn dX2_add_0 rfl ?_
  refine b_getI (j' := 6) dX2_add_1 flX2_35 rfl rfl (L201 L) (fun hr1 => ?_)
  try simp (disch := omega) only [sm_n, sm_k, us_s, us_n] at hr1 ⊢
  refine a_bipush (w := 24) dX2_add_4 (by decide) ?_
  refine a_icmp_lt (tgt := 11) dX2_add_6 (by decide) ⟨by omega, by omega⟩ ⟨by omega, by omega⟩ (fun hb6 => ?_) (fun hb6 => ?_)
  · refine a_aloadn dX2_add_11 rfl ?_
    refine a_getR (j' := 0) (y := 202) dX2_add_12 flX2_9 rfl rfl (L201 L) (p201_0 hP) ?_
    refine a_aloadn dX2_add_15 rfl ?_
    refine b_getI (j' := 6) dX2_add_16 flX2_35 rfl rfl (L201 L) (fun hr16 => ?_)
    try simp (disch := omega) only [sm_n, sm_k, us_s, us_n] at hr16 ⊢
    refine a_iloadn dX2_add_19 rfl ?_
    refine a_iast (N := 24) dX2_add_20 (L202 L) (by decide) (by decide) (by omega) (by omega) rw9 ?_
    refine a_aloadn dX2_add_21 rfl ?_
    refine a_getR (j' := 1) (y := 203) dX2_add_22 flX2_15 rfl rfl (L201 L) (p201_1 hP) ?_
    refine a_aloadn dX2_add_25 rfl ?_
    refine b_getI (j' := 6) dX2_add_26 flX2_35 rfl rfl (L201 L) (fun hr26 => ?_)
    try simp (disch := omega) only [sm_n, sm_k, us_s, us_n] at hr26 ⊢
    refine a_iloadn dX2_add_29 rfl ?_
    refine a_iast (N := 24) dX2_add_30 (L203 L) (by decide) (by decide) (by omega) (by omega) rx ?_
    refine a_aloadn dX2_add_31 rfl ?_
    refine a_getR (j' := 2) (y := 204) dX2_add_32 flX2_18 rfl rfl (L201 L) (p201_2 hP) ?_
    refine a_aloadn dX2_add_35 rfl ?_
    refine b_getI (j' := 6) dX2_add_36 flX2_35 rfl rfl (L201 L) (fun hr36 => ?_)
    try simp (disch := omega) only [sm_n, sm_k, us_s, us_n] at hr36 ⊢
    refine a_iloadn dX2_add_39 rfl ?_
    refine a_iast (N := 24) dX2_add_40 (L204 L) (by decide) (by decide) (by omega) (by omega) ry ?_
    refine a_aloadn dX2_add_41 rfl ?_
    refine a_getR (j' := 3) (y := 205) dX2_add_42 flX2_21 rfl rfl (L201 L) (p201_3 hP) ?_
    refine a_aloadn dX2_add_45 rfl ?_
    refine b_getI (j' := 6) dX2_add_46 flX2_35 rfl rfl (L201 L) (fun hr46 => ?_)
    try simp (disch := omega) only [sm_n, sm_k, us_s, us_n] at hr46 ⊢
    refine a_iload dX2_add_49 rfl ?_
    refine a_iast (N := 24) dX2_add_51 (L205 L) (by decide) (by decide) (by omega) (by omega) rz ?_
    refine a_aloadn dX2_add_52 rfl ?_
    refine a_getR (j' := 4) (y := 206) dX2_add_53 flX2_24 rfl rfl (L201 L) (p201_4 hP) ?_
    refine a_aloadn dX2_add_56 rfl ?_
    refine b_getI (j' := 6) dX2_add_57 flX2_35 rfl rfl (L201 L) (fun hr57 => ?_)
    try simp (disch := omega) only [sm_n, sm_k, us_s, us_n] at hr57 ⊢
    refine a_iload dX2_add_60 rfl ?_
    refine a_zast (N := 24) dX2_add_62 (L206 L) (by decide) (by decide) (by omega) (by omega) rb ?_
    refine a_aloadn dX2_add_63 rfl ?_
    refine a_dupR dX2_add_64 ?_
    refine b_getI (j' := 6) dX2_add_65 flX2_35 rfl rfl (L201 L) (fun hr65 => ?_)
    try simp (disch := omega) only [sm_n, sm_k, us_s, us_n] at hr65 ⊢
    refine a_iconst dX2_add_68 ?_
    refine a_iadd dX2_add_69 ?_
    refine a_putI (j' := 6) dX2_add_70 flX2_35 rfl rfl (L201 L) (by decide) rfl ⟨by omega, by omega⟩ ?_
    refine a_aloadn dX2_add_73 rfl ?_
    refine b_getI (j' := 6) dX2_add_74 flX2_35 rfl rfl (L201 L) (fun hr74 => ?_)
    try simp (disch := omega) only [sm_n, sm_k, us_s, us_n] at hr74 ⊢
    refine a_iconst dX2_add_77 ?_
    refine a_isub dX2_add_78 ?_
    exact a_ireturn dX2_add_79 rfl rfl rfl (zany_i (Or.inr ⟨by omega, by omega, rfl⟩))
  · refine a_iconst dX2_add_9 ?_
    exact a_ireturn dX2_add_10 rfl rfl rfl (zany_i (Or.inl ⟨by omega, rfl, rfl⟩))

set_option maxRecDepth 100000 in
set_option maxHeartbeats 4000000 in
theorem m_X2_clear {G : zG} {l : Launch} {L : Nat} {P : zP} {M : zM}  (hP : PFok P) : AM G l yX2_clear mdX2_clear [aR 201] (LAY L) P M (zdet none (LAY L) P (sm (sm M 201 6 0) 201 7 (-1))) := by
  refine AM.go [some (aR 201)] rfl (Nat.le_of_ble_eq_true rfl) ?_ (by decide) rfl rfl
  refine a_aloadn dX2_clear_0 rfl ?_
  refine a_iconst dX2_clear_1 ?_
  refine a_putI (j' := 6) dX2_clear_2 flX2_35 rfl rfl (L201 L) (by decide) rfl ⟨by omega, by omega⟩ ?_
  refine a_aloadn dX2_clear_5 rfl ?_
  refine a_iconst dX2_clear_6 ?_
  refine a_putI (j' := 7) dX2_clear_7 flX2_31 rfl rfl (L201 L) (by decide) rfl ⟨by omega, by omega⟩ ?_
  exact a_return dX2_clear_10 rfl rfl rfl (zdet_V rfl)

set_option maxRecDepth 100000 in
set_option maxHeartbeats 4000000 in
theorem m_X2_counted {G : zG} {l : Launch} {L : Nat} {P : zP} {M : zM}  (hP : PFok P) (hn : NI M) : AM G l yX2_counted mdX2_counted [aR 201] (LAY L) P M (zdet (some (aI (cnd M))) (LAY L) P M) := by
  have q1 := hn.1
  have q2 := hn.2.1
  refine AM.go [some (aR 201)] rfl (Nat.le_of_ble_eq_true rfl) ?_ (by decide) rfl rfl
  refine a_aloadn dX2_counted_0 rfl ?_
  refine b_getI (j' := 7) dX2_counted_1 flX2_31 rfl rfl (L201 L) (fun hr1 => ?_)
  refine a_iconst dX2_counted_4 ?_
  refine a_icmp_ne (tgt := 15) dX2_counted_5 (by decide) ⟨by omega, by omega⟩ ⟨by omega, by omega⟩ (fun hb5 => ?_) (fun hb5 => ?_)
  · refine a_aloadn dX2_counted_15 rfl ?_
    refine b_getI (j' := 7) dX2_counted_16 flX2_31 rfl rfl (L201 L) (fun hr16 => ?_)
    exact a_ireturn dX2_counted_19 rfl rfl rfl (zdet_I (by unfold cnd; first | (rw [if_pos (by omega)]; done) | (rw [if_neg (by omega)]; done)) rfl)
  · refine a_aloadn dX2_counted_8 rfl ?_
    refine b_getI (j' := 6) dX2_counted_9 flX2_35 rfl rfl (L201 L) (fun hr9 => ?_)
    refine a_goto (tgt := 19) dX2_counted_12 (by decide) ?_
    exact a_ireturn dX2_counted_19 rfl rfl rfl (zdet_I (by unfold cnd; first | (rw [if_pos (by omega)]; done) | (rw [if_neg (by omega)]; done)) rfl)

set_option maxRecDepth 100000 in
set_option maxHeartbeats 4000000 in
theorem lpX2_settle2 {G : zG} {l : Launch} {L : Nat} {P : zP} {M0 : zM} {nn : Int} (hP : PFok P) (hn : NI M0) : ∀ (n : Nat) (i : Int) (M : zM) (f : Int → Int) (g0 : i + 1 = n) (g1 : i < M0 201 6) (hF : ∀ k : Nat, k ≠ 207 → M k = M0 k) (hj : ∀ j : Int, 0 ≤ j → j < M0 201 6 → M 207 j = f j), AW G l mdX2_settle (zrel none (LAY L) P (fun M' => (∀ k : Nat, k ≠ 207 → M' k = M0 k) ∧ ∀ j : Int, 0 ≤ j → j < M0 201 6 → M' 207 j = stl (M0 202) (M0 203) n f j)) 41 [some (aR 201), some (aI nn), some (aI i)] [] (LAY L) P M 0 0 := by
  intro n
  induction n with
  | zero =>
    intro i M f g0 g1 hF hj
    have q1 := hn.1
    refine a_iloadn dX2_settle_41 rfl ?_
    refine a_if_lt (tgt := 82) dX2_settle_42 (by decide) ⟨by omega, by omega⟩ (fun hb42 => ?_) (fun hb42 => ?_)
    · exact a_return dX2_settle_82 rfl rfl rfl (zrel_V ⟨hF, hj⟩)
    · exfalso; omega
  | succ n ih =>
    intro i M f g0 g1 hF hj
    have q1 := hn.1
    refine a_iloadn dX2_settle_41 rfl ?_
    refine a_if_lt (tgt := 82) dX2_settle_42 (by decide) ⟨by omega, by omega⟩ (fun hb42 => ?_) (fun hb42 => ?_)
    · exfalso; omega
    · have q2 := hn.2.2 i (by omega) g1
      refine a_aloadn dX2_settle_45 rfl ?_
      refine a_getR (j' := 5) (y := 207) dX2_settle_46 flX2_28 rfl rfl (L201 L) (p201_5 hP) ?_
      refine a_iloadn dX2_settle_49 rfl ?_
      refine b_zald (N := 24) dX2_settle_50 (L207 L) (by decide) (by omega) (by have := hn.1; omega) (fun hr50 => ?_)
      rw [hj i (by omega) g1] at hr50
      rw [hj i (by omega) g1]
      refine a_if_eq (tgt := 76) dX2_settle_51 (by decide) (by rcases hr50 with z | z <;> exact ⟨by omega, by omega⟩) (fun hb51 => ?_) (fun hb51 => ?_)
      · refine c_iinc (ls' := [_, _, _]) dX2_settle_76 rfl (by decide) rfl rfl ?_
        refine a_goto (tgt := 41) dX2_settle_79 (by decide) ?_
        have ei : i = (n : Int) := by omega
        subst ei
        simp only [stl]
        first
        | (rw [if_neg (by omega)]; exact ih _ _ _ (by omega) (by omega) hF hj)
        | (rw [if_pos (by omega)]
           refine ih _ _ _ (by omega) (by omega) (fun k hk => by rw [sm_n hk]; exact hF k hk) (fun j j0 j1 => ?_)
           rw [sm_k]
           unfold us
           split
           · rfl
           · exact hj j j0 j1)
      · refine a_aloadn dX2_settle_54 rfl ?_
        refine a_getR (j' := 0) (y := 202) dX2_settle_55 flX2_9 rfl rfl (L201 L) (p201_0 hP) ?_
        refine a_iloadn dX2_settle_58 rfl ?_
        refine b_iald (N := 24) dX2_settle_59 (L202 L) (by decide) (by omega) (by have := hn.1; omega) (fun hr59 => ?_)
        rw [hF 202 (by decide)] at hr59
        rw [hF 202 (by decide)]
        refine a_iconst dX2_settle_60 ?_
        refine a_icmp_ne (tgt := 76) dX2_settle_61 (by decide) ⟨by omega, by omega⟩ ⟨by omega, by omega⟩ (fun hb61 => ?_) (fun hb61 => ?_)
        · refine c_iinc (ls' := [_, _, _]) dX2_settle_76 rfl (by decide) rfl rfl ?_
          refine a_goto (tgt := 41) dX2_settle_79 (by decide) ?_
          have ei : i = (n : Int) := by omega
          subst ei
          simp only [stl]
          first
          | (rw [if_neg (by omega)]; exact ih _ _ _ (by omega) (by omega) hF hj)
          | (rw [if_pos (by omega)]
             refine ih _ _ _ (by omega) (by omega) (fun k hk => by rw [sm_n hk]; exact hF k hk) (fun j j0 j1 => ?_)
             rw [sm_k]
             unfold us
             split
             · rfl
             · exact hj j j0 j1)
        · refine a_aloadn dX2_settle_64 rfl ?_
          refine a_getR (j' := 5) (y := 207) dX2_settle_65 flX2_28 rfl rfl (L201 L) (p201_5 hP) ?_
          refine a_aloadn dX2_settle_68 rfl ?_
          refine a_getR (j' := 1) (y := 203) dX2_settle_69 flX2_15 rfl rfl (L201 L) (p201_1 hP) ?_
          refine a_iloadn dX2_settle_72 rfl ?_
          refine b_iald (N := 24) dX2_settle_73 (L203 L) (by decide) (by omega) (by have := hn.1; omega) (fun hr73 => ?_)
          rw [hF 203 (by decide)] at hr73
          rw [hF 203 (by decide)]
          refine a_iconst dX2_settle_74 ?_
          refine a_zast (N := 24) dX2_settle_75 (L207 L) (by decide) (by decide) (by omega) (by have := hn.1; have := q2.2.2.1 hb61; omega) (by omega) ?_
          refine c_iinc (ls' := [_, _, _]) dX2_settle_76 rfl (by decide) rfl rfl ?_
          refine a_goto (tgt := 41) dX2_settle_79 (by decide) ?_
          have ei : i = (n : Int) := by omega
          subst ei
          simp only [stl]
          first
          | (rw [if_neg (by omega)]; exact ih _ _ _ (by omega) (by omega) hF hj)
          | (rw [if_pos (by omega)]
             refine ih _ _ _ (by omega) (by omega) (fun k hk => by rw [sm_n hk]; exact hF k hk) (fun j j0 j1 => ?_)
             rw [sm_k]
             unfold us
             split
             · rfl
             · exact hj j j0 j1)

set_option maxRecDepth 100000 in
set_option maxHeartbeats 4000000 in
theorem lpX2_settle1 {G : zG} {l : Launch} {L : Nat} {P : zP} {M0 : zM} {nn : Int} {Z : zZ} (hP : PFok P) (hn : NI M0) (hnn : 0 ≤ nn ∧ nn ≤ 24) : ∀ (n : Nat) (i : Int) (M : zM) (g0 : 0 ≤ i) (g1 : i + n = M0 201 6) (hF : ∀ k : Nat, k ≠ 207 → M k = M0 k) (hj : ∀ j : Int, 0 ≤ j → j < i → M 207 j = if j < nn then 1 else 0) (kk : ∀ M' : zM, (∀ k : Nat, k ≠ 207 → M' k = M0 k) → (∀ j : Int, 0 ≤ j → j < M0 201 6 → M' 207 j = if j < nn then 1 else 0) → AW G l mdX2_settle Z 37 [some (aR 201), some (aI nn), none] [] (LAY L) P M' 0 0), AW G l mdX2_settle Z 7 [some (aR 201), some (aI nn), some (aI i)] [] (LAY L) P M 0 0 := by
  intro n
  induction n with
  | zero =>
    intro i M g0 g1 hF hj kk
    have q1 := hn.1
    refine a_iloadn dX2_settle_7 rfl ?_
    refine a_aloadn dX2_settle_8 rfl ?_
    refine b_getI (j' := 6) dX2_settle_9 flX2_35 rfl rfl (L201 L) (fun hr9 => ?_)
    rw [hF 201 (by decide)] at hr9
    rw [hF 201 (by decide)]
    refine a_icmp_ge (tgt := 37) dX2_settle_12 (by decide) ⟨by omega, by omega⟩ ⟨by omega, by omega⟩ (fun hb12 => ?_) (fun hb12 => ?_)
    · refine a_forget [2] (ls' := [_, _, none]) rfl (kk _ hF (fun j j0 j1 => hj j j0 (by omega)))
    · exfalso; omega
  | succ n ih =>
    intro i M g0 g1 hF hj kk
    have q1 := hn.1
    refine a_iloadn dX2_settle_7 rfl ?_
    refine a_aloadn dX2_settle_8 rfl ?_
    refine b_getI (j' := 6) dX2_settle_9 flX2_35 rfl rfl (L201 L) (fun hr9 => ?_)
    rw [hF 201 (by decide)] at hr9
    rw [hF 201 (by decide)]
    refine a_icmp_ge (tgt := 37) dX2_settle_12 (by decide) ⟨by omega, by omega⟩ ⟨by omega, by omega⟩ (fun hb12 => ?_) (fun hb12 => ?_)
    · exfalso; omega
    · refine a_aloadn dX2_settle_15 rfl ?_
      refine a_getR (j' := 5) (y := 207) dX2_settle_16 flX2_28 rfl rfl (L201 L) (p201_5 hP) ?_
      refine a_iloadn dX2_settle_19 rfl ?_
      refine a_iloadn dX2_settle_20 rfl ?_
      refine a_iloadn dX2_settle_21 rfl ?_
      refine a_icmp_ge (tgt := 29) dX2_settle_22 (by decide) ⟨by omega, by omega⟩ ⟨by omega, by omega⟩ (fun hb22 => ?_) (fun hb22 => ?_)
      · refine a_iconst dX2_settle_29 ?_
        refine a_zast (N := 24) dX2_settle_30 (L207 L) (by decide) (by decide) (by omega) (by omega) (by omega) ?_
        refine c_iinc (ls' := [_, _, _]) dX2_settle_31 rfl (by decide) rfl rfl ?_
        refine a_goto (tgt := 7) dX2_settle_34 (by decide) ?_
        refine ih _ _ (by omega) (by omega) (fun k hk => by rw [sm_n hk]; exact hF k hk) (fun j j0 j1 => ?_) kk
        rw [sm_k]
        by_cases ej : j = i
        · subst ej
          rw [us_s]
          first
          | (rw [if_pos (by omega)]; done)
          | (rw [if_neg (by omega)]; done)
        · rw [us_n ej]; exact hj j j0 (by omega)
      · refine a_iconst dX2_settle_25 ?_
        refine a_goto (tgt := 30) dX2_settle_26 (by decide) ?_
        refine a_zast (N := 24) dX2_settle_30 (L207 L) (by decide) (by decide) (by omega) (by omega) (by omega) ?_
        refine c_iinc (ls' := [_, _, _]) dX2_settle_31 rfl (by decide) rfl rfl ?_
        refine a_goto (tgt := 7) dX2_settle_34 (by decide) ?_
        refine ih _ _ (by omega) (by omega) (fun k hk => by rw [sm_n hk]; exact hF k hk) (fun j j0 j1 => ?_) kk
        rw [sm_k]
        by_cases ej : j = i
        · subst ej
          rw [us_s]
          first
          | (rw [if_pos (by omega)]; done)
          | (rw [if_neg (by omega)]; done)
        · rw [us_n ej]; exact hj j j0 (by omega)

set_option maxRecDepth 100000 in
set_option maxHeartbeats 4000000 in
theorem m_X2_settle {G : zG} {l : Launch} {L : Nat} {P : zP} {M : zM}  (hP : PFok P) (hn : NI M) : AM G l yX2_settle mdX2_settle [aR 201] (LAY L) P M (zrel none (LAY L) P (fun M' => (∀ k : Nat, k ≠ 207 → M' k = M k) ∧ ∀ j : Int, 0 ≤ j → j < M 201 6 → M' 207 j = cntF M j)) := by
  have q1 := hn.1
  have q2 := cnd_in hn
  refine AM.go [some (aR 201), none, none] rfl (Nat.le_of_ble_eq_true rfl) ?_ (by decide) rfl rfl
  refine a_aloadn dX2_settle_0 rfl ?_
  refine a_callV (as := []) (q := 201) dX2_settle_1 mvX2_38 ⟨by decide, by decide⟩ (L201 L) rfl rfl rfl (Nat.le_of_ble_eq_true rfl) ⟨rfl, rfl⟩ ⟨by decide, by decide⟩ (m_X2_counted hP hn) ?_
  refine c_istoren (ls' := [_, _, _]) dX2_settle_4 (by decide) rfl rfl ?_
  refine a_iconst dX2_settle_5 ?_
  refine c_istoren (ls' := [_, _, _]) dX2_settle_6 (by decide) rfl rfl ?_
  refine lpX2_settle1 hP hn (nn := cnd M) (by omega) (M 201 6).toNat 0 M (by omega) (by omega) (fun _ _ => rfl) (fun j j0 j1 => by omega) (fun M1 h1 h2 => ?_)
  refine a_iloadn dX2_settle_37 rfl ?_
  refine a_iconst dX2_settle_38 ?_
  refine a_isub dX2_settle_39 ?_
  refine c_istoren (ls' := [_, _, _]) dX2_settle_40 (by decide) rfl rfl ?_
  exact lpX2_settle2 hP hn (cnd M).toNat _ M1 (fun j => if j < cnd M then 1 else 0) (by omega) (by omega) h1 h2

set_option maxRecDepth 100000 in
set_option maxHeartbeats 4000000 in
theorem lpX2_mayBe {G : zG} {l : Launch} {L : Nat} {P : zP} {M : zM} {t : Nat} {h : Int} (hP : PFok P) (hn : NI M) (hT : ToA L P t) (hI : ToI M t) (hh : inR h) : ∀ (n : Nat) (i : Int) (g0 : 0 ≤ i) (g1 : i + n = M 201 6), AW G l mdX2_mayBe (zone (LAY L) P M (fun r => r = zall (nok M t h) n i)) 2 [some (aR 201), some (aR t), some (aI h), some (aI i)] [] (LAY L) P M 0 0 := by
  intro n
  induction n with
  | zero =>
    intro i g0 g1
    have q1 := hn.1
    have q3 := hI.2.2.1
    refine a_iloadn dX2_mayBe_2 rfl ?_
    refine a_aloadn dX2_mayBe_3 rfl ?_
    refine b_getI (j' := 6) dX2_mayBe_4 flX2_35 rfl rfl (L201 L) (fun hr4 => ?_)
    refine a_icmp_ge (tgt := 70) dX2_mayBe_7 (by decide) ⟨by omega, by omega⟩ ⟨by omega, by omega⟩ (fun hb7 => ?_) (fun hb7 => ?_)
    · refine a_iconst dX2_mayBe_70 ?_
      exact a_zreturn dX2_mayBe_71 rfl rfl rfl (by omega) (zone_i rfl)
    · exfalso; omega
  | succ n ih =>
    intro i g0 g1
    have q1 := hn.1
    have q3 := hI.2.2.1
    refine a_iloadn dX2_mayBe_2 rfl ?_
    refine a_aloadn dX2_mayBe_3 rfl ?_
    refine b_getI (j' := 6) dX2_mayBe_4 flX2_35 rfl rfl (L201 L) (fun hr4 => ?_)
    refine a_icmp_ge (tgt := 70) dX2_mayBe_7 (by decide) ⟨by omega, by omega⟩ ⟨by omega, by omega⟩ (fun hb7 => ?_) (fun hb7 => ?_)
    · exfalso; omega
    · have q2 := hn.2.2 i (by omega) (by omega)
      refine a_aloadn dX2_mayBe_10 rfl ?_
      refine a_getR (j' := 5) (y := 207) dX2_mayBe_11 flX2_28 rfl rfl (L201 L) (p201_5 hP) ?_
      refine a_iloadn dX2_mayBe_14 rfl ?_
      refine b_zald (N := 24) dX2_mayBe_15 (L207 L) (by decide) (by omega) (by omega) (fun hr15 => ?_)
      refine a_if_eq (tgt := 64) dX2_mayBe_16 (by decide) (by rcases hr15 with z | z <;> exact ⟨by omega, by omega⟩) (fun hb16 => ?_) (fun hb16 => ?_)
      · refine c_iinc (ls' := [_, _, _, _]) dX2_mayBe_64 rfl (by decide) rfl rfl ?_
        refine a_goto (tgt := 2) dX2_mayBe_67 (by decide) ?_
        simp only [zall]
        have e9 : nok M t h i = 1 := by
          unfold nok
          rw [if_neg (by rintro ⟨z1, z2, z3⟩; first | omega | (rw [if_pos (by omega)] at z3; omega) | (rw [if_neg (by omega)] at z3; omega))]
        rw [if_neg (by rw [e9]; decide)]
        exact ih _ (by omega) (by omega)
      · refine a_aloadn dX2_mayBe_19 rfl ?_
        refine a_getR (j' := 0) (y := 202) dX2_mayBe_20 flX2_9 rfl rfl (L201 L) (p201_0 hP) ?_
        refine a_iloadn dX2_mayBe_23 rfl ?_
        refine b_iald (N := 24) dX2_mayBe_24 (L202 L) (by decide) (by omega) (by omega) (fun hr24 => ?_)
        refine a_if_ne (tgt := 64) dX2_mayBe_25 (by decide) ⟨by omega, by omega⟩ (fun hb25 => ?_) (fun hb25 => ?_)
        · refine c_iinc (ls' := [_, _, _, _]) dX2_mayBe_64 rfl (by decide) rfl rfl ?_
          refine a_goto (tgt := 2) dX2_mayBe_67 (by decide) ?_
          simp only [zall]
          have e9 : nok M t h i = 1 := by
            unfold nok
            rw [if_neg (by rintro ⟨z1, z2, z3⟩; first | omega | (rw [if_pos (by omega)] at z3; omega) | (rw [if_neg (by omega)] at z3; omega))]
          rw [if_neg (by rw [e9]; decide)]
          exact ih _ (by omega) (by omega)
        · refine a_aloadn dX2_mayBe_28 rfl ?_
          refine a_iloadn dX2_mayBe_29 rfl ?_
          refine a_aloadn dX2_mayBe_30 rfl ?_
          refine a_getR (j' := 1) (y := 203) dX2_mayBe_31 flX2_15 rfl rfl (L201 L) (p201_1 hP) ?_
          refine a_iloadn dX2_mayBe_34 rfl ?_
          refine b_iald (N := 24) dX2_mayBe_35 (L203 L) (by decide) (by omega) (by omega) (fun hr35 => ?_)
          refine a_callV (as := [_, _]) (q := t) dX2_mayBe_36 mvX2_42 ⟨by decide, by decide⟩ hT.1.2.1 rfl rfl rfl (Nat.le_of_ble_eq_true rfl) ⟨rfl, rfl⟩ ⟨by decide, by decide⟩ (m_X8_kindAt hT hI hh ⟨by omega, by omega⟩) ?_
          refine a_aloadn dX2_mayBe_39 rfl ?_
          refine a_getR (j' := 2) (y := 204) dX2_mayBe_40 flX2_18 rfl rfl (L201 L) (p201_2 hP) ?_
          refine a_iloadn dX2_mayBe_43 rfl ?_
          refine b_iald (N := 24) dX2_mayBe_44 (L204 L) (by decide) (by omega) (by omega) (fun hr44 => ?_)
          refine a_icmp_ne (tgt := 52) dX2_mayBe_45 (by decide) (zsnd_in () () () _ _ hI _ 0 (by omega) (by omega)) hr44 (fun hb45 => ?_) (fun hb45 => ?_)
          · refine a_iconst dX2_mayBe_52 ?_
            refine a_aloadn dX2_mayBe_53 rfl ?_
            refine a_getR (j' := 4) (y := 206) dX2_mayBe_54 flX2_24 rfl rfl (L201 L) (p201_4 hP) ?_
            refine a_iloadn dX2_mayBe_57 rfl ?_
            refine b_zald (N := 24) dX2_mayBe_58 (L206 L) (by decide) (by omega) (by omega) (fun hr58 => ?_)
            refine a_icmp_eq (tgt := 64) dX2_mayBe_59 (by decide) ⟨by omega, by omega⟩ (by rcases hr58 with z | z <;> exact ⟨by omega, by omega⟩) (fun hb59 => ?_) (fun hb59 => ?_)
            · refine c_iinc (ls' := [_, _, _, _]) dX2_mayBe_64 rfl (by decide) rfl rfl ?_
              refine a_goto (tgt := 2) dX2_mayBe_67 (by decide) ?_
              simp only [zall]
              have e9 : nok M t h i = 1 := by
                unfold nok
                rw [if_neg (by rintro ⟨z1, z2, z3⟩; first | omega | (rw [if_pos (by omega)] at z3; omega) | (rw [if_neg (by omega)] at z3; omega))]
              rw [if_neg (by rw [e9]; decide)]
              exact ih _ (by omega) (by omega)
            · refine a_iconst dX2_mayBe_62 ?_
              exact a_zreturn dX2_mayBe_63 rfl rfl rfl (by omega) (zone_i (by
      simp only [zall]
      have e9 : nok M t h i = 0 := by
        unfold nok
        rw [if_pos ⟨hb16, hb25, by first | (rw [if_pos (by omega)]; omega) | (rw [if_neg (by omega)]; omega)⟩]
      rw [if_pos e9]))
          · refine a_iconst dX2_mayBe_48 ?_
            refine a_goto (tgt := 53) dX2_mayBe_49 (by decide) ?_
            refine a_aloadn dX2_mayBe_53 rfl ?_
            refine a_getR (j' := 4) (y := 206) dX2_mayBe_54 flX2_24 rfl rfl (L201 L) (p201_4 hP) ?_
            refine a_iloadn dX2_mayBe_57 rfl ?_
            refine b_zald (N := 24) dX2_mayBe_58 (L206 L) (by decide) (by omega) (by omega) (fun hr58 => ?_)
            refine a_icmp_eq (tgt := 64) dX2_mayBe_59 (by decide) ⟨by omega, by omega⟩ (by rcases hr58 with z | z <;> exact ⟨by omega, by omega⟩) (fun hb59 => ?_) (fun hb59 => ?_)
            · refine c_iinc (ls' := [_, _, _, _]) dX2_mayBe_64 rfl (by decide) rfl rfl ?_
              refine a_goto (tgt := 2) dX2_mayBe_67 (by decide) ?_
              simp only [zall]
              have e9 : nok M t h i = 1 := by
                unfold nok
                rw [if_neg (by rintro ⟨z1, z2, z3⟩; first | omega | (rw [if_pos (by omega)] at z3; omega) | (rw [if_neg (by omega)] at z3; omega))]
              rw [if_neg (by rw [e9]; decide)]
              exact ih _ (by omega) (by omega)
            · refine a_iconst dX2_mayBe_62 ?_
              exact a_zreturn dX2_mayBe_63 rfl rfl rfl (by omega) (zone_i (by
      simp only [zall]
      have e9 : nok M t h i = 0 := by
        unfold nok
        rw [if_pos ⟨hb16, hb25, by first | (rw [if_pos (by omega)]; omega) | (rw [if_neg (by omega)]; omega)⟩]
      rw [if_pos e9]))

set_option maxRecDepth 100000 in
set_option maxHeartbeats 4000000 in
theorem m_X2_mayBe {G : zG} {l : Launch} {L : Nat} {P : zP} {M : zM} {t : Nat} {h : Int} (hP : PFok P) (hn : NI M) (hT : ToA L P t) (hI : ToI M t) (hh : inR h) : AM G l yX2_mayBe mdX2_mayBe [aR 201, aR t, aI h] (LAY L) P M (zone (LAY L) P M (fun r => r = zall (nok M t h) (M 201 6).toNat 0)) := by
  refine AM.go [some (aR 201), some (aR t), some (aI h), none] rfl (Nat.le_of_ble_eq_true rfl) ?_ (by decide) rfl rfl
  refine a_iconst dX2_mayBe_0 ?_
  refine c_istoren (ls' := [_, _, _, _]) dX2_mayBe_1 (by decide) rfl rfl ?_
  exact lpX2_mayBe hP hn hT hI hh (M 201 6).toNat 0 (by omega) (by have := hn.1; omega)

set_option maxRecDepth 100000 in
set_option maxHeartbeats 4000000 in
theorem lpX2_lastSight {G : zG} {l : Launch} {L : Nat} {P : zP} {M : zM} (hP : PFok P) (hn : NI M) : ∀ (n : Nat) (i acc : Int) (g0 : 0 ≤ i) (g1 : i + n = M 201 6) (ga : 0 ≤ acc ∧ acc ≤ 99), AW G l mdX2_lastSight (zone (LAY L) P M (fun r => r = lsF M n i acc ∧ 0 ≤ r ∧ r ≤ 99)) 4 [some (aR 201), some (aI acc), some (aI i)] [] (LAY L) P M 0 0 := by
  intro n
  induction n with
  | zero =>
    intro i acc g0 g1 ga
    have q1 := hn.1
    refine a_iloadn dX2_lastSight_4 rfl ?_
    refine a_aloadn dX2_lastSight_5 rfl ?_
    refine b_getI (j' := 6) dX2_lastSight_6 flX2_35 rfl rfl (L201 L) (fun hr6 => ?_)
    refine a_icmp_ge (tgt := 48) dX2_lastSight_9 (by decide) ⟨by omega, by omega⟩ ⟨by omega, by omega⟩ (fun hb9 => ?_) (fun hb9 => ?_)
    · refine a_iloadn dX2_lastSight_48 rfl ?_
      exact a_ireturn dX2_lastSight_49 rfl rfl rfl (zone_i ⟨rfl, ga.1, ga.2⟩)
    · exfalso; omega
  | succ n ih =>
    intro i acc g0 g1 ga
    have q1 := hn.1
    refine a_iloadn dX2_lastSight_4 rfl ?_
    refine a_aloadn dX2_lastSight_5 rfl ?_
    refine b_getI (j' := 6) dX2_lastSight_6 flX2_35 rfl rfl (L201 L) (fun hr6 => ?_)
    refine a_icmp_ge (tgt := 48) dX2_lastSight_9 (by decide) ⟨by omega, by omega⟩ ⟨by omega, by omega⟩ (fun hb9 => ?_) (fun hb9 => ?_)
    · exfalso; omega
    · have q2 := hn.2.2 i (by omega) (by omega)
      refine a_aloadn dX2_lastSight_12 rfl ?_
      refine a_getR (j' := 5) (y := 207) dX2_lastSight_13 flX2_28 rfl rfl (L201 L) (p201_5 hP) ?_
      refine a_iloadn dX2_lastSight_16 rfl ?_
      refine b_zald (N := 24) dX2_lastSight_17 (L207 L) (by decide) (by omega) (by omega) (fun hr17 => ?_)
      refine a_if_eq (tgt := 42) dX2_lastSight_18 (by decide) (by rcases hr17 with z | z <;> exact ⟨by omega, by omega⟩) (fun hb18 => ?_) (fun hb18 => ?_)
      · refine c_iinc (ls' := [_, _, _]) dX2_lastSight_42 rfl (by decide) rfl rfl ?_
        refine a_goto (tgt := 4) dX2_lastSight_45 (by decide) ?_
        simp only [lsF]
        first
        | (rw [if_neg (by omega)]; exact ih _ _ (by omega) (by omega) ga)
        | (rw [if_pos (by omega)]; exact ih _ _ (by omega) (by omega) (by split <;> omega))
      · refine a_aloadn dX2_lastSight_21 rfl ?_
        refine a_getR (j' := 0) (y := 202) dX2_lastSight_22 flX2_9 rfl rfl (L201 L) (p201_0 hP) ?_
        refine a_iloadn dX2_lastSight_25 rfl ?_
        refine b_iald (N := 24) dX2_lastSight_26 (L202 L) (by decide) (by omega) (by omega) (fun hr26 => ?_)
        refine a_iconst dX2_lastSight_27 ?_
        refine a_icmp_ne (tgt := 42) dX2_lastSight_28 (by decide) ⟨by omega, by omega⟩ ⟨by omega, by omega⟩ (fun hb28 => ?_) (fun hb28 => ?_)
        · refine c_iinc (ls' := [_, _, _]) dX2_lastSight_42 rfl (by decide) rfl rfl ?_
          refine a_goto (tgt := 4) dX2_lastSight_45 (by decide) ?_
          simp only [lsF]
          first
          | (rw [if_neg (by omega)]; exact ih _ _ (by omega) (by omega) ga)
          | (rw [if_pos (by omega)]; exact ih _ _ (by omega) (by omega) (by split <;> omega))
        · refine a_iloadn dX2_lastSight_31 rfl ?_
          refine a_aloadn dX2_lastSight_32 rfl ?_
          refine a_getR (j' := 1) (y := 203) dX2_lastSight_33 flX2_15 rfl rfl (L201 L) (p201_1 hP) ?_
          refine a_iloadn dX2_lastSight_36 rfl ?_
          refine b_iald (N := 24) dX2_lastSight_37 (L203 L) (by decide) (by omega) (by omega) (fun hr37 => ?_)
          refine a_max dX2_lastSight_38 mmX2_48 (Nat.le_of_ble_eq_true rfl) ⟨by decide, by decide⟩ ⟨by decide, by decide⟩ ⟨by omega, by omega⟩ ⟨by omega, by omega⟩ ?_
          refine c_istoren (ls' := [_, _, _]) dX2_lastSight_41 (by decide) rfl rfl ?_
          refine c_iinc (ls' := [_, _, _]) dX2_lastSight_42 rfl (by decide) rfl rfl ?_
          refine a_goto (tgt := 4) dX2_lastSight_45 (by decide) ?_
          simp only [lsF]
          first
          | (rw [if_neg (by omega)]; exact ih _ _ (by omega) (by omega) ga)
          | (rw [if_pos (by omega)]; exact ih _ _ (by omega) (by omega) (by split <;> omega))

set_option maxRecDepth 100000 in
set_option maxHeartbeats 4000000 in
theorem m_X2_lastSight {G : zG} {l : Launch} {L : Nat} {P : zP} {M : zM}  (hP : PFok P) (hn : NI M) : AM G l yX2_lastSight mdX2_lastSight [aR 201] (LAY L) P M (zone (LAY L) P M (fun r => r = lsF M (M 201 6).toNat 0 0 ∧ 0 ≤ r ∧ r ≤ 99)) := by
  refine AM.go [some (aR 201), none, none] rfl (Nat.le_of_ble_eq_true rfl) ?_ (by decide) rfl rfl
  refine a_iconst dX2_lastSight_0 ?_
  refine c_istoren (ls' := [_, _, _]) dX2_lastSight_1 (by decide) rfl rfl ?_
  refine a_iconst dX2_lastSight_2 ?_
  refine c_istoren (ls' := [_, _, _]) dX2_lastSight_3 (by decide) rfl rfl ?_
  exact lpX2_lastSight hP hn (M 201 6).toNat 0 0 (by omega) (by have := hn.1; omega) (by omega)

set_option maxRecDepth 100000 in
set_option maxHeartbeats 4000000 in
theorem lpX2_isSeen {G : zG} {l : Launch} {L : Nat} {P : zP} {M : zM} {a : Nat} {x : Int} (hP : PFok P) (hn : NI M) (hS : StA L P a) (hx : inR x) : ∀ (n : Nat) (i : Int) (g0 : 0 ≤ i) (g1 : i + n = M 201 6), AW G l mdX2_isSeen (zone (LAY L) P M (fun r => r = zall (sok M a x) n i)) 2 [some (aR 201), some (aR a), some (aI x), some (aI i)] [] (LAY L) P M 0 0 := by
  intro n
  induction n with
  | zero =>
    intro i g0 g1
    have q1 := hn.1
    refine a_iloadn dX2_isSeen_2 rfl ?_
    refine a_aloadn dX2_isSeen_3 rfl ?_
    refine b_getI (j' := 6) dX2_isSeen_4 flX2_35 rfl rfl (L201 L) (fun hr4 => ?_)
    refine a_icmp_ge (tgt := 72) dX2_isSeen_7 (by decide) ⟨by omega, by omega⟩ ⟨by omega, by omega⟩ (fun hb7 => ?_) (fun hb7 => ?_)
    · refine a_iconst dX2_isSeen_72 ?_
      exact a_zreturn dX2_isSeen_73 rfl rfl rfl (by omega) (zone_i rfl)
    · exfalso; omega
  | succ n ih =>
    intro i g0 g1
    have q1 := hn.1
    refine a_iloadn dX2_isSeen_2 rfl ?_
    refine a_aloadn dX2_isSeen_3 rfl ?_
    refine b_getI (j' := 6) dX2_isSeen_4 flX2_35 rfl rfl (L201 L) (fun hr4 => ?_)
    refine a_icmp_ge (tgt := 72) dX2_isSeen_7 (by decide) ⟨by omega, by omega⟩ ⟨by omega, by omega⟩ (fun hb7 => ?_) (fun hb7 => ?_)
    · exfalso; omega
    · have q2 := hn.2.2 i (by omega) (by omega)
      refine a_aloadn dX2_isSeen_10 rfl ?_
      refine a_getR (j' := 5) (y := 207) dX2_isSeen_11 flX2_28 rfl rfl (L201 L) (p201_5 hP) ?_
      refine a_iloadn dX2_isSeen_14 rfl ?_
      refine b_zald (N := 24) dX2_isSeen_15 (L207 L) (by decide) (by omega) (by omega) (fun hr15 => ?_)
      refine a_if_eq (tgt := 66) dX2_isSeen_16 (by decide) (by rcases hr15 with z | z <;> exact ⟨by omega, by omega⟩) (fun hb16 => ?_) (fun hb16 => ?_)
      · refine c_iinc (ls' := [_, _, _, _]) dX2_isSeen_66 rfl (by decide) rfl rfl ?_
        refine a_goto (tgt := 2) dX2_isSeen_69 (by decide) ?_
        simp only [zall]
        have e9 : sok M a x i = 1 := by
          unfold sok
          rw [if_neg (by rintro ⟨z1, z2, z3, z4⟩; omega)]
        rw [if_neg (by rw [e9]; decide)]
        exact ih _ (by omega) (by omega)
      · refine a_aloadn dX2_isSeen_19 rfl ?_
        refine a_getR (j' := 0) (y := 202) dX2_isSeen_20 flX2_9 rfl rfl (L201 L) (p201_0 hP) ?_
        refine a_iloadn dX2_isSeen_23 rfl ?_
        refine b_iald (N := 24) dX2_isSeen_24 (L202 L) (by decide) (by omega) (by omega) (fun hr24 => ?_)
        refine a_iconst dX2_isSeen_25 ?_
        refine a_icmp_ne (tgt := 66) dX2_isSeen_26 (by decide) ⟨by omega, by omega⟩ ⟨by omega, by omega⟩ (fun hb26 => ?_) (fun hb26 => ?_)
        · refine c_iinc (ls' := [_, _, _, _]) dX2_isSeen_66 rfl (by decide) rfl rfl ?_
          refine a_goto (tgt := 2) dX2_isSeen_69 (by decide) ?_
          simp only [zall]
          have e9 : sok M a x i = 1 := by
            unfold sok
            rw [if_neg (by rintro ⟨z1, z2, z3, z4⟩; omega)]
          rw [if_neg (by rw [e9]; decide)]
          exact ih _ (by omega) (by omega)
        · refine a_aloadn dX2_isSeen_29 rfl ?_
          refine a_getR (j' := 1) (y := 203) dX2_isSeen_30 flX2_15 rfl rfl (L201 L) (p201_1 hP) ?_
          refine a_iloadn dX2_isSeen_33 rfl ?_
          refine b_iald (N := 24) dX2_isSeen_34 (L203 L) (by decide) (by omega) (by omega) (fun hr34 => ?_)
          refine a_iloadn dX2_isSeen_35 rfl ?_
          refine a_icmp_ne (tgt := 66) dX2_isSeen_36 (by decide) hr34 hx (fun hb36 => ?_) (fun hb36 => ?_)
          · refine c_iinc (ls' := [_, _, _, _]) dX2_isSeen_66 rfl (by decide) rfl rfl ?_
            refine a_goto (tgt := 2) dX2_isSeen_69 (by decide) ?_
            simp only [zall]
            have e9 : sok M a x i = 1 := by
              unfold sok
              rw [if_neg (by rintro ⟨z1, z2, z3, z4⟩; omega)]
            rw [if_neg (by rw [e9]; decide)]
            exact ih _ (by omega) (by omega)
          · have q3 := q2.2.2.2 hb26
            refine a_aloadn dX2_isSeen_39 rfl ?_
            refine a_aloadn dX2_isSeen_40 rfl ?_
            refine a_getR (j' := 2) (y := 204) dX2_isSeen_41 flX2_18 rfl rfl (L201 L) (p201_2 hP) ?_
            refine a_iloadn dX2_isSeen_44 rfl ?_
            refine b_iald (N := 24) dX2_isSeen_45 (L204 L) (by decide) (by omega) (by omega) (fun hr45 => ?_)
            refine a_aloadn dX2_isSeen_46 rfl ?_
            refine a_getR (j' := 3) (y := 205) dX2_isSeen_47 flX2_21 rfl rfl (L201 L) (p201_3 hP) ?_
            refine a_iloadn dX2_isSeen_50 rfl ?_
            refine b_iald (N := 24) dX2_isSeen_51 (L205 L) (by decide) (by omega) (by omega) (fun hr51 => ?_)
            refine a_callV (as := [_, _]) (q := a) dX2_isSeen_52 mvX2_53 ⟨by decide, by decide⟩ hS.2.1 rfl rfl rfl (Nat.le_of_ble_eq_true rfl) ⟨rfl, rfl⟩ ⟨by decide, by decide⟩ (m_X5_isKnown hS (by omega) (by omega)) ?_
            refine a_aloadn dX2_isSeen_55 rfl ?_
            refine a_getR (j' := 4) (y := 206) dX2_isSeen_56 flX2_24 rfl rfl (L201 L) (p201_4 hP) ?_
            refine a_iloadn dX2_isSeen_59 rfl ?_
            refine b_zald (N := 24) dX2_isSeen_60 (L206 L) (by decide) (by omega) (by omega) (fun hr60 => ?_)
            refine a_icmp_eq (tgt := 66) dX2_isSeen_61 (by decide) (by have q9 := kbit01 (M (a + 3) (M 204 i)) (M 205 i); exact ⟨by omega, by omega⟩) (by rcases hr60 with z | z <;> exact ⟨by omega, by omega⟩) (fun hb61 => ?_) (fun hb61 => ?_)
            · refine c_iinc (ls' := [_, _, _, _]) dX2_isSeen_66 rfl (by decide) rfl rfl ?_
              refine a_goto (tgt := 2) dX2_isSeen_69 (by decide) ?_
              simp only [zall]
              have e9 : sok M a x i = 1 := by
                unfold sok
                rw [if_neg (by rintro ⟨z1, z2, z3, z4⟩; omega)]
              rw [if_neg (by rw [e9]; decide)]
              exact ih _ (by omega) (by omega)
            · refine a_iconst dX2_isSeen_64 ?_
              exact a_zreturn dX2_isSeen_65 rfl rfl rfl (by omega) (zone_i (by
      simp only [zall]
      have e9 : sok M a x i = 0 := by
        unfold sok
        rw [if_pos ⟨hb16, hb26, hb36, hb61⟩]
      rw [if_pos e9]))

set_option maxRecDepth 100000 in
set_option maxHeartbeats 4000000 in
theorem m_X2_isSeen {G : zG} {l : Launch} {L : Nat} {P : zP} {M : zM} {a : Nat} {x : Int} (hP : PFok P) (hn : NI M) (hS : StA L P a) (hx : inR x) : AM G l yX2_isSeen mdX2_isSeen [aR 201, aR a, aI x] (LAY L) P M (zone (LAY L) P M (fun r => r = zall (sok M a x) (M 201 6).toNat 0)) := by
  refine AM.go [some (aR 201), some (aR a), some (aI x), none] rfl (Nat.le_of_ble_eq_true rfl) ?_ (by decide) rfl rfl
  refine a_iconst dX2_isSeen_0 ?_
  refine c_istoren (ls' := [_, _, _, _]) dX2_isSeen_1 (by decide) rfl rfl ?_
  exact lpX2_isSeen hP hn hS hx (M 201 6).toNat 0 (by omega) (by have := hn.1; omega)
