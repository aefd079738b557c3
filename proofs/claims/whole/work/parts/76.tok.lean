/-- a token is added -/
def adT (M : zM) (a b c : Int) : zM := sm (sm (sm (sm M 45 (M 43 4) a) 46 (M 43 4) b) 47 (M 43 4) c) 43 4 (M 43 4 + 1)
/-- the next token -/
def stT (M : zM) : zM := sm (sm (sm (sm M 43 5 (M 43 5 + 1)) 43 9 (M 45 (M 43 5 + 1))) 43 10 (M 46 (M 43 5 + 1))) 43 11 (M 47 (M 43 5 + 1))
theorem zfind_cong {f g : Int → Int} {x : Int} : ∀ (n : Nat) (i : Int), (∀ j, i ≤ j → j < i + n → f j = g j) → zfind f x n i = zfind g x n i
  | 0, i, _ => rfl
  | n + 1, i, h => by
    unfold zfind
    rw [h i (by omega) (by omega), zfind_cong n (i + 1) (fun j h1 h2 => h j (by omega) (by omega))]
theorem zfind_in (f : Int → Int) (x : Int) : ∀ (n : Nat) (i : Int), 0 ≤ i → zfind f x n i = -1 ∨ (i ≤ zfind f x n i ∧ zfind f x n i < i + n ∧ f (zfind f x n i) = x)
  | 0, i, _ => Or.inl rfl
  | n + 1, i, h => by
    unfold zfind
    by_cases c : f i = x
    · rw [if_pos c]; right; exact ⟨by omega, by omega, c⟩
    · rw [if_neg c]
      rcases zfind_in f x n (i + 1) (by omega) with z | z
      · exact Or.inl z
      · right; exact ⟨by omega, by omega, z.2.2⟩

set_option maxRecDepth 100000 in
set_option maxHeartbeats 4000000 in
theorem m_X7_add {G : zG} {l : Launch} {L : Nat} {P : zP} {M : zM} {a b c : Int} (hP : PFok P) (hs : 0 ≤ M 43 4 ∧ M 43 4 < 701) (ra : inR a) (rb : inR b) (rc : inR c) : AM G l yX7_add mdX7_add [aR 43, aI a, aI b, aI c] (LAY L) P M (zdet none (LAY L) P (adT M a b c)) := by
  refine AM.go [some (aR 43), some (aI a), some (aI b), some (aI c)] rfl (Nat.le_of_ble_eq_true rfl) ?_ (by decide) rfl rfl
  refine a_aloadn dX7_add_0 rfl ?_
  refine a_getR (j' := 1) (y := 45) dX7_add_1 flX7_15 rfl rfl (L43 L) (p43_1 hP) ?_
  refine a_aloadn dX7_add_4 rfl ?_
  refine b_getI (j' := 4) dX7_add_5 flX7_48 rfl rfl (L43 L) (fun hr5 => ?_)
  try simp (disch := omega) only [sm_n, sm_k, us_s, us_n] at hr5 ⊢
  refine a_iloadn dX7_add_8 rfl ?_
  refine a_iast (N := 701) dX7_add_9 (L45 L) (by decide) (by decide) (by omega) (by omega) ra ?_
  refine a_aloadn dX7_add_10 rfl ?_
  refine a_getR (j' := 2) (y := 46) dX7_add_11 flX7_18 rfl rfl (L43 L) (p43_2 hP) ?_
  refine a_aloadn dX7_add_14 rfl ?_
  refine b_getI (j' := 4) dX7_add_15 flX7_48 rfl rfl (L43 L) (fun hr15 => ?_)
  try simp (disch := omega) only [sm_n, sm_k, us_s, us_n] at hr15 ⊢
  refine a_iloadn dX7_add_18 rfl ?_
  refine a_iast (N := 701) dX7_add_19 (L46 L) (by decide) (by decide) (by omega) (by omega) rb ?_
  refine a_aloadn dX7_add_20 rfl ?_
  refine a_getR (j' := 3) (y := 47) dX7_add_21 flX7_21 rfl rfl (L43 L) (p43_3 hP) ?_
  refine a_aloadn dX7_add_24 rfl ?_
  refine b_getI (j' := 4) dX7_add_25 flX7_48 rfl rfl (L43 L) (fun hr25 => ?_)
  try simp (disch := omega) only [sm_n, sm_k, us_s, us_n] at hr25 ⊢
  refine a_iloadn dX7_add_28 rfl ?_
  refine a_iast (N := 701) dX7_add_29 (L47 L) (by decide) (by decide) (by omega) (by omega) rc ?_
  refine a_aloadn dX7_add_30 rfl ?_
  refine a_dupR dX7_add_31 ?_
  refine b_getI (j' := 4) dX7_add_32 flX7_48 rfl rfl (L43 L) (fun hr32 => ?_)
  try simp (disch := omega) only [sm_n, sm_k, us_s, us_n] at hr32 ⊢
  refine a_iconst dX7_add_35 ?_
  refine a_iadd dX7_add_36 ?_
  refine a_putI (j' := 4) dX7_add_37 flX7_48 rfl rfl (L43 L) (by decide) rfl ⟨by omega, by omega⟩ ?_
  exact a_return dX7_add_40 rfl rfl rfl (zdet_V rfl)

set_option maxRecDepth 100000 in
set_option maxHeartbeats 4000000 in
theorem m_X7_step {G : zG} {l : Launch} {L : Nat} {P : zP} {M : zM}  (hP : PFok P) (hs : -1 ≤ M 43 5 ∧ M 43 5 < M 43 4 - 1 ∧ M 43 4 ≤ 701) : AM G l yX7_step mdX7_step [aR 43] (LAY L) P M (zdet none (LAY L) P (stT M)) := by
  refine AM.go [some (aR 43)] rfl (Nat.le_of_ble_eq_true rfl) ?_ (by decide) rfl rfl
  refine a_aloadn dX7_step_0 rfl ?_
  refine b_getI (j' := 5) dX7_step_1 flX7_65 rfl rfl (L43 L) (fun hr1 => ?_)
  try simp (disch := omega) only [sm_n, sm_k, us_s, us_n] at hr1 ⊢
  refine a_aloadn dX7_step_4 rfl ?_
  refine b_getI (j' := 4) dX7_step_5 flX7_48 rfl rfl (L43 L) (fun hr5 => ?_)
  try simp (disch := omega) only [sm_n, sm_k, us_s, us_n] at hr5 ⊢
  refine a_iconst dX7_step_8 ?_
  refine a_isub dX7_step_9 ?_
  refine a_icmp_ge (tgt := 23) dX7_step_10 (by decide) ⟨by omega, by omega⟩ ⟨by omega, by omega⟩ (fun hb10 => ?_) (fun hb10 => ?_)
  · exfalso; omega
  · refine a_aloadn dX7_step_13 rfl ?_
    refine a_dupR dX7_step_14 ?_
    refine b_getI (j' := 5) dX7_step_15 flX7_65 rfl rfl (L43 L) (fun hr15 => ?_)
    try simp (disch := omega) only [sm_n, sm_k, us_s, us_n] at hr15 ⊢
    refine a_iconst dX7_step_18 ?_
    refine a_iadd dX7_step_19 ?_
    refine a_putI (j' := 5) dX7_step_20 flX7_65 rfl rfl (L43 L) (by decide) rfl ⟨by omega, by omega⟩ ?_
    refine a_aloadn dX7_step_23 rfl ?_
    refine a_aloadn dX7_step_24 rfl ?_
    refine a_getR (j' := 1) (y := 45) dX7_step_25 flX7_15 rfl rfl (L43 L) (p43_1 hP) ?_
    refine a_aloadn dX7_step_28 rfl ?_
    refine b_getI (j' := 5) dX7_step_29 flX7_65 rfl rfl (L43 L) (fun hr29 => ?_)
    try simp (disch := omega) only [sm_n, sm_k, us_s, us_n] at hr29 ⊢
    refine b_iald (N := 701) dX7_step_32 (L45 L) (by decide) (by omega) (by omega) (fun hr32 => ?_)
    try simp (disch := omega) only [sm_n, sm_k, us_s, us_n] at hr32 ⊢
    refine a_putI (j' := 9) dX7_step_33 flX7_81 rfl rfl (L43 L) (by decide) rfl hr32 ?_
    refine a_aloadn dX7_step_36 rfl ?_
    refine a_aloadn dX7_step_37 rfl ?_
    refine a_getR (j' := 2) (y := 46) dX7_step_38 flX7_18 rfl rfl (L43 L) (p43_2 hP) ?_
    refine a_aloadn dX7_step_41 rfl ?_
    refine b_getI (j' := 5) dX7_step_42 flX7_65 rfl rfl (L43 L) (fun hr42 => ?_)
    try simp (disch := omega) only [sm_n, sm_k, us_s, us_n] at hr42 ⊢
    refine b_iald (N := 701) dX7_step_45 (L46 L) (by decide) (by omega) (by omega) (fun hr45 => ?_)
    try simp (disch := omega) only [sm_n, sm_k, us_s, us_n] at hr45 ⊢
    refine a_putI (j' := 10) dX7_step_46 flX7_87 rfl rfl (L43 L) (by decide) rfl hr45 ?_
    refine a_aloadn dX7_step_49 rfl ?_
    refine a_aloadn dX7_step_50 rfl ?_
    refine a_getR (j' := 3) (y := 47) dX7_step_51 flX7_21 rfl rfl (L43 L) (p43_3 hP) ?_
    refine a_aloadn dX7_step_54 rfl ?_
    refine b_getI (j' := 5) dX7_step_55 flX7_65 rfl rfl (L43 L) (fun hr55 => ?_)
    try simp (disch := omega) only [sm_n, sm_k, us_s, us_n] at hr55 ⊢
    refine b_iald (N := 701) dX7_step_58 (L47 L) (by decide) (by omega) (by omega) (fun hr58 => ?_)
    try simp (disch := omega) only [sm_n, sm_k, us_s, us_n] at hr58 ⊢
    refine a_putI (j' := 11) dX7_step_59 flX7_84 rfl rfl (L43 L) (by decide) rfl hr58 ?_
    exact a_return dX7_step_62 rfl rfl rfl (zdet_V rfl)

set_option maxRecDepth 100000 in
set_option maxHeartbeats 4000000 in
theorem m_X7_isWord {G : zG} {l : Launch} {L : Nat} {P : zP} {M : zM} {x : Int} (rx : inR x) : AM G l yX7_isWord mdX7_isWord [aR 43, aI x] (LAY L) P M (zone (LAY L) P M (fun r => (r = 1 ∧ M 43 9 = 3 ∧ M 43 11 = x) ∨ (r = 0 ∧ ¬ (M 43 9 = 3 ∧ M 43 11 = x)))) := by
  refine AM.go [some (aR 43), some (aI x)] rfl (Nat.le_of_ble_eq_true rfl) ?_ (by decide) rfl rfl
  refine a_aloadn dX7_isWord_0 rfl ?_
  refine b_getI (j' := 9) dX7_isWord_1 flX7_81 rfl rfl (L43 L) (fun hr1 => ?_)
  refine a_iconst dX7_isWord_4 ?_
  refine a_icmp_ne (tgt := 20) dX7_isWord_5 (by decide) hr1 ⟨by omega, by omega⟩ (fun hb5 => ?_) (fun hb5 => ?_)
  · refine a_iconst dX7_isWord_20 ?_
    exact a_zreturn dX7_isWord_21 rfl rfl rfl (by omega) (zone_i (by omega))
  · refine a_aloadn dX7_isWord_8 rfl ?_
    refine b_getI (j' := 11) dX7_isWord_9 flX7_84 rfl rfl (L43 L) (fun hr9 => ?_)
    refine a_iloadn dX7_isWord_12 rfl ?_
    refine a_icmp_ne (tgt := 20) dX7_isWord_13 (by decide) hr9 rx (fun hb13 => ?_) (fun hb13 => ?_)
    · refine a_iconst dX7_isWord_20 ?_
      exact a_zreturn dX7_isWord_21 rfl rfl rfl (by omega) (zone_i (by omega))
    · refine a_iconst dX7_isWord_16 ?_
      refine a_goto (tgt := 21) dX7_isWord_17 (by decide) ?_
      exact a_zreturn dX7_isWord_21 rfl rfl rfl (by omega) (zone_i (by omega))

set_option maxRecDepth 100000 in
set_option maxHeartbeats 4000000 in
theorem m_X7_isSign {G : zG} {l : Launch} {L : Nat} {P : zP} {M : zM} {x : Int} (rx : inR x) : AM G l yX7_isSign mdX7_isSign [aR 43, aI x] (LAY L) P M (zone (LAY L) P M (fun r => (r = 1 ∧ M 43 9 = 5 ∧ M 43 11 = x) ∨ (r = 0 ∧ ¬ (M 43 9 = 5 ∧ M 43 11 = x)))) := by
  refine AM.go [some (aR 43), some (aI x)] rfl (Nat.le_of_ble_eq_true rfl) ?_ (by decide) rfl rfl
  refine a_aloadn dX7_isSign_0 rfl ?_
  refine b_getI (j' := 9) dX7_isSign_1 flX7_81 rfl rfl (L43 L) (fun hr1 => ?_)
  refine a_iconst dX7_isSign_4 ?_
  refine a_icmp_ne (tgt := 20) dX7_isSign_5 (by decide) hr1 ⟨by omega, by omega⟩ (fun hb5 => ?_) (fun hb5 => ?_)
  · refine a_iconst dX7_isSign_20 ?_
    exact a_zreturn dX7_isSign_21 rfl rfl rfl (by omega) (zone_i (by omega))
  · refine a_aloadn dX7_isSign_8 rfl ?_
    refine b_getI (j' := 11) dX7_isSign_9 flX7_84 rfl rfl (L43 L) (fun hr9 => ?_)
    refine a_iloadn dX7_isSign_12 rfl ?_
    refine a_icmp_ne (tgt := 20) dX7_isSign_13 (by decide) hr9 rx (fun hb13 => ?_) (fun hb13 => ?_)
    · refine a_iconst dX7_isSign_20 ?_
      exact a_zreturn dX7_isSign_21 rfl rfl rfl (by omega) (zone_i (by omega))
    · refine a_iconst dX7_isSign_16 ?_
      refine a_goto (tgt := 21) dX7_isSign_17 (by decide) ?_
      exact a_zreturn dX7_isSign_21 rfl rfl rfl (by omega) (zone_i (by omega))

set_option maxRecDepth 100000 in
set_option maxHeartbeats 4000000 in
theorem m_X7_signOf {G : zG} {l : Launch} {L : Nat} {P : zP} {M : zM} {c d : Int} (rc : inR c) (rd : inR d) : AM G l yX7_signOf mdX7_signOf [aI c, aI d] (LAY L) P M (zdet (some (aI (sgC c d))) (LAY L) P M) := by
  refine AM.go [some (aI c), some (aI d)] rfl (Nat.le_of_ble_eq_true rfl) ?_ (by decide) rfl rfl
  refine a_iloadn dX7_signOf_0 rfl ?_
  rcases (show c = 40 ∨ c = 41 ∨ c = 42 ∨ c = 43 ∨ c = 44 ∨ c = 45 ∨ c = 46 ∨ c = 47 ∨ c = 48 ∨ c = 49 ∨ c = 50 ∨ c = 51 ∨ c = 52 ∨ c = 53 ∨ c = 54 ∨ c = 55 ∨ c = 56 ∨ c = 57 ∨ c = 58 ∨ c = 59 ∨ c = 60 ∨ c = 61 ∨ c = 62 ∨ (c < 40 ∨ 62 < c) by omega) with e1 | e1 | e1 | e1 | e1 | e1 | e1 | e1 | e1 | e1 | e1 | e1 | e1 | e1 | e1 | e1 | e1 | e1 | e1 | e1 | e1 | e1 | e1 | e1
  · refine c_tabIn (tgt := 159) (off := 158) e1 dX7_signOf_1 ⟨by decide, by decide⟩ (by decide) (by decide) rfl (by decide) ?_
    refine a_bipush (w := 13) dX7_signOf_159 (by decide) ?_
    exact a_ireturn dX7_signOf_161 rfl rfl rfl (zdet_I (by unfold sgC; repeat (first | rw [if_pos (by omega)] | rw [if_neg (by omega)])) rfl)
  · refine c_tabIn (tgt := 162) (off := 161) e1 dX7_signOf_1 ⟨by decide, by decide⟩ (by decide) (by decide) rfl (by decide) ?_
    refine a_bipush (w := 14) dX7_signOf_162 (by decide) ?_
    exact a_ireturn dX7_signOf_164 rfl rfl rfl (zdet_I (by unfold sgC; repeat (first | rw [if_pos (by omega)] | rw [if_neg (by omega)])) rfl)
  · refine c_tabIn (tgt := 153) (off := 152) e1 dX7_signOf_1 ⟨by decide, by decide⟩ (by decide) (by decide) rfl (by decide) ?_
    refine a_bipush (w := 11) dX7_signOf_153 (by decide) ?_
    exact a_ireturn dX7_signOf_155 rfl rfl rfl (zdet_I (by unfold sgC; repeat (first | rw [if_pos (by omega)] | rw [if_neg (by omega)])) rfl)
  · refine c_tabIn (tgt := 147) (off := 146) e1 dX7_signOf_1 ⟨by decide, by decide⟩ (by decide) (by decide) rfl (by decide) ?_
    refine a_bipush (w := 9) dX7_signOf_147 (by decide) ?_
    exact a_ireturn dX7_signOf_149 rfl rfl rfl (zdet_I (by unfold sgC; repeat (first | rw [if_pos (by omega)] | rw [if_neg (by omega)])) rfl)
  · refine c_tabIn (tgt := 168) (off := 167) e1 dX7_signOf_1 ⟨by decide, by decide⟩ (by decide) (by decide) rfl (by decide) ?_
    refine a_iconst dX7_signOf_168 ?_
    exact a_ireturn dX7_signOf_169 rfl rfl rfl (zdet_I (by unfold sgC; repeat (first | rw [if_pos (by omega)] | rw [if_neg (by omega)])) rfl)
  · refine c_tabIn (tgt := 150) (off := 149) e1 dX7_signOf_1 ⟨by decide, by decide⟩ (by decide) (by decide) rfl (by decide) ?_
    refine a_bipush (w := 10) dX7_signOf_150 (by decide) ?_
    exact a_ireturn dX7_signOf_152 rfl rfl rfl (zdet_I (by unfold sgC; repeat (first | rw [if_pos (by omega)] | rw [if_neg (by omega)])) rfl)
  · refine c_tabIn (tgt := 168) (off := 167) e1 dX7_signOf_1 ⟨by decide, by decide⟩ (by decide) (by decide) rfl (by decide) ?_
    refine a_iconst dX7_signOf_168 ?_
    exact a_ireturn dX7_signOf_169 rfl rfl rfl (zdet_I (by unfold sgC; repeat (first | rw [if_pos (by omega)] | rw [if_neg (by omega)])) rfl)
  · refine c_tabIn (tgt := 156) (off := 155) e1 dX7_signOf_1 ⟨by decide, by decide⟩ (by decide) (by decide) rfl (by decide) ?_
    refine a_bipush (w := 12) dX7_signOf_156 (by decide) ?_
    exact a_ireturn dX7_signOf_158 rfl rfl rfl (zdet_I (by unfold sgC; repeat (first | rw [if_pos (by omega)] | rw [if_neg (by omega)])) rfl)
  · refine c_tabIn (tgt := 168) (off := 167) e1 dX7_signOf_1 ⟨by decide, by decide⟩ (by decide) (by decide) rfl (by decide) ?_
    refine a_iconst dX7_signOf_168 ?_
    exact a_ireturn dX7_signOf_169 rfl rfl rfl (zdet_I (by unfold sgC; repeat (first | rw [if_pos (by omega)] | rw [if_neg (by omega)])) rfl)
  · refine c_tabIn (tgt := 168) (off := 167) e1 dX7_signOf_1 ⟨by decide, by decide⟩ (by decide) (by decide) rfl (by decide) ?_
    refine a_iconst dX7_signOf_168 ?_
    exact a_ireturn dX7_signOf_169 rfl rfl rfl (zdet_I (by unfold sgC; repeat (first | rw [if_pos (by omega)] | rw [if_neg (by omega)])) rfl)
  · refine c_tabIn (tgt := 168) (off := 167) e1 dX7_signOf_1 ⟨by decide, by decide⟩ (by decide) (by decide) rfl (by decide) ?_
    refine a_iconst dX7_signOf_168 ?_
    exact a_ireturn dX7_signOf_169 rfl rfl rfl (zdet_I (by unfold sgC; repeat (first | rw [if_pos (by omega)] | rw [if_neg (by omega)])) rfl)
  · refine c_tabIn (tgt := 168) (off := 167) e1 dX7_signOf_1 ⟨by decide, by decide⟩ (by decide) (by decide) rfl (by decide) ?_
    refine a_iconst dX7_signOf_168 ?_
    exact a_ireturn dX7_signOf_169 rfl rfl rfl (zdet_I (by unfold sgC; repeat (first | rw [if_pos (by omega)] | rw [if_neg (by omega)])) rfl)
  · refine c_tabIn (tgt := 168) (off := 167) e1 dX7_signOf_1 ⟨by decide, by decide⟩ (by decide) (by decide) rfl (by decide) ?_
    refine a_iconst dX7_signOf_168 ?_
    exact a_ireturn dX7_signOf_169 rfl rfl rfl (zdet_I (by unfold sgC; repeat (first | rw [if_pos (by omega)] | rw [if_neg (by omega)])) rfl)
  · refine c_tabIn (tgt := 168) (off := 167) e1 dX7_signOf_1 ⟨by decide, by decide⟩ (by decide) (by decide) rfl (by decide) ?_
    refine a_iconst dX7_signOf_168 ?_
    exact a_ireturn dX7_signOf_169 rfl rfl rfl (zdet_I (by unfold sgC; repeat (first | rw [if_pos (by omega)] | rw [if_neg (by omega)])) rfl)
  · refine c_tabIn (tgt := 168) (off := 167) e1 dX7_signOf_1 ⟨by decide, by decide⟩ (by decide) (by decide) rfl (by decide) ?_
    refine a_iconst dX7_signOf_168 ?_
    exact a_ireturn dX7_signOf_169 rfl rfl rfl (zdet_I (by unfold sgC; repeat (first | rw [if_pos (by omega)] | rw [if_neg (by omega)])) rfl)
  · refine c_tabIn (tgt := 168) (off := 167) e1 dX7_signOf_1 ⟨by decide, by decide⟩ (by decide) (by decide) rfl (by decide) ?_
    refine a_iconst dX7_signOf_168 ?_
    exact a_ireturn dX7_signOf_169 rfl rfl rfl (zdet_I (by unfold sgC; repeat (first | rw [if_pos (by omega)] | rw [if_neg (by omega)])) rfl)
  · refine c_tabIn (tgt := 168) (off := 167) e1 dX7_signOf_1 ⟨by decide, by decide⟩ (by decide) (by decide) rfl (by decide) ?_
    refine a_iconst dX7_signOf_168 ?_
    exact a_ireturn dX7_signOf_169 rfl rfl rfl (zdet_I (by unfold sgC; repeat (first | rw [if_pos (by omega)] | rw [if_neg (by omega)])) rfl)
  · refine c_tabIn (tgt := 168) (off := 167) e1 dX7_signOf_1 ⟨by decide, by decide⟩ (by decide) (by decide) rfl (by decide) ?_
    refine a_iconst dX7_signOf_168 ?_
    exact a_ireturn dX7_signOf_169 rfl rfl rfl (zdet_I (by unfold sgC; repeat (first | rw [if_pos (by omega)] | rw [if_neg (by omega)])) rfl)
  · refine c_tabIn (tgt := 168) (off := 167) e1 dX7_signOf_1 ⟨by decide, by decide⟩ (by decide) (by decide) rfl (by decide) ?_
    refine a_iconst dX7_signOf_168 ?_
    exact a_ireturn dX7_signOf_169 rfl rfl rfl (zdet_I (by unfold sgC; repeat (first | rw [if_pos (by omega)] | rw [if_neg (by omega)])) rfl)
  · refine c_tabIn (tgt := 165) (off := 164) e1 dX7_signOf_1 ⟨by decide, by decide⟩ (by decide) (by decide) rfl (by decide) ?_
    refine a_bipush (w := 15) dX7_signOf_165 (by decide) ?_
    exact a_ireturn dX7_signOf_167 rfl rfl rfl (zdet_I (by unfold sgC; repeat (first | rw [if_pos (by omega)] | rw [if_neg (by omega)])) rfl)
  · refine c_tabIn (tgt := 108) (off := 107) e1 dX7_signOf_1 ⟨by decide, by decide⟩ (by decide) (by decide) rfl (by decide) ?_
    refine a_iloadn dX7_signOf_108 rfl ?_
    refine a_bipush (w := 61) dX7_signOf_109 (by decide) ?_
    refine a_icmp_ne (tgt := 118) dX7_signOf_111 (by decide) ⟨by omega, by omega⟩ ⟨by omega, by omega⟩ (fun hb111 => ?_) (fun hb111 => ?_)
    · refine a_iloadn dX7_signOf_118 rfl ?_
      refine a_bipush (w := 62) dX7_signOf_119 (by decide) ?_
      refine a_icmp_ne (tgt := 129) dX7_signOf_121 (by decide) ⟨by omega, by omega⟩ ⟨by omega, by omega⟩ (fun hb121 => ?_) (fun hb121 => ?_)
      · refine a_iconst dX7_signOf_129 ?_
        exact a_ireturn dX7_signOf_130 rfl rfl rfl (zdet_I (by unfold sgC; repeat (first | rw [if_pos (by omega)] | rw [if_neg (by omega)])) rfl)
      · refine a_bipush (w := 6) dX7_signOf_124 (by decide) ?_
        refine a_goto (tgt := 130) dX7_signOf_126 (by decide) ?_
        exact a_ireturn dX7_signOf_130 rfl rfl rfl (zdet_I (by unfold sgC; repeat (first | rw [if_pos (by omega)] | rw [if_neg (by omega)])) rfl)
    · refine a_iconst dX7_signOf_114 ?_
      refine a_goto (tgt := 130) dX7_signOf_115 (by decide) ?_
      exact a_ireturn dX7_signOf_130 rfl rfl rfl (zdet_I (by unfold sgC; repeat (first | rw [if_pos (by omega)] | rw [if_neg (by omega)])) rfl)
  · refine c_tabIn (tgt := 145) (off := 144) e1 dX7_signOf_1 ⟨by decide, by decide⟩ (by decide) (by decide) rfl (by decide) ?_
    refine a_iconst dX7_signOf_145 ?_
    exact a_ireturn dX7_signOf_146 rfl rfl rfl (zdet_I (by unfold sgC; repeat (first | rw [if_pos (by omega)] | rw [if_neg (by omega)])) rfl)
  · refine c_tabIn (tgt := 131) (off := 130) e1 dX7_signOf_1 ⟨by decide, by decide⟩ (by decide) (by decide) rfl (by decide) ?_
    refine a_iloadn dX7_signOf_131 rfl ?_
    refine a_bipush (w := 61) dX7_signOf_132 (by decide) ?_
    refine a_icmp_ne (tgt := 142) dX7_signOf_134 (by decide) ⟨by omega, by omega⟩ ⟨by omega, by omega⟩ (fun hb134 => ?_) (fun hb134 => ?_)
    · refine a_bipush (w := 8) dX7_signOf_142 (by decide) ?_
      exact a_ireturn dX7_signOf_144 rfl rfl rfl (zdet_I (by unfold sgC; repeat (first | rw [if_pos (by omega)] | rw [if_neg (by omega)])) rfl)
    · refine a_bipush (w := 7) dX7_signOf_137 (by decide) ?_
      refine a_goto (tgt := 144) dX7_signOf_139 (by decide) ?_
      exact a_ireturn dX7_signOf_144 rfl rfl rfl (zdet_I (by unfold sgC; repeat (first | rw [if_pos (by omega)] | rw [if_neg (by omega)])) rfl)
  · refine c_tabOut (tgt := 168) e1 dX7_signOf_1 rc (by decide) ?_
    refine a_iconst dX7_signOf_168 ?_
    exact a_ireturn dX7_signOf_169 rfl rfl rfl (zdet_I (by unfold sgC; repeat (first | rw [if_pos (by omega)] | rw [if_neg (by omega)])) rfl)

set_option maxRecDepth 100000 in
set_option maxHeartbeats 4000000 in
theorem m_X7_cutSign {G : zG} {l : Launch} {L : Nat} {P : zP} {M : zM} {c v : Int} (hP : PFok P) (hsg : P 43 6 = some 3) (hq : 0 ≤ M 43 8 ∧ M 43 8 < M 43 7 ∧ M 43 7 ≤ 700) (hs : 0 ≤ M 43 4 ∧ M 43 4 < 700) (hc : c = M 3 (M 43 8)) (hv : v = sgC (M 3 (M 43 8)) (foll (M 3) (M 43 7) (M 43 8))) (rc : inR c) : AM G l yX7_cutSign mdX7_cutSign [aR 43, aI c] (LAY L) P M (zdet none (LAY L) P (adT (sm M 43 8 (M 43 8 + sgL v)) (if v = -1 then 1 else 5) (M 43 8) v)) := by
  have vr : -1 ≤ v ∧ v ≤ 15 := by rw [hv]; exact sgC_in _ _
  refine AM.go [some (aR 43), some (aI c), none, none, none, none] rfl (Nat.le_of_ble_eq_true rfl) ?_ (by decide) rfl rfl
  refine a_aloadn dX7_cutSign_0 rfl ?_
  refine b_getI (j' := 8) dX7_cutSign_1 flX7_45 rfl rfl (L43 L) (fun hr1 => ?_)
  refine c_istoren (ls' := [_, _, _, _, _, _]) dX7_cutSign_4 (by decide) rfl rfl ?_
  refine a_aloadn dX7_cutSign_5 rfl ?_
  refine b_getI (j' := 8) dX7_cutSign_6 flX7_45 rfl rfl (L43 L) (fun hr6 => ?_)
  refine a_iconst dX7_cutSign_9 ?_
  refine a_iadd dX7_cutSign_10 ?_
  refine a_aloadn dX7_cutSign_11 rfl ?_
  refine b_getI (j' := 7) dX7_cutSign_12 flX7_41 rfl rfl (L43 L) (fun hr12 => ?_)
  refine a_icmp_ge (tgt := 32) dX7_cutSign_15 (by decide) ⟨by omega, by omega⟩ ⟨by omega, by omega⟩ (fun hb15 => ?_) (fun hb15 => ?_)
  · refine a_iconst dX7_cutSign_32 ?_
    refine c_istoren (ls' := [_, _, _, _, _, _]) dX7_cutSign_33 (by decide) rfl rfl ?_
    refine a_iloadn dX7_cutSign_34 rfl ?_
    refine a_iloadn dX7_cutSign_35 rfl ?_
    refine a_callS (as := [_, _]) dX7_cutSign_36 mvX7_76 ⟨by decide, by decide⟩ rfl rfl (Nat.le_of_ble_eq_true rfl) ⟨rfl, rfl⟩ ⟨by decide, by decide⟩ (m_X7_signOf rc (by first | exact hr28 | exact ⟨by omega, by omega⟩)) ?_
    refine a_stk (st' := [aI v]) (by rw [hv, hc]; unfold foll; first | (rw [if_pos (by omega)]; done) | (rw [if_neg (by omega)]; done)) ?_
    refine c_istore (ls' := [_, _, _, _, _, _]) dX7_cutSign_39 (by decide) rfl rfl ?_
    refine a_iload dX7_cutSign_41 rfl ?_
    refine a_iconst dX7_cutSign_43 ?_
    refine a_icmp_eq (tgt := 61) dX7_cutSign_44 (by decide) ⟨by omega, by omega⟩ ⟨by omega, by omega⟩ (fun hb44 => ?_) (fun hb44 => ?_)
    · refine a_iconst dX7_cutSign_61 ?_
      refine a_goto (tgt := 66) dX7_cutSign_62 (by decide) ?_
      refine c_istore (ls' := [_, _, _, _, _, _]) dX7_cutSign_66 (by decide) rfl rfl ?_
      refine a_aloadn dX7_cutSign_68 rfl ?_
      refine a_dupR dX7_cutSign_69 ?_
      refine b_getI (j' := 8) dX7_cutSign_70 flX7_45 rfl rfl (L43 L) (fun hr70 => ?_)
      refine a_iload dX7_cutSign_73 rfl ?_
      refine a_if_eq (tgt := 82) dX7_cutSign_75 (by decide) ⟨by omega, by omega⟩ (fun hb75 => ?_) (fun hb75 => ?_)
      · refine a_iconst dX7_cutSign_82 ?_
        refine a_iadd dX7_cutSign_83 ?_
        refine a_putI (j' := 8) dX7_cutSign_84 flX7_45 rfl rfl (L43 L) (by decide) rfl ⟨by omega, by omega⟩ ?_
        refine a_aloadn dX7_cutSign_87 rfl ?_
        refine a_iload dX7_cutSign_88 rfl ?_
        refine a_iconst dX7_cutSign_90 ?_
        refine a_icmp_ne (tgt := 98) dX7_cutSign_91 (by decide) ⟨by omega, by omega⟩ ⟨by omega, by omega⟩ (fun hb91 => ?_) (fun hb91 => ?_)
        · refine a_iconst dX7_cutSign_98 ?_
          refine a_iloadn dX7_cutSign_99 rfl ?_
          refine a_iload dX7_cutSign_100 rfl ?_
          refine a_callVv (as := [_, _, _]) (q := 43) dX7_cutSign_102 mvX7_61 ⟨by decide, by decide⟩ (L43 L) rfl rfl rfl (Nat.le_of_ble_eq_true rfl) ⟨rfl, rfl⟩ ⟨by decide, by decide⟩ (m_X7_add hP (by rw [sm_k, us_n (by decide)]; omega) ⟨by omega, by omega⟩ ⟨by omega, by omega⟩ ⟨by omega, by omega⟩) ?_
          exact a_return dX7_cutSign_105 rfl rfl rfl (zdet_V (by
      first
      | (rw [show sgL v = 2 from by unfold sgL; rw [if_pos (by omega)], if_neg (by omega)]; done)
      | (rw [show sgL v = 1 from by unfold sgL; rw [if_neg (by omega)], if_neg (by omega)]; done)
      | (rw [show sgL v = 1 from by unfold sgL; rw [if_neg (by omega)], if_pos (by omega)]; done)
      | (exfalso; omega)))
        · refine a_iconst dX7_cutSign_94 ?_
          refine a_goto (tgt := 99) dX7_cutSign_95 (by decide) ?_
          refine a_iloadn dX7_cutSign_99 rfl ?_
          refine a_iload dX7_cutSign_100 rfl ?_
          refine a_callVv (as := [_, _, _]) (q := 43) dX7_cutSign_102 mvX7_61 ⟨by decide, by decide⟩ (L43 L) rfl rfl rfl (Nat.le_of_ble_eq_true rfl) ⟨rfl, rfl⟩ ⟨by decide, by decide⟩ (m_X7_add hP (by rw [sm_k, us_n (by decide)]; omega) ⟨by omega, by omega⟩ ⟨by omega, by omega⟩ ⟨by omega, by omega⟩) ?_
          exact a_return dX7_cutSign_105 rfl rfl rfl (zdet_V (by
      first
      | (rw [show sgL v = 2 from by unfold sgL; rw [if_pos (by omega)], if_neg (by omega)]; done)
      | (rw [show sgL v = 1 from by unfold sgL; rw [if_neg (by omega)], if_neg (by omega)]; done)
      | (rw [show sgL v = 1 from by unfold sgL; rw [if_neg (by omega)], if_pos (by omega)]; done)
      | (exfalso; omega)))
      · refine a_iconst dX7_cutSign_78 ?_
        refine a_goto (tgt := 83) dX7_cutSign_79 (by decide) ?_
        refine a_iadd dX7_cutSign_83 ?_
        refine a_putI (j' := 8) dX7_cutSign_84 flX7_45 rfl rfl (L43 L) (by decide) rfl ⟨by omega, by omega⟩ ?_
        refine a_aloadn dX7_cutSign_87 rfl ?_
        refine a_iload dX7_cutSign_88 rfl ?_
        refine a_iconst dX7_cutSign_90 ?_
        refine a_icmp_ne (tgt := 98) dX7_cutSign_91 (by decide) ⟨by omega, by omega⟩ ⟨by omega, by omega⟩ (fun hb91 => ?_) (fun hb91 => ?_)
        · refine a_iconst dX7_cutSign_98 ?_
          refine a_iloadn dX7_cutSign_99 rfl ?_
          refine a_iload dX7_cutSign_100 rfl ?_
          refine a_callVv (as := [_, _, _]) (q := 43) dX7_cutSign_102 mvX7_61 ⟨by decide, by decide⟩ (L43 L) rfl rfl rfl (Nat.le_of_ble_eq_true rfl) ⟨rfl, rfl⟩ ⟨by decide, by decide⟩ (m_X7_add hP (by rw [sm_k, us_n (by decide)]; omega) ⟨by omega, by omega⟩ ⟨by omega, by omega⟩ ⟨by omega, by omega⟩) ?_
          exact a_return dX7_cutSign_105 rfl rfl rfl (zdet_V (by
      first
      | (rw [show sgL v = 2 from by unfold sgL; rw [if_pos (by omega)], if_neg (by omega)]; done)
      | (rw [show sgL v = 1 from by unfold sgL; rw [if_neg (by omega)], if_neg (by omega)]; done)
      | (rw [show sgL v = 1 from by unfold sgL; rw [if_neg (by omega)], if_pos (by omega)]; done)
      | (exfalso; omega)))
        · refine a_iconst dX7_cutSign_94 ?_
          refine a_goto (tgt := 99) dX7_cutSign_95 (by decide) ?_
          refine a_iloadn dX7_cutSign_99 rfl ?_
          refine a_iload dX7_cutSign_100 rfl ?_
          refine a_callVv (as := [_, _, _]) (q := 43) dX7_cutSign_102 mvX7_61 ⟨by decide, by decide⟩ (L43 L) rfl rfl rfl (Nat.le_of_ble_eq_true rfl) ⟨rfl, rfl⟩ ⟨by decide, by decide⟩ (m_X7_add hP (by rw [sm_k, us_n (by decide)]; omega) ⟨by omega, by omega⟩ ⟨by omega, by omega⟩ ⟨by omega, by omega⟩) ?_
          exact a_return dX7_cutSign_105 rfl rfl rfl (zdet_V (by
      first
      | (rw [show sgL v = 2 from by unfold sgL; rw [if_pos (by omega)], if_neg (by omega)]; done)
      | (rw [show sgL v = 1 from by unfold sgL; rw [if_neg (by omega)], if_neg (by omega)]; done)
      | (rw [show sgL v = 1 from by unfold sgL; rw [if_neg (by omega)], if_pos (by omega)]; done)
      | (exfalso; omega)))
    · refine a_iload dX7_cutSign_47 rfl ?_
      refine a_bipush (w := 6) dX7_cutSign_49 (by decide) ?_
      refine a_icmp_eq (tgt := 61) dX7_cutSign_51 (by decide) ⟨by omega, by omega⟩ ⟨by omega, by omega⟩ (fun hb51 => ?_) (fun hb51 => ?_)
      · refine a_iconst dX7_cutSign_61 ?_
        refine a_goto (tgt := 66) dX7_cutSign_62 (by decide) ?_
        refine c_istore (ls' := [_, _, _, _, _, _]) dX7_cutSign_66 (by decide) rfl rfl ?_
        refine a_aloadn dX7_cutSign_68 rfl ?_
        refine a_dupR dX7_cutSign_69 ?_
        refine b_getI (j' := 8) dX7_cutSign_70 flX7_45 rfl rfl (L43 L) (fun hr70 => ?_)
        refine a_iload dX7_cutSign_73 rfl ?_
        refine a_if_eq (tgt := 82) dX7_cutSign_75 (by decide) ⟨by omega, by omega⟩ (fun hb75 => ?_) (fun hb75 => ?_)
        · refine a_iconst dX7_cutSign_82 ?_
          refine a_iadd dX7_cutSign_83 ?_
          refine a_putI (j' := 8) dX7_cutSign_84 flX7_45 rfl rfl (L43 L) (by decide) rfl ⟨by omega, by omega⟩ ?_
          refine a_aloadn dX7_cutSign_87 rfl ?_
          refine a_iload dX7_cutSign_88 rfl ?_
          refine a_iconst dX7_cutSign_90 ?_
          refine a_icmp_ne (tgt := 98) dX7_cutSign_91 (by decide) ⟨by omega, by omega⟩ ⟨by omega, by omega⟩ (fun hb91 => ?_) (fun hb91 => ?_)
          · refine a_iconst dX7_cutSign_98 ?_
            refine a_iloadn dX7_cutSign_99 rfl ?_
            refine a_iload dX7_cutSign_100 rfl ?_
            refine a_callVv (as := [_, _, _]) (q := 43) dX7_cutSign_102 mvX7_61 ⟨by decide, by decide⟩ (L43 L) rfl rfl rfl (Nat.le_of_ble_eq_true rfl) ⟨rfl, rfl⟩ ⟨by decide, by decide⟩ (m_X7_add hP (by rw [sm_k, us_n (by decide)]; omega) ⟨by omega, by omega⟩ ⟨by omega, by omega⟩ ⟨by omega, by omega⟩) ?_
            exact a_return dX7_cutSign_105 rfl rfl rfl (zdet_V (by
      first
      | (rw [show sgL v = 2 from by unfold sgL; rw [if_pos (by omega)], if_neg (by omega)]; done)
      | (rw [show sgL v = 1 from by unfold sgL; rw [if_neg (by omega)], if_neg (by omega)]; done)
      | (rw [show sgL v = 1 from by unfold sgL; rw [if_neg (by omega)], if_pos (by omega)]; done)
      | (exfalso; omega)))
          · refine a_iconst dX7_cutSign_94 ?_
            refine a_goto (tgt := 99) dX7_cutSign_95 (by decide) ?_
            refine a_iloadn dX7_cutSign_99 rfl ?_
            refine a_iload dX7_cutSign_100 rfl ?_
            refine a_callVv (as := [_, _, _]) (q := 43) dX7_cutSign_102 mvX7_61 ⟨by decide, by decide⟩ (L43 L) rfl rfl rfl (Nat.le_of_ble_eq_true rfl) ⟨rfl, rfl⟩ ⟨by decide, by decide⟩ (m_X7_add hP (by rw [sm_k, us_n (by decide)]; omega) ⟨by omega, by omega⟩ ⟨by omega, by omega⟩ ⟨by omega, by omega⟩) ?_
            exact a_return dX7_cutSign_105 rfl rfl rfl (zdet_V (by
      first
      | (rw [show sgL v = 2 from by unfold sgL; rw [if_pos (by omega)], if_neg (by omega)]; done)
      | (rw [show sgL v = 1 from by unfold sgL; rw [if_neg (by omega)], if_neg (by omega)]; done)
      | (rw [show sgL v = 1 from by unfold sgL; rw [if_neg (by omega)], if_pos (by omega)]; done)
      | (exfalso; omega)))
        · refine a_iconst dX7_cutSign_78 ?_
          refine a_goto (tgt := 83) dX7_cutSign_79 (by decide) ?_
          refine a_iadd dX7_cutSign_83 ?_
          refine a_putI (j' := 8) dX7_cutSign_84 flX7_45 rfl rfl (L43 L) (by decide) rfl ⟨by omega, by omega⟩ ?_
          refine a_aloadn dX7_cutSign_87 rfl ?_
          refine a_iload dX7_cutSign_88 rfl ?_
          refine a_iconst dX7_cutSign_90 ?_
          refine a_icmp_ne (tgt := 98) dX7_cutSign_91 (by decide) ⟨by omega, by omega⟩ ⟨by omega, by omega⟩ (fun hb91 => ?_) (fun hb91 => ?_)
          · refine a_iconst dX7_cutSign_98 ?_
            refine a_iloadn dX7_cutSign_99 rfl ?_
            refine a_iload dX7_cutSign_100 rfl ?_
            refine a_callVv (as := [_, _, _]) (q := 43) dX7_cutSign_102 mvX7_61 ⟨by decide, by decide⟩ (L43 L) rfl rfl rfl (Nat.le_of_ble_eq_true rfl) ⟨rfl, rfl⟩ ⟨by decide, by decide⟩ (m_X7_add hP (by rw [sm_k, us_n (by decide)]; omega) ⟨by omega, by omega⟩ ⟨by omega, by omega⟩ ⟨by omega, by omega⟩) ?_
            exact a_return dX7_cutSign_105 rfl rfl rfl (zdet_V (by
      first
      | (rw [show sgL v = 2 from by unfold sgL; rw [if_pos (by omega)], if_neg (by omega)]; done)
      | (rw [show sgL v = 1 from by unfold sgL; rw [if_neg (by omega)], if_neg (by omega)]; done)
      | (rw [show sgL v = 1 from by unfold sgL; rw [if_neg (by omega)], if_pos (by omega)]; done)
      | (exfalso; omega)))
          · refine a_iconst dX7_cutSign_94 ?_
            refine a_goto (tgt := 99) dX7_cutSign_95 (by decide) ?_
            refine a_iloadn dX7_cutSign_99 rfl ?_
            refine a_iload dX7_cutSign_100 rfl ?_
            refine a_callVv (as := [_, _, _]) (q := 43) dX7_cutSign_102 mvX7_61 ⟨by decide, by decide⟩ (L43 L) rfl rfl rfl (Nat.le_of_ble_eq_true rfl) ⟨rfl, rfl⟩ ⟨by decide, by decide⟩ (m_X7_add hP (by rw [sm_k, us_n (by decide)]; omega) ⟨by omega, by omega⟩ ⟨by omega, by omega⟩ ⟨by omega, by omega⟩) ?_
            exact a_return dX7_cutSign_105 rfl rfl rfl (zdet_V (by
      first
      | (rw [show sgL v = 2 from by unfold sgL; rw [if_pos (by omega)], if_neg (by omega)]; done)
      | (rw [show sgL v = 1 from by unfold sgL; rw [if_neg (by omega)], if_neg (by omega)]; done)
      | (rw [show sgL v = 1 from by unfold sgL; rw [if_neg (by omega)], if_pos (by omega)]; done)
      | (exfalso; omega)))
      · refine a_iload dX7_cutSign_54 rfl ?_
        refine a_bipush (w := 7) dX7_cutSign_56 (by decide) ?_
        refine a_icmp_ne (tgt := 65) dX7_cutSign_58 (by decide) ⟨by omega, by omega⟩ ⟨by omega, by omega⟩ (fun hb58 => ?_) (fun hb58 => ?_)
        · refine a_iconst dX7_cutSign_65 ?_
          refine c_istore (ls' := [_, _, _, _, _, _]) dX7_cutSign_66 (by decide) rfl rfl ?_
          refine a_aloadn dX7_cutSign_68 rfl ?_
          refine a_dupR dX7_cutSign_69 ?_
          refine b_getI (j' := 8) dX7_cutSign_70 flX7_45 rfl rfl (L43 L) (fun hr70 => ?_)
          refine a_iload dX7_cutSign_73 rfl ?_
          refine a_if_eq (tgt := 82) dX7_cutSign_75 (by decide) ⟨by omega, by omega⟩ (fun hb75 => ?_) (fun hb75 => ?_)
          · refine a_iconst dX7_cutSign_82 ?_
            refine a_iadd dX7_cutSign_83 ?_
            refine a_putI (j' := 8) dX7_cutSign_84 flX7_45 rfl rfl (L43 L) (by decide) rfl ⟨by omega, by omega⟩ ?_
            refine a_aloadn dX7_cutSign_87 rfl ?_
            refine a_iload dX7_cutSign_88 rfl ?_
            refine a_iconst dX7_cutSign_90 ?_
            refine a_icmp_ne (tgt := 98) dX7_cutSign_91 (by decide) ⟨by omega, by omega⟩ ⟨by omega, by omega⟩ (fun hb91 => ?_) (fun hb91 => ?_)
            · refine a_iconst dX7_cutSign_98 ?_
              refine a_iloadn dX7_cutSign_99 rfl ?_
              refine a_iload dX7_cutSign_100 rfl ?_
              refine a_callVv (as := [_, _, _]) (q := 43) dX7_cutSign_102 mvX7_61 ⟨by decide, by decide⟩ (L43 L) rfl rfl rfl (Nat.le_of_ble_eq_true rfl) ⟨rfl, rfl⟩ ⟨by decide, by decide⟩ (m_X7_add hP (by rw [sm_k, us_n (by decide)]; omega) ⟨by omega, by omega⟩ ⟨by omega, by omega⟩ ⟨by omega, by omega⟩) ?_
              exact a_return dX7_cutSign_105 rfl rfl rfl (zdet_V (by
      first
      | (rw [show sgL v = 2 from by unfold sgL; rw [if_pos (by omega)], if_neg (by omega)]; done)
      | (rw [show sgL v = 1 from by unfold sgL; rw [if_neg (by omega)], if_neg (by omega)]; done)
      | (rw [show sgL v = 1 from by unfold sgL; rw [if_neg (by omega)], if_pos (by omega)]; done)
      | (exfalso; omega)))
            · refine a_iconst dX7_cutSign_94 ?_
              refine a_goto (tgt := 99) dX7_cutSign_95 (by decide) ?_
              refine a_iloadn dX7_cutSign_99 rfl ?_
              refine a_iload dX7_cutSign_100 rfl ?_
              refine a_callVv (as := [_, _, _]) (q := 43) dX7_cutSign_102 mvX7_61 ⟨by decide, by decide⟩ (L43 L) rfl rfl rfl (Nat.le_of_ble_eq_true rfl) ⟨rfl, rfl⟩ ⟨by decide, by decide⟩ (m_X7_add hP (by rw [sm_k, us_n (by decide)]; omega) ⟨by omega, by omega⟩ ⟨by omega, by omega⟩ ⟨by omega, by omega⟩) ?_
              exact a_return dX7_cutSign_105 rfl rfl rfl (zdet_V (by
      first
      | (rw [show sgL v = 2 from by unfold sgL; rw [if_pos (by omega)], if_neg (by omega)]; done)
      | (rw [show sgL v = 1 from by unfold sgL; rw [if_neg (by omega)], if_neg (by omega)]; done)
      | (rw [show sgL v = 1 from by unfold sgL; rw [if_neg (by omega)], if_pos (by omega)]; done)
      | (exfalso; omega)))
          · refine a_iconst dX7_cutSign_78 ?_
            refine a_goto (tgt := 83) dX7_cutSign_79 (by decide) ?_
            refine a_iadd dX7_cutSign_83 ?_
            refine a_putI (j' := 8) dX7_cutSign_84 flX7_45 rfl rfl (L43 L) (by decide) rfl ⟨by omega, by omega⟩ ?_
            refine a_aloadn dX7_cutSign_87 rfl ?_
            refine a_iload dX7_cutSign_88 rfl ?_
            refine a_iconst dX7_cutSign_90 ?_
            refine a_icmp_ne (tgt := 98) dX7_cutSign_91 (by decide) ⟨by omega, by omega⟩ ⟨by omega, by omega⟩ (fun hb91 => ?_) (fun hb91 => ?_)
            · refine a_iconst dX7_cutSign_98 ?_
              refine a_iloadn dX7_cutSign_99 rfl ?_
              refine a_iload dX7_cutSign_100 rfl ?_
              refine a_callVv (as := [_, _, _]) (q := 43) dX7_cutSign_102 mvX7_61 ⟨by decide, by decide⟩ (L43 L) rfl rfl rfl (Nat.le_of_ble_eq_true rfl) ⟨rfl, rfl⟩ ⟨by decide, by decide⟩ (m_X7_add hP (by rw [sm_k, us_n (by decide)]; omega) ⟨by omega, by omega⟩ ⟨by omega, by omega⟩ ⟨by omega, by omega⟩) ?_
              exact a_return dX7_cutSign_105 rfl rfl rfl (zdet_V (by
      first
      | (rw [show sgL v = 2 from by unfold sgL; rw [if_pos (by omega)], if_neg (by omega)]; done)
      | (rw [show sgL v = 1 from by unfold sgL; rw [if_neg (by omega)], if_neg (by omega)]; done)
      | (rw [show sgL v = 1 from by unfold sgL; rw [if_neg (by omega)], if_pos (by omega)]; done)
      | (exfalso; omega)))
            · refine a_iconst dX7_cutSign_94 ?_
              refine a_goto (tgt := 99) dX7_cutSign_95 (by decide) ?_
              refine a_iloadn dX7_cutSign_99 rfl ?_
              refine a_iload dX7_cutSign_100 rfl ?_
              refine a_callVv (as := [_, _, _]) (q := 43) dX7_cutSign_102 mvX7_61 ⟨by decide, by decide⟩ (L43 L) rfl rfl rfl (Nat.le_of_ble_eq_true rfl) ⟨rfl, rfl⟩ ⟨by decide, by decide⟩ (m_X7_add hP (by rw [sm_k, us_n (by decide)]; omega) ⟨by omega, by omega⟩ ⟨by omega, by omega⟩ ⟨by omega, by omega⟩) ?_
              exact a_return dX7_cutSign_105 rfl rfl rfl (zdet_V (by
      first
      | (rw [show sgL v = 2 from by unfold sgL; rw [if_pos (by omega)], if_neg (by omega)]; done)
      | (rw [show sgL v = 1 from by unfold sgL; rw [if_neg (by omega)], if_neg (by omega)]; done)
      | (rw [show sgL v = 1 from by unfold sgL; rw [if_neg (by omega)], if_pos (by omega)]; done)
      | (exfalso; omega)))
        · refine a_iconst dX7_cutSign_61 ?_
          refine a_goto (tgt := 66) dX7_cutSign_62 (by decide) ?_
          refine c_istore (ls' := [_, _, _, _, _, _]) dX7_cutSign_66 (by decide) rfl rfl ?_
          refine a_aloadn dX7_cutSign_68 rfl ?_
          refine a_dupR dX7_cutSign_69 ?_
          refine b_getI (j' := 8) dX7_cutSign_70 flX7_45 rfl rfl (L43 L) (fun hr70 => ?_)
          refine a_iload dX7_cutSign_73 rfl ?_
          refine a_if_eq (tgt := 82) dX7_cutSign_75 (by decide) ⟨by omega, by omega⟩ (fun hb75 => ?_) (fun hb75 => ?_)
          · refine a_iconst dX7_cutSign_82 ?_
            refine a_iadd dX7_cutSign_83 ?_
            refine a_putI (j' := 8) dX7_cutSign_84 flX7_45 rfl rfl (L43 L) (by decide) rfl ⟨by omega, by omega⟩ ?_
            refine a_aloadn dX7_cutSign_87 rfl ?_
            refine a_iload dX7_cutSign_88 rfl ?_
            refine a_iconst dX7_cutSign_90 ?_
            refine a_icmp_ne (tgt := 98) dX7_cutSign_91 (by decide) ⟨by omega, by omega⟩ ⟨by omega, by omega⟩ (fun hb91 => ?_) (fun hb91 => ?_)
            · refine a_iconst dX7_cutSign_98 ?_
              refine a_iloadn dX7_cutSign_99 rfl ?_
              refine a_iload dX7_cutSign_100 rfl ?_
              refine a_callVv (as := [_, _, _]) (q := 43) dX7_cutSign_102 mvX7_61 ⟨by decide, by decide⟩ (L43 L) rfl rfl rfl (Nat.le_of_ble_eq_true rfl) ⟨rfl, rfl⟩ ⟨by decide, by decide⟩ (m_X7_add hP (by rw [sm_k, us_n (by decide)]; omega) ⟨by omega, by omega⟩ ⟨by omega, by omega⟩ ⟨by omega, by omega⟩) ?_
              exact a_return dX7_cutSign_105 rfl rfl rfl (zdet_V (by
      first
      | (rw [show sgL v = 2 from by unfold sgL; rw [if_pos (by omega)], if_neg (by omega)]; done)
      | (rw [show sgL v = 1 from by unfold sgL; rw [if_neg (by omega)], if_neg (by omega)]; done)
      | (rw [show sgL v = 1 from by unfold sgL; rw [if_neg (by omega)], if_pos (by omega)]; done)
      | (exfalso; omega)))
            · refine a_iconst dX7_cutSign_94 ?_
              refine a_goto (tgt := 99) dX7_cutSign_95 (by decide) ?_
              refine a_iloadn dX7_cutSign_99 rfl ?_
              refine a_iload dX7_cutSign_100 rfl ?_
              refine a_callVv (as := [_, _, _]) (q := 43) dX7_cutSign_102 mvX7_61 ⟨by decide, by decide⟩ (L43 L) rfl rfl rfl (Nat.le_of_ble_eq_true rfl) ⟨rfl, rfl⟩ ⟨by decide, by decide⟩ (m_X7_add hP (by rw [sm_k, us_n (by decide)]; omega) ⟨by omega, by omega⟩ ⟨by omega, by omega⟩ ⟨by omega, by omega⟩) ?_
              exact a_return dX7_cutSign_105 rfl rfl rfl (zdet_V (by
      first
      | (rw [show sgL v = 2 from by unfold sgL; rw [if_pos (by omega)], if_neg (by omega)]; done)
      | (rw [show sgL v = 1 from by unfold sgL; rw [if_neg (by omega)], if_neg (by omega)]; done)
      | (rw [show sgL v = 1 from by unfold sgL; rw [if_neg (by omega)], if_pos (by omega)]; done)
      | (exfalso; omega)))
          · refine a_iconst dX7_cutSign_78 ?_
            refine a_goto (tgt := 83) dX7_cutSign_79 (by decide) ?_
            refine a_iadd dX7_cutSign_83 ?_
            refine a_putI (j' := 8) dX7_cutSign_84 flX7_45 rfl rfl (L43 L) (by decide) rfl ⟨by omega, by omega⟩ ?_
            refine a_aloadn dX7_cutSign_87 rfl ?_
            refine a_iload dX7_cutSign_88 rfl ?_
            refine a_iconst dX7_cutSign_90 ?_
            refine a_icmp_ne (tgt := 98) dX7_cutSign_91 (by decide) ⟨by omega, by omega⟩ ⟨by omega, by omega⟩ (fun hb91 => ?_) (fun hb91 => ?_)
            · refine a_iconst dX7_cutSign_98 ?_
              refine a_iloadn dX7_cutSign_99 rfl ?_
              refine a_iload dX7_cutSign_100 rfl ?_
              refine a_callVv (as := [_, _, _]) (q := 43) dX7_cutSign_102 mvX7_61 ⟨by decide, by decide⟩ (L43 L) rfl rfl rfl (Nat.le_of_ble_eq_true rfl) ⟨rfl, rfl⟩ ⟨by decide, by decide⟩ (m_X7_add hP (by rw [sm_k, us_n (by decide)]; omega) ⟨by omega, by omega⟩ ⟨by omega, by omega⟩ ⟨by omega, by omega⟩) ?_
              exact a_return dX7_cutSign_105 rfl rfl rfl (zdet_V (by
      first
      | (rw [show sgL v = 2 from by unfold sgL; rw [if_pos (by omega)], if_neg (by omega)]; done)
      | (rw [show sgL v = 1 from by unfold sgL; rw [if_neg (by omega)], if_neg (by omega)]; done)
      | (rw [show sgL v = 1 from by unfold sgL; rw [if_neg (by omega)], if_pos (by omega)]; done)
      | (exfalso; omega)))
            · refine a_iconst dX7_cutSign_94 ?_
              refine a_goto (tgt := 99) dX7_cutSign_95 (by decide) ?_
              refine a_iloadn dX7_cutSign_99 rfl ?_
              refine a_iload dX7_cutSign_100 rfl ?_
              refine a_callVv (as := [_, _, _]) (q := 43) dX7_cutSign_102 mvX7_61 ⟨by decide, by decide⟩ (L43 L) rfl rfl rfl (Nat.le_of_ble_eq_true rfl) ⟨rfl, rfl⟩ ⟨by decide, by decide⟩ (m_X7_add hP (by rw [sm_k, us_n (by decide)]; omega) ⟨by omega, by omega⟩ ⟨by omega, by omega⟩ ⟨by omega, by omega⟩) ?_
              exact a_return dX7_cutSign_105 rfl rfl rfl (zdet_V (by
      first
      | (rw [show sgL v = 2 from by unfold sgL; rw [if_pos (by omega)], if_neg (by omega)]; done)
      | (rw [show sgL v = 1 from by unfold sgL; rw [if_neg (by omega)], if_neg (by omega)]; done)
      | (rw [show sgL v = 1 from by unfold sgL; rw [if_neg (by omega)], if_pos (by omega)]; done)
      | (exfalso; omega)))
  · refine a_aloadn dX7_cutSign_18 rfl ?_
    refine a_getR (j' := 6) (y := 3) dX7_cutSign_19 flX7_24 rfl rfl (L43 L) hsg ?_
    refine a_aloadn dX7_cutSign_22 rfl ?_
    refine b_getI (j' := 8) dX7_cutSign_23 flX7_45 rfl rfl (L43 L) (fun hr23 => ?_)
    refine a_iconst dX7_cutSign_26 ?_
    refine a_iadd dX7_cutSign_27 ?_
    refine b_iald (N := 700) dX7_cutSign_28 (L3 L) (by decide) (by omega) (by omega) (fun hr28 => ?_)
    refine a_goto (tgt := 33) dX7_cutSign_29 (by decide) ?_
    refine c_istoren (ls' := [_, _, _, _, _, _]) dX7_cutSign_33 (by decide) rfl rfl ?_
    refine a_iloadn dX7_cutSign_34 rfl ?_
    refine a_iloadn dX7_cutSign_35 rfl ?_
    refine a_callS (as := [_, _]) dX7_cutSign_36 mvX7_76 ⟨by decide, by decide⟩ rfl rfl (Nat.le_of_ble_eq_true rfl) ⟨rfl, rfl⟩ ⟨by decide, by decide⟩ (m_X7_signOf rc (by first | exact hr28 | exact ⟨by omega, by omega⟩)) ?_
    refine a_stk (st' := [aI v]) (by rw [hv, hc]; unfold foll; first | (rw [if_pos (by omega)]; done) | (rw [if_neg (by omega)]; done)) ?_
    refine c_istore (ls' := [_, _, _, _, _, _]) dX7_cutSign_39 (by decide) rfl rfl ?_
    refine a_iload dX7_cutSign_41 rfl ?_
    refine a_iconst dX7_cutSign_43 ?_
    refine a_icmp_eq (tgt := 61) dX7_cutSign_44 (by decide) ⟨by omega, by omega⟩ ⟨by omega, by omega⟩ (fun hb44 => ?_) (fun hb44 => ?_)
    · refine a_iconst dX7_cutSign_61 ?_
      refine a_goto (tgt := 66) dX7_cutSign_62 (by decide) ?_
      refine c_istore (ls' := [_, _, _, _, _, _]) dX7_cutSign_66 (by decide) rfl rfl ?_
      refine a_aloadn dX7_cutSign_68 rfl ?_
      refine a_dupR dX7_cutSign_69 ?_
      refine b_getI (j' := 8) dX7_cutSign_70 flX7_45 rfl rfl (L43 L) (fun hr70 => ?_)
      refine a_iload dX7_cutSign_73 rfl ?_
      refine a_if_eq (tgt := 82) dX7_cutSign_75 (by decide) ⟨by omega, by omega⟩ (fun hb75 => ?_) (fun hb75 => ?_)
      · refine a_iconst dX7_cutSign_82 ?_
        refine a_iadd dX7_cutSign_83 ?_
        refine a_putI (j' := 8) dX7_cutSign_84 flX7_45 rfl rfl (L43 L) (by decide) rfl ⟨by omega, by omega⟩ ?_
        refine a_aloadn dX7_cutSign_87 rfl ?_
        refine a_iload dX7_cutSign_88 rfl ?_
        refine a_iconst dX7_cutSign_90 ?_
        refine a_icmp_ne (tgt := 98) dX7_cutSign_91 (by decide) ⟨by omega, by omega⟩ ⟨by omega, by omega⟩ (fun hb91 => ?_) (fun hb91 => ?_)
        · refine a_iconst dX7_cutSign_98 ?_
          refine a_iloadn dX7_cutSign_99 rfl ?_
          refine a_iload dX7_cutSign_100 rfl ?_
          refine a_callVv (as := [_, _, _]) (q := 43) dX7_cutSign_102 mvX7_61 ⟨by decide, by decide⟩ (L43 L) rfl rfl rfl (Nat.le_of_ble_eq_true rfl) ⟨rfl, rfl⟩ ⟨by decide, by decide⟩ (m_X7_add hP (by rw [sm_k, us_n (by decide)]; omega) ⟨by omega, by omega⟩ ⟨by omega, by omega⟩ ⟨by omega, by omega⟩) ?_
          exact a_return dX7_cutSign_105 rfl rfl rfl (zdet_V (by
      first
      | (rw [show sgL v = 2 from by unfold sgL; rw [if_pos (by omega)], if_neg (by omega)]; done)
      | (rw [show sgL v = 1 from by unfold sgL; rw [if_neg (by omega)], if_neg (by omega)]; done)
      | (rw [show sgL v = 1 from by unfold sgL; rw [if_neg (by omega)], if_pos (by omega)]; done)
      | (exfalso; omega)))
        · refine a_iconst dX7_cutSign_94 ?_
          refine a_goto (tgt := 99) dX7_cutSign_95 (by decide) ?_
          refine a_iloadn dX7_cutSign_99 rfl ?_
          refine a_iload dX7_cutSign_100 rfl ?_
          refine a_callVv (as := [_, _, _]) (q := 43) dX7_cutSign_102 mvX7_61 ⟨by decide, by decide⟩ (L43 L) rfl rfl rfl (Nat.le_of_ble_eq_true rfl) ⟨rfl, rfl⟩ ⟨by decide, by decide⟩ (m_X7_add hP (by rw [sm_k, us_n (by decide)]; omega) ⟨by omega, by omega⟩ ⟨by omega, by omega⟩ ⟨by omega, by omega⟩) ?_
          exact a_return dX7_cutSign_105 rfl rfl rfl (zdet_V (by
      first
      | (rw [show sgL v = 2 from by unfold sgL; rw [if_pos (by omega)], if_neg (by omega)]; done)
      | (rw [show sgL v = 1 from by unfold sgL; rw [if_neg (by omega)], if_neg (by omega)]; done)
      | (rw [show sgL v = 1 from by unfold sgL; rw [if_neg (by omega)], if_pos (by omega)]; done)
      | (exfalso; omega)))
      · refine a_iconst dX7_cutSign_78 ?_
        refine a_goto (tgt := 83) dX7_cutSign_79 (by decide) ?_
        refine a_iadd dX7_cutSign_83 ?_
        refine a_putI (j' := 8) dX7_cutSign_84 flX7_45 rfl rfl (L43 L) (by decide) rfl ⟨by omega, by omega⟩ ?_
        refine a_aloadn dX7_cutSign_87 rfl ?_
        refine a_iload dX7_cutSign_88 rfl ?_
        refine a_iconst dX7_cutSign_90 ?_
        refine a_icmp_ne (tgt := 98) dX7_cutSign_91 (by decide) ⟨by omega, by omega⟩ ⟨by omega, by omega⟩ (fun hb91 => ?_) (fun hb91 => ?_)
        · refine a_iconst dX7_cutSign_98 ?_
          refine a_iloadn dX7_cutSign_99 rfl ?_
          refine a_iload dX7_cutSign_100 rfl ?_
          refine a_callVv (as := [_, _, _]) (q := 43) dX7_cutSign_102 mvX7_61 ⟨by decide, by decide⟩ (L43 L) rfl rfl rfl (Nat.le_of_ble_eq_true rfl) ⟨rfl, rfl⟩ ⟨by decide, by decide⟩ (m_X7_add hP (by rw [sm_k, us_n (by decide)]; omega) ⟨by omega, by omega⟩ ⟨by omega, by omega⟩ ⟨by omega, by omega⟩) ?_
          exact a_return dX7_cutSign_105 rfl rfl rfl (zdet_V (by
      first
      | (rw [show sgL v = 2 from by unfold sgL; rw [if_pos (by omega)], if_neg (by omega)]; done)
      | (rw [show sgL v = 1 from by unfold sgL; rw [if_neg (by omega)], if_neg (by omega)]; done)
      | (rw [show sgL v = 1 from by unfold sgL; rw [if_neg (by omega)], if_pos (by omega)]; done)
      | (exfalso; omega)))
        · refine a_iconst dX7_cutSign_94 ?_
          refine a_goto (tgt := 99) dX7_cutSign_95 (by decide) ?_
          refine a_iloadn dX7_cutSign_99 rfl ?_
          refine a_iload dX7_cutSign_100 rfl ?_
          refine a_callVv (as := [_, _, _]) (q := 43) dX7_cutSign_102 mvX7_61 ⟨by decide, by decide⟩ (L43 L) rfl rfl rfl (Nat.le_of_ble_eq_true rfl) ⟨rfl, rfl⟩ ⟨by decide, by decide⟩ (m_X7_add hP (by rw [sm_k, us_n (by decide)]; omega) ⟨by omega, by omega⟩ ⟨by omega, by omega⟩ ⟨by omega, by omega⟩) ?_
          exact a_return dX7_cutSign_105 rfl rfl rfl (zdet_V (by
      first
      | (rw [show sgL v = 2 from by unfold sgL; rw [if_pos (by omega)], if_neg (by omega)]; done)
      | (rw [show sgL v = 1 from by unfold sgL; rw [if_neg (by omega)], if_neg (by omega)]; done)
      | (rw [show sgL v = 1 from by unfold sgL; rw [if_neg (by omega)], if_pos (by omega)]; done)
      | (exfalso; omega)))
    · refine a_iload dX7_cutSign_47 rfl ?_
      refine a_bipush (w := 6) dX7_cutSign_49 (by decide) ?_
      refine a_icmp_eq (tgt := 61) dX7_cutSign_51 (by decide) ⟨by omega, by omega⟩ ⟨by omega, by omega⟩ (fun hb51 => ?_) (fun hb51 => ?_)
      · refine a_iconst dX7_cutSign_61 ?_
        refine a_goto (tgt := 66) dX7_cutSign_62 (by decide) ?_
        refine c_istore (ls' := [_, _, _, _, _, _]) dX7_cutSign_66 (by decide) rfl rfl ?_
        refine a_aloadn dX7_cutSign_68 rfl ?_
        refine a_dupR dX7_cutSign_69 ?_
        refine b_getI (j' := 8) dX7_cutSign_70 flX7_45 rfl rfl (L43 L) (fun hr70 => ?_)
        refine a_iload dX7_cutSign_73 rfl ?_
        refine a_if_eq (tgt := 82) dX7_cutSign_75 (by decide) ⟨by omega, by omega⟩ (fun hb75 => ?_) (fun hb75 => ?_)
        · refine a_iconst dX7_cutSign_82 ?_
          refine a_iadd dX7_cutSign_83 ?_
          refine a_putI (j' := 8) dX7_cutSign_84 flX7_45 rfl rfl (L43 L) (by decide) rfl ⟨by omega, by omega⟩ ?_
          refine a_aloadn dX7_cutSign_87 rfl ?_
          refine a_iload dX7_cutSign_88 rfl ?_
          refine a_iconst dX7_cutSign_90 ?_
          refine a_icmp_ne (tgt := 98) dX7_cutSign_91 (by decide) ⟨by omega, by omega⟩ ⟨by omega, by omega⟩ (fun hb91 => ?_) (fun hb91 => ?_)
          · refine a_iconst dX7_cutSign_98 ?_
            refine a_iloadn dX7_cutSign_99 rfl ?_
            refine a_iload dX7_cutSign_100 rfl ?_
            refine a_callVv (as := [_, _, _]) (q := 43) dX7_cutSign_102 mvX7_61 ⟨by decide, by decide⟩ (L43 L) rfl rfl rfl (Nat.le_of_ble_eq_true rfl) ⟨rfl, rfl⟩ ⟨by decide, by decide⟩ (m_X7_add hP (by rw [sm_k, us_n (by decide)]; omega) ⟨by omega, by omega⟩ ⟨by omega, by omega⟩ ⟨by omega, by omega⟩) ?_
            exact a_return dX7_cutSign_105 rfl rfl rfl (zdet_V (by
      first
      | (rw [show sgL v = 2 from by unfold sgL; rw [if_pos (by omega)], if_neg (by omega)]; done)
      | (rw [show sgL v = 1 from by unfold sgL; rw [if_neg (by omega)], if_neg (by omega)]; done)
      | (rw [show sgL v = 1 from by unfold sgL; rw [if_neg (by omega)], if_pos (by omega)]; done)
      | (exfalso; omega)))
          · refine a_iconst dX7_cutSign_94 ?_
            refine a_goto (tgt := 99) dX7_cutSign_95 (by decide) ?_
            refine a_iloadn dX7_cutSign_99 rfl ?_
            refine a_iload dX7_cutSign_100 rfl ?_
            refine a_callVv (as := [_, _, _]) (q := 43) dX7_cutSign_102 mvX7_61 ⟨by decide, by decide⟩ (L43 L) rfl rfl rfl (Nat.le_of_ble_eq_true rfl) ⟨rfl, rfl⟩ ⟨by decide, by decide⟩ (m_X7_add hP (by rw [sm_k, us_n (by decide)]; omega) ⟨by omega, by omega⟩ ⟨by omega, by omega⟩ ⟨by omega, by omega⟩) ?_
            exact a_return dX7_cutSign_105 rfl rfl rfl (zdet_V (by
      first
      | (rw [show sgL v = 2 from by unfold sgL; rw [if_pos (by omega)], if_neg (by omega)]; done)
      | (rw [show sgL v = 1 from by unfold sgL; rw [if_neg (by omega)], if_neg (by omega)]; done)
      | (rw [show sgL v = 1 from by unfold sgL; rw [if_neg (by omega)], if_pos (by omega)]; done)
      | (exfalso; omega)))
        · refine a_iconst dX7_cutSign_78 ?_
          refine a_goto (tgt := 83) dX7_cutSign_79 (by decide) ?_
          refine a_iadd dX7_cutSign_83 ?_
          refine a_putI (j' := 8) dX7_cutSign_84 flX7_45 rfl rfl (L43 L) (by decide) rfl ⟨by omega, by omega⟩ ?_
          refine a_aloadn dX7_cutSign_87 rfl ?_
          refine a_iload dX7_cutSign_88 rfl ?_
          refine a_iconst dX7_cutSign_90 ?_
          refine a_icmp_ne (tgt := 98) dX7_cutSign_91 (by decide) ⟨by omega, by omega⟩ ⟨by omega, by omega⟩ (fun hb91 => ?_) (fun hb91 => ?_)
          · refine a_iconst dX7_cutSign_98 ?_
            refine a_iloadn dX7_cutSign_99 rfl ?_
            refine a_iload dX7_cutSign_100 rfl ?_
            refine a_callVv (as := [_, _, _]) (q := 43) dX7_cutSign_102 mvX7_61 ⟨by decide, by decide⟩ (L43 L) rfl rfl rfl (Nat.le_of_ble_eq_true rfl) ⟨rfl, rfl⟩ ⟨by decide, by decide⟩ (m_X7_add hP (by rw [sm_k, us_n (by decide)]; omega) ⟨by omega, by omega⟩ ⟨by omega, by omega⟩ ⟨by omega, by omega⟩) ?_
            exact a_return dX7_cutSign_105 rfl rfl rfl (zdet_V (by
      first
      | (rw [show sgL v = 2 from by unfold sgL; rw [if_pos (by omega)], if_neg (by omega)]; done)
      | (rw [show sgL v = 1 from by unfold sgL; rw [if_neg (by omega)], if_neg (by omega)]; done)
      | (rw [show sgL v = 1 from by unfold sgL; rw [if_neg (by omega)], if_pos (by omega)]; done)
      | (exfalso; omega)))
          · refine a_iconst dX7_cutSign_94 ?_
            refine a_goto (tgt := 99) dX7_cutSign_95 (by decide) ?_
            refine a_iloadn dX7_cutSign_99 rfl ?_
            refine a_iload dX7_cutSign_100 rfl ?_
            refine a_callVv (as := [_, _, _]) (q := 43) dX7_cutSign_102 mvX7_61 ⟨by decide, by decide⟩ (L43 L) rfl rfl rfl (Nat.le_of_ble_eq_true rfl) ⟨rfl, rfl⟩ ⟨by decide, by decide⟩ (m_X7_add hP (by rw [sm_k, us_n (by decide)]; omega) ⟨by omega, by omega⟩ ⟨by omega, by omega⟩ ⟨by omega, by omega⟩) ?_
            exact a_return dX7_cutSign_105 rfl rfl rfl (zdet_V (by
      first
      | (rw [show sgL v = 2 from by unfold sgL; rw [if_pos (by omega)], if_neg (by omega)]; done)
      | (rw [show sgL v = 1 from by unfold sgL; rw [if_neg (by omega)], if_neg (by omega)]; done)
      | (rw [show sgL v = 1 from by unfold sgL; rw [if_neg (by omega)], if_pos (by omega)]; done)
      | (exfalso; omega)))
      · refine a_iload dX7_cutSign_54 rfl ?_
        refine a_bipush (w := 7) dX7_cutSign_56 (by decide) ?_
        refine a_icmp_ne (tgt := 65) dX7_cutSign_58 (by decide) ⟨by omega, by omega⟩ ⟨by omega, by omega⟩ (fun hb58 => ?_) (fun hb58 => ?_)
        · refine a_iconst dX7_cutSign_65 ?_
          refine c_istore (ls' := [_, _, _, _, _, _]) dX7_cutSign_66 (by decide) rfl rfl ?_
          refine a_aloadn dX7_cutSign_68 rfl ?_
          refine a_dupR dX7_cutSign_69 ?_
          refine b_getI (j' := 8) dX7_cutSign_70 flX7_45 rfl rfl (L43 L) (fun hr70 => ?_)
          refine a_iload dX7_cutSign_73 rfl ?_
          refine a_if_eq (tgt := 82) dX7_cutSign_75 (by decide) ⟨by omega, by omega⟩ (fun hb75 => ?_) (fun hb75 => ?_)
          · refine a_iconst dX7_cutSign_82 ?_
            refine a_iadd dX7_cutSign_83 ?_
            refine a_putI (j' := 8) dX7_cutSign_84 flX7_45 rfl rfl (L43 L) (by decide) rfl ⟨by omega, by omega⟩ ?_
            refine a_aloadn dX7_cutSign_87 rfl ?_
            refine a_iload dX7_cutSign_88 rfl ?_
            refine a_iconst dX7_cutSign_90 ?_
            refine a_icmp_ne (tgt := 98) dX7_cutSign_91 (by decide) ⟨by omega, by omega⟩ ⟨by omega, by omega⟩ (fun hb91 => ?_) (fun hb91 => ?_)
            · refine a_iconst dX7_cutSign_98 ?_
              refine a_iloadn dX7_cutSign_99 rfl ?_
              refine a_iload dX7_cutSign_100 rfl ?_
              refine a_callVv (as := [_, _, _]) (q := 43) dX7_cutSign_102 mvX7_61 ⟨by decide, by decide⟩ (L43 L) rfl rfl rfl (Nat.le_of_ble_eq_true rfl) ⟨rfl, rfl⟩ ⟨by decide, by decide⟩ (m_X7_add hP (by rw [sm_k, us_n (by decide)]; omega) ⟨by omega, by omega⟩ ⟨by omega, by omega⟩ ⟨by omega, by omega⟩) ?_
              exact a_return dX7_cutSign_105 rfl rfl rfl (zdet_V (by
      first
      | (rw [show sgL v = 2 from by unfold sgL; rw [if_pos (by omega)], if_neg (by omega)]; done)
      | (rw [show sgL v = 1 from by unfold sgL; rw [if_neg (by omega)], if_neg (by omega)]; done)
      | (rw [show sgL v = 1 from by unfold sgL; rw [if_neg (by omega)], if_pos (by omega)]; done)
      | (exfalso; omega)))
            · refine a_iconst dX7_cutSign_94 ?_
              refine a_goto (tgt := 99) dX7_cutSign_95 (by decide) ?_
              refine a_iloadn dX7_cutSign_99 rfl ?_
              refine a_iload dX7_cutSign_100 rfl ?_
              refine a_callVv (as := [_, _, _]) (q := 43) dX7_cutSign_102 mvX7_61 ⟨by decide, by decide⟩ (L43 L) rfl rfl rfl (Nat.le_of_ble_eq_true rfl) ⟨rfl, rfl⟩ ⟨by decide, by decide⟩ (m_X7_add hP (by rw [sm_k, us_n (by decide)]; omega) ⟨by omega, by omega⟩ ⟨by omega, by omega⟩ ⟨by omega, by omega⟩) ?_
              exact a_return dX7_cutSign_105 rfl rfl rfl (zdet_V (by
      first
      | (rw [show sgL v = 2 from by unfold sgL; rw [if_pos (by omega)], if_neg (by omega)]; done)
      | (rw [show sgL v = 1 from by unfold sgL; rw [if_neg (by omega)], if_neg (by omega)]; done)
      | (rw [show sgL v = 1 from by unfold sgL; rw [if_neg (by omega)], if_pos (by omega)]; done)
      | (exfalso; omega)))
          · refine a_iconst dX7_cutSign_78 ?_
            refine a_goto (tgt := 83) dX7_cutSign_79 (by decide) ?_
            refine a_iadd dX7_cutSign_83 ?_
            refine a_putI (j' := 8) dX7_cutSign_84 flX7_45 rfl rfl (L43 L) (by decide) rfl ⟨by omega, by omega⟩ ?_
            refine a_aloadn dX7_cutSign_87 rfl ?_
            refine a_iload dX7_cutSign_88 rfl ?_
            refine a_iconst dX7_cutSign_90 ?_
            refine a_icmp_ne (tgt := 98) dX7_cutSign_91 (by decide) ⟨by omega, by omega⟩ ⟨by omega, by omega⟩ (fun hb91 => ?_) (fun hb91 => ?_)
            · refine a_iconst dX7_cutSign_98 ?_
              refine a_iloadn dX7_cutSign_99 rfl ?_
              refine a_iload dX7_cutSign_100 rfl ?_
              refine a_callVv (as := [_, _, _]) (q := 43) dX7_cutSign_102 mvX7_61 ⟨by decide, by decide⟩ (L43 L) rfl rfl rfl (Nat.le_of_ble_eq_true rfl) ⟨rfl, rfl⟩ ⟨by decide, by decide⟩ (m_X7_add hP (by rw [sm_k, us_n (by decide)]; omega) ⟨by omega, by omega⟩ ⟨by omega, by omega⟩ ⟨by omega, by omega⟩) ?_
              exact a_return dX7_cutSign_105 rfl rfl rfl (zdet_V (by
      first
      | (rw [show sgL v = 2 from by unfold sgL; rw [if_pos (by omega)], if_neg (by omega)]; done)
      | (rw [show sgL v = 1 from by unfold sgL; rw [if_neg (by omega)], if_neg (by omega)]; done)
      | (rw [show sgL v = 1 from by unfold sgL; rw [if_neg (by omega)], if_pos (by omega)]; done)
      | (exfalso; omega)))
            · refine a_iconst dX7_cutSign_94 ?_
              refine a_goto (tgt := 99) dX7_cutSign_95 (by decide) ?_
              refine a_iloadn dX7_cutSign_99 rfl ?_
              refine a_iload dX7_cutSign_100 rfl ?_
              refine a_callVv (as := [_, _, _]) (q := 43) dX7_cutSign_102 mvX7_61 ⟨by decide, by decide⟩ (L43 L) rfl rfl rfl (Nat.le_of_ble_eq_true rfl) ⟨rfl, rfl⟩ ⟨by decide, by decide⟩ (m_X7_add hP (by rw [sm_k, us_n (by decide)]; omega) ⟨by omega, by omega⟩ ⟨by omega, by omega⟩ ⟨by omega, by omega⟩) ?_
              exact a_return dX7_cutSign_105 rfl rfl rfl (zdet_V (by
      first
      | (rw [show sgL v = 2 from by unfold sgL; rw [if_pos (by omega)], if_neg (by omega)]; done)
      | (rw [show sgL v = 1 from by unfold sgL; rw [if_neg (by omega)], if_neg (by omega)]; done)
      | (rw [show sgL v = 1 from by unfold sgL; rw [if_neg (by omega)], if_pos (by omega)]; done)
      | (exfalso; omega)))
        · refine a_iconst dX7_cutSign_61 ?_
          refine a_goto (tgt := 66) dX7_cutSign_62 (by decide) ?_
          refine c_istore (ls' := [_, _, _, _, _, _]) dX7_cutSign_66 (by decide) rfl rfl ?_
          refine a_aloadn dX7_cutSign_68 rfl ?_
          refine a_dupR dX7_cutSign_69 ?_
          refine b_getI (j' := 8) dX7_cutSign_70 flX7_45 rfl rfl (L43 L) (fun hr70 => ?_)
          refine a_iload dX7_cutSign_73 rfl ?_
          refine a_if_eq (tgt := 82) dX7_cutSign_75 (by decide) ⟨by omega, by omega⟩ (fun hb75 => ?_) (fun hb75 => ?_)
          · refine a_iconst dX7_cutSign_82 ?_
            refine a_iadd dX7_cutSign_83 ?_
            refine a_putI (j' := 8) dX7_cutSign_84 flX7_45 rfl rfl (L43 L) (by decide) rfl ⟨by omega, by omega⟩ ?_
            refine a_aloadn dX7_cutSign_87 rfl ?_
            refine a_iload dX7_cutSign_88 rfl ?_
            refine a_iconst dX7_cutSign_90 ?_
            refine a_icmp_ne (tgt := 98) dX7_cutSign_91 (by decide) ⟨by omega, by omega⟩ ⟨by omega, by omega⟩ (fun hb91 => ?_) (fun hb91 => ?_)
            · refine a_iconst dX7_cutSign_98 ?_
              refine a_iloadn dX7_cutSign_99 rfl ?_
              refine a_iload dX7_cutSign_100 rfl ?_
              refine a_callVv (as := [_, _, _]) (q := 43) dX7_cutSign_102 mvX7_61 ⟨by decide, by decide⟩ (L43 L) rfl rfl rfl (Nat.le_of_ble_eq_true rfl) ⟨rfl, rfl⟩ ⟨by decide, by decide⟩ (m_X7_add hP (by rw [sm_k, us_n (by decide)]; omega) ⟨by omega, by omega⟩ ⟨by omega, by omega⟩ ⟨by omega, by omega⟩) ?_
              exact a_return dX7_cutSign_105 rfl rfl rfl (zdet_V (by
      first
      | (rw [show sgL v = 2 from by unfold sgL; rw [if_pos (by omega)], if_neg (by omega)]; done)
      | (rw [show sgL v = 1 from by unfold sgL; rw [if_neg (by omega)], if_neg (by omega)]; done)
      | (rw [show sgL v = 1 from by unfold sgL; rw [if_neg (by omega)], if_pos (by omega)]; done)
      | (exfalso; omega)))
            · refine a_iconst dX7_cutSign_94 ?_
              refine a_goto (tgt := 99) dX7_cutSign_95 (by decide) ?_
              refine a_iloadn dX7_cutSign_99 rfl ?_
              refine a_iload dX7_cutSign_100 rfl ?_
              refine a_callVv (as := [_, _, _]) (q := 43) dX7_cutSign_102 mvX7_61 ⟨by decide, by decide⟩ (L43 L) rfl rfl rfl (Nat.le_of_ble_eq_true rfl) ⟨rfl, rfl⟩ ⟨by decide, by decide⟩ (m_X7_add hP (by rw [sm_k, us_n (by decide)]; omega) ⟨by omega, by omega⟩ ⟨by omega, by omega⟩ ⟨by omega, by omega⟩) ?_
              exact a_return dX7_cutSign_105 rfl rfl rfl (zdet_V (by
      first
      | (rw [show sgL v = 2 from by unfold sgL; rw [if_pos (by omega)], if_neg (by omega)]; done)
      | (rw [show sgL v = 1 from by unfold sgL; rw [if_neg (by omega)], if_neg (by omega)]; done)
      | (rw [show sgL v = 1 from by unfold sgL; rw [if_neg (by omega)], if_pos (by omega)]; done)
      | (exfalso; omega)))
          · refine a_iconst dX7_cutSign_78 ?_
            refine a_goto (tgt := 83) dX7_cutSign_79 (by decide) ?_
            refine a_iadd dX7_cutSign_83 ?_
            refine a_putI (j' := 8) dX7_cutSign_84 flX7_45 rfl rfl (L43 L) (by decide) rfl ⟨by omega, by omega⟩ ?_
            refine a_aloadn dX7_cutSign_87 rfl ?_
            refine a_iload dX7_cutSign_88 rfl ?_
            refine a_iconst dX7_cutSign_90 ?_
            refine a_icmp_ne (tgt := 98) dX7_cutSign_91 (by decide) ⟨by omega, by omega⟩ ⟨by omega, by omega⟩ (fun hb91 => ?_) (fun hb91 => ?_)
            · refine a_iconst dX7_cutSign_98 ?_
              refine a_iloadn dX7_cutSign_99 rfl ?_
              refine a_iload dX7_cutSign_100 rfl ?_
              refine a_callVv (as := [_, _, _]) (q := 43) dX7_cutSign_102 mvX7_61 ⟨by decide, by decide⟩ (L43 L) rfl rfl rfl (Nat.le_of_ble_eq_true rfl) ⟨rfl, rfl⟩ ⟨by decide, by decide⟩ (m_X7_add hP (by rw [sm_k, us_n (by decide)]; omega) ⟨by omega, by omega⟩ ⟨by omega, by omega⟩ ⟨by omega, by omega⟩) ?_
              exact a_return dX7_cutSign_105 rfl rfl rfl (zdet_V (by
      first
      | (rw [show sgL v = 2 from by unfold sgL; rw [if_pos (by omega)], if_neg (by omega)]; done)
      | (rw [show sgL v = 1 from by unfold sgL; rw [if_neg (by omega)], if_neg (by omega)]; done)
      | (rw [show sgL v = 1 from by unfold sgL; rw [if_neg (by omega)], if_pos (by omega)]; done)
      | (exfalso; omega)))
            · refine a_iconst dX7_cutSign_94 ?_
              refine a_goto (tgt := 99) dX7_cutSign_95 (by decide) ?_
              refine a_iloadn dX7_cutSign_99 rfl ?_
              refine a_iload dX7_cutSign_100 rfl ?_
              refine a_callVv (as := [_, _, _]) (q := 43) dX7_cutSign_102 mvX7_61 ⟨by decide, by decide⟩ (L43 L) rfl rfl rfl (Nat.le_of_ble_eq_true rfl) ⟨rfl, rfl⟩ ⟨by decide, by decide⟩ (m_X7_add hP (by rw [sm_k, us_n (by decide)]; omega) ⟨by omega, by omega⟩ ⟨by omega, by omega⟩ ⟨by omega, by omega⟩) ?_
              exact a_return dX7_cutSign_105 rfl rfl rfl (zdet_V (by
      first
      | (rw [show sgL v = 2 from by unfold sgL; rw [if_pos (by omega)], if_neg (by omega)]; done)
      | (rw [show sgL v = 1 from by unfold sgL; rw [if_neg (by omega)], if_neg (by omega)]; done)
      | (rw [show sgL v = 1 from by unfold sgL; rw [if_neg (by omega)], if_pos (by omega)]; done)
      | (exfalso; omega)))

set_option maxRecDepth 100000 in
set_option maxHeartbeats 4000000 in
theorem lpX7_cutNumber {G : zG} {l : Launch} {L : Nat} {P : zP} {M0 : zM} {fr : Int} {Z : zZ} (hP : PFok P) (hsg : P 43 6 = some 3) (hN : 0 ≤ M0 43 7 ∧ M0 43 7 ≤ 700) : ∀ (n : Nat) (p v : Int) (g0 : 0 ≤ p) (g1 : p + n = M0 43 7) (gv : 0 ≤ v ∧ v ≤ 1000000) (kk : AW G l mdX7_cutNumber Z 82 [some (aR 43), some (aI fr), some (aI (nvC (M0 3) (rnE (diF (M0 3)) (M0 43 7) p - p).toNat p v))] [] (LAY L) P (sm M0 43 8 (rnE (diF (M0 3)) (M0 43 7) p)) 0 0), AW G l mdX7_cutNumber Z 7 [some (aR 43), some (aI fr), some (aI v)] [] (LAY L) P (sm M0 43 8 p) 0 0 := by
  intro n
  induction n with
  | zero =>
    intro p v g0 g1 gv kk
    refine a_aloadn dX7_cutNumber_7 rfl ?_
    refine b_getI (j' := 8) dX7_cutNumber_8 flX7_45 rfl rfl (L43 L) (fun hr8 => ?_)
    try simp (disch := omega) only [sm_n, sm_k, us_s, us_n] at hr8 ⊢
    refine a_aloadn dX7_cutNumber_11 rfl ?_
    refine b_getI (j' := 7) dX7_cutNumber_12 flX7_41 rfl rfl (L43 L) (fun hr12 => ?_)
    try simp (disch := omega) only [sm_n, sm_k, us_s, us_n] at hr12 ⊢
    refine a_icmp_ge (tgt := 82) dX7_cutNumber_15 (by decide) ⟨by omega, by omega⟩ ⟨by omega, by omega⟩ (fun hb15 => ?_) (fun hb15 => ?_)
    · have er : rnE (diF (M0 3)) (M0 43 7) p = p := rn_stop (by rw [diF_1]; omega)
      rw [er, show (p - p).toNat = 0 by omega] at kk
      exact kk
    · exfalso; omega
  | succ n ih =>
    intro p v g0 g1 gv kk
    refine a_aloadn dX7_cutNumber_7 rfl ?_
    refine b_getI (j' := 8) dX7_cutNumber_8 flX7_45 rfl rfl (L43 L) (fun hr8 => ?_)
    try simp (disch := omega) only [sm_n, sm_k, us_s, us_n] at hr8 ⊢
    refine a_aloadn dX7_cutNumber_11 rfl ?_
    refine b_getI (j' := 7) dX7_cutNumber_12 flX7_41 rfl rfl (L43 L) (fun hr12 => ?_)
    try simp (disch := omega) only [sm_n, sm_k, us_s, us_n] at hr12 ⊢
    refine a_icmp_ge (tgt := 82) dX7_cutNumber_15 (by decide) ⟨by omega, by omega⟩ ⟨by omega, by omega⟩ (fun hb15 => ?_) (fun hb15 => ?_)
    · exfalso; omega
    · refine a_aloadn dX7_cutNumber_18 rfl ?_
      refine a_getR (j' := 6) (y := 3) dX7_cutNumber_19 flX7_24 rfl rfl (L43 L) hsg ?_
      refine a_aloadn dX7_cutNumber_22 rfl ?_
      refine b_getI (j' := 8) dX7_cutNumber_23 flX7_45 rfl rfl (L43 L) (fun hr23 => ?_)
      try simp (disch := omega) only [sm_n, sm_k, us_s, us_n] at hr23 ⊢
      refine b_iald (N := 700) dX7_cutNumber_26 (L3 L) (by decide) (by omega) (by omega) (fun hr26 => ?_)
      try simp (disch := omega) only [sm_n, sm_k, us_s, us_n] at hr26 ⊢
      refine a_bipush (w := 48) dX7_cutNumber_27 (by decide) ?_
      refine a_icmp_lt (tgt := 82) dX7_cutNumber_29 (by decide) hr26 ⟨by omega, by omega⟩ (fun hb29 => ?_) (fun hb29 => ?_)
      · have er : rnE (diF (M0 3)) (M0 43 7) p = p := rn_stop (by rw [diF_1]; omega)
        rw [er, show (p - p).toNat = 0 by omega] at kk
        exact kk
      · refine a_aloadn dX7_cutNumber_32 rfl ?_
        refine a_getR (j' := 6) (y := 3) dX7_cutNumber_33 flX7_24 rfl rfl (L43 L) hsg ?_
        refine a_aloadn dX7_cutNumber_36 rfl ?_
        refine b_getI (j' := 8) dX7_cutNumber_37 flX7_45 rfl rfl (L43 L) (fun hr37 => ?_)
        try simp (disch := omega) only [sm_n, sm_k, us_s, us_n] at hr37 ⊢
        refine b_iald (N := 700) dX7_cutNumber_40 (L3 L) (by decide) (by omega) (by omega) (fun hr40 => ?_)
        try simp (disch := omega) only [sm_n, sm_k, us_s, us_n] at hr40 ⊢
        refine a_bipush (w := 57) dX7_cutNumber_41 (by decide) ?_
        refine a_icmp_gt (tgt := 82) dX7_cutNumber_43 (by decide) hr40 ⟨by omega, by omega⟩ (fun hb43 => ?_) (fun hb43 => ?_)
        · have er : rnE (diF (M0 3)) (M0 43 7) p = p := rn_stop (by rw [diF_1]; omega)
          rw [er, show (p - p).toNat = 0 by omega] at kk
          exact kk
        · refine a_ldc (w := 1000000) dX7_cutNumber_46 knX7_75 (by decide) ?_
          refine a_iloadn dX7_cutNumber_48 rfl ?_
          refine a_bipush (w := 10) dX7_cutNumber_49 (by decide) ?_
          refine a_imul dX7_cutNumber_51 ?_
          refine a_aloadn dX7_cutNumber_52 rfl ?_
          refine a_getR (j' := 6) (y := 3) dX7_cutNumber_53 flX7_24 rfl rfl (L43 L) hsg ?_
          refine a_aloadn dX7_cutNumber_56 rfl ?_
          refine b_getI (j' := 8) dX7_cutNumber_57 flX7_45 rfl rfl (L43 L) (fun hr57 => ?_)
          try simp (disch := omega) only [sm_n, sm_k, us_s, us_n] at hr57 ⊢
          refine b_iald (N := 700) dX7_cutNumber_60 (L3 L) (by decide) (by omega) (by omega) (fun hr60 => ?_)
          try simp (disch := omega) only [sm_n, sm_k, us_s, us_n] at hr60 ⊢
          refine a_iadd dX7_cutNumber_61 ?_
          refine a_bipush (w := 48) dX7_cutNumber_62 (by decide) ?_
          refine a_isub dX7_cutNumber_64 ?_
          refine a_min dX7_cutNumber_65 mmX7_35 (Nat.le_of_ble_eq_true rfl) ⟨by decide, by decide⟩ ⟨by decide, by decide⟩ ⟨by omega, by omega⟩ ⟨by omega, by omega⟩ ?_
          refine c_istoren (ls' := [_, _, _]) dX7_cutNumber_68 (by decide) rfl rfl ?_
          refine a_aloadn dX7_cutNumber_69 rfl ?_
          refine a_dupR dX7_cutNumber_70 ?_
          refine b_getI (j' := 8) dX7_cutNumber_71 flX7_45 rfl rfl (L43 L) (fun hr71 => ?_)
          try simp (disch := omega) only [sm_n, sm_k, us_s, us_n] at hr71 ⊢
          refine a_iconst dX7_cutNumber_74 ?_
          refine a_iadd dX7_cutNumber_75 ?_
          refine a_putI (j' := 8) dX7_cutNumber_76 flX7_45 rfl rfl (L43 L) (by decide) rfl ⟨by omega, by omega⟩ ?_
          refine a_goto (tgt := 7) dX7_cutNumber_79 (by decide) ?_
          have er : rnE (diF (M0 3)) (M0 43 7) p = rnE (diF (M0 3)) (M0 43 7) (p + 1) := rn_step (by omega) (by rw [diF_1]; omega)
          have eb := rn_all (diF (M0 3)) (n := M0 43 7) (p := p + 1) (by omega)
          rw [er, show (rnE (diF (M0 3)) (M0 43 7) (p + 1) - p).toNat = (rnE (diF (M0 3)) (M0 43 7) (p + 1) - (p + 1)).toNat + 1 by omega] at kk
          simp only [nvC] at kk
          rw [sm_sm]
          refine ih _ _ (by omega) (by omega) ?_ ?_
          · split <;> omega
          · have e2 : (if (1000000 : Int) < v * 10 + M0 3 p - 48 then (1000000 : Int) else v * 10 + M0 3 p - 48) = (if v * 10 + M0 3 p - 48 < 1000000 then v * 10 + M0 3 p - 48 else 1000000) := by split <;> split <;> omega
            first
            | exact kk
            | (rw [e2]; exact kk)

set_option maxRecDepth 100000 in
set_option maxHeartbeats 4000000 in
theorem tlX7_cutNumber {G : zG} {l : Launch} {L : Nat} {P : zP} {M : zM} {fr v : Int} (hP : PFok P) (hs : 0 ≤ M 43 4 ∧ M 43 4 < 701) (rf : inR fr) (rv : inR v) : AW G l mdX7_cutNumber (zdet none (LAY L) P (adT M 4 fr v)) 82 [some (aR 43), some (aI fr), some (aI v)] [] (LAY L) P M 0 0 := by
  refine a_aloadn dX7_cutNumber_82 rfl ?_
  refine a_iconst dX7_cutNumber_83 ?_
  refine a_iloadn dX7_cutNumber_84 rfl ?_
  refine a_iloadn dX7_cutNumber_85 rfl ?_
  refine a_callVv (as := [_, _, _]) (q := 43) dX7_cutNumber_86 mvX7_61 ⟨by decide, by decide⟩ (L43 L) rfl rfl rfl (Nat.le_of_ble_eq_true rfl) ⟨rfl, rfl⟩ ⟨by decide, by decide⟩ (m_X7_add hP hs ⟨by omega, by omega⟩ rf rv) ?_
  exact a_return dX7_cutNumber_89 rfl rfl rfl (zdet_V rfl)

set_option maxRecDepth 100000 in
set_option maxHeartbeats 4000000 in
theorem m_X7_cutNumber {G : zG} {l : Launch} {L : Nat} {P : zP} {M : zM}  (hP : PFok P) (hsg : P 43 6 = some 3) (hq : 0 ≤ M 43 8 ∧ M 43 8 < M 43 7 ∧ M 43 7 ≤ 700) (hs : 0 ≤ M 43 4 ∧ M 43 4 < 700) (hd : diF (M 3) (M 43 8) ≠ 0) : AM G l yX7_cutNumber mdX7_cutNumber [aR 43] (LAY L) P M (zdet none (LAY L) P (adT (sm M 43 8 (rnE (diF (M 3)) (M 43 7) (M 43 8))) 4 (M 43 8) (nvC (M 3) (rnE (diF (M 3)) (M 43 7) (M 43 8) - M 43 8).toNat (M 43 8) 0))) := by
  refine AM.go [some (aR 43), none, none] rfl (Nat.le_of_ble_eq_true rfl) ?_ (by decide) rfl rfl
  refine a_aloadn dX7_cutNumber_0 rfl ?_
  refine b_getI (j' := 8) dX7_cutNumber_1 flX7_45 rfl rfl (L43 L) (fun hr1 => ?_)
  refine c_istoren (ls' := [_, _, _]) dX7_cutNumber_4 (by decide) rfl rfl ?_
  refine a_iconst dX7_cutNumber_5 ?_
  refine c_istoren (ls' := [_, _, _]) dX7_cutNumber_6 (by decide) rfl rfl ?_
  have ei : M = sm M 43 8 (M 43 8) := (sm_id rfl).symm
  have eb := rn_all (diF (M 3)) (n := M 43 7) (p := M 43 8) (by omega)
  have hz := nv_q (f := M 3) (rnE (diF (M 3)) (M 43 7) (M 43 8) - M 43 8).toNat (M 43 8) 0 0 (fun i h1 h2 => diF_1.mp (eb.2.2.1 i h1 (by omega))) (by unfold nvq; omega)
  unfold nvq at hz
  refine a_mem (M' := sm M 43 8 (M 43 8)) ei ?_
  refine lpX7_cutNumber hP hsg (by omega) (M 43 7 - M 43 8).toNat (M 43 8) 0 (by omega) (by omega) (by omega) ?_
  exact tlX7_cutNumber hP (by rw [sm_k, us_n (by decide)]; omega) ⟨by omega, by omega⟩ ⟨by omega, by omega⟩

set_option maxRecDepth 100000 in
set_option maxHeartbeats 4000000 in
theorem lpX7_wordOf {G : zG} {l : Launch} {L : Nat} {P : zP} {M : zM} {x : Int} (hP : PFok P) (rx : inR x) : ∀ (n : Nat) (k : Int) (g0 : 0 ≤ k) (g1 : k + n = 21), AW G l mdX7_wordOf (zdet (some (aI (zfind (M 44) x n k))) (LAY L) P M) 2 [some (aR 43), some (aI x), some (aI k)] [] (LAY L) P M 0 0 := by
  intro n
  induction n with
  | zero =>
    intro k g0 g1
    refine a_iloadn dX7_wordOf_2 rfl ?_
    refine a_bipush (w := 21) dX7_wordOf_3 (by decide) ?_
    refine a_icmp_ge (tgt := 26) dX7_wordOf_5 (by decide) ⟨by omega, by omega⟩ ⟨by omega, by omega⟩ (fun hb5 => ?_) (fun hb5 => ?_)
    · refine a_iconst dX7_wordOf_26 ?_
      exact a_ireturn dX7_wordOf_27 rfl rfl rfl (zdet_I (by first | rfl | omega) rfl)
    · exfalso; omega
  | succ n ih =>
    intro k g0 g1
    refine a_iloadn dX7_wordOf_2 rfl ?_
    refine a_bipush (w := 21) dX7_wordOf_3 (by decide) ?_
    refine a_icmp_ge (tgt := 26) dX7_wordOf_5 (by decide) ⟨by omega, by omega⟩ ⟨by omega, by omega⟩ (fun hb5 => ?_) (fun hb5 => ?_)
    · exfalso; omega
    · refine a_aloadn dX7_wordOf_8 rfl ?_
      refine a_getR (j' := 0) (y := 44) dX7_wordOf_9 flX7_11 rfl rfl (L43 L) (p43_0 hP) ?_
      refine a_iloadn dX7_wordOf_12 rfl ?_
      refine b_iald (N := 21) dX7_wordOf_13 (L44 L) (by decide) (by omega) (by omega) (fun hr13 => ?_)
      refine a_iloadn dX7_wordOf_14 rfl ?_
      refine a_icmp_ne (tgt := 20) dX7_wordOf_15 (by decide) hr13 rx (fun hb15 => ?_) (fun hb15 => ?_)
      · refine c_iinc (ls' := [_, _, _]) dX7_wordOf_20 rfl (by decide) rfl rfl ?_
        refine a_goto (tgt := 2) dX7_wordOf_23 (by decide) ?_
        simp only [zfind]
        rw [if_neg (by omega)]
        exact ih _ (by omega) (by omega)
      · refine a_iloadn dX7_wordOf_18 rfl ?_
        exact a_ireturn dX7_wordOf_19 rfl rfl rfl (zdet_I (by simp only [zfind]; rw [if_pos (by omega)]) rfl)

set_option maxRecDepth 100000 in
set_option maxHeartbeats 4000000 in
theorem m_X7_wordOf {G : zG} {l : Launch} {L : Nat} {P : zP} {M : zM} {x : Int} (hP : PFok P) (hL : ∀ k : Int, 0 ≤ k → k < 21 → M 44 k = lngF k) (rx : inR x) : AM G l yX7_wordOf mdX7_wordOf [aR 43, aI x] (LAY L) P M (zdet (some (aI (wnF9 x))) (LAY L) P M) := by
  refine AM.go [some (aR 43), some (aI x), none] rfl (Nat.le_of_ble_eq_true rfl) ?_ (by decide) rfl rfl
  refine a_iconst dX7_wordOf_0 ?_
  refine c_istoren (ls' := [_, _, _]) dX7_wordOf_1 (by decide) rfl rfl ?_
  have z := lpX7_wordOf (G := G) (l := l) (L := L) (M := M) hP rx 21 0 (by omega) (by omega)
  rw [show zfind (M 44) x 21 0 = wnF9 x from zfind_cong _ _ (fun j h1 h2 => hL j h1 (by omega))] at z
  exact z

theorem pow32 {m : Nat} (h : m ≤ 5) : (32 : Int) ^ m ≤ 33554432 := by
  rcases (show m = 0 ∨ m = 1 ∨ m = 2 ∨ m = 3 ∨ m = 4 ∨ m = 5 by omega) with e | e | e | e | e | e <;> subst e <;> decide
theorem wvF_in {f : Int → Int} {a e : Int} (h : ∀ i : Int, a ≤ i → i < e → 97 ≤ f i ∧ f i ≤ 122) : 0 ≤ wvF f a e ∧ wvF f a e < 1073741824 := by
  have z := wpF_in h 6
  rw [wpF_6, show (32 : Int) ^ 6 = 1073741824 by decide] at z
  exact z
theorem wnF9_in (x : Int) : -1 ≤ wnF9 x ∧ wnF9 x ≤ 20 := by
  have := zfind_in lngF x 21 0 (by omega)
  unfold wnF9
  omega

set_option maxRecDepth 100000 in
set_option maxHeartbeats 4000000 in
theorem lpX7_cutWord {G : zG} {l : Launch} {L : Nat} {P : zP} {M0 : zM} {fr : Int} {Z : zZ} (hP : PFok P) (hsg : P 43 6 = some 3) (hN : 0 ≤ M0 43 7 ∧ M0 43 7 ≤ 700) : ∀ (n : Nat) (p v : Int) (g0 : 0 ≤ fr ∧ fr ≤ p) (g1 : p + n = M0 43 7) (gl : ∀ i : Int, fr ≤ i → i < p → 97 ≤ M0 3 i ∧ M0 3 i ≤ 122) (gv : v = pvF (M0 3) fr (if p - fr < 6 then p - fr else 6).toNat) (kk : AW G l mdX7_cutWord Z 89 [some (aR 43), some (aI fr), some (aI (pvF (M0 3) fr (if rnE (loF (M0 3)) (M0 43 7) p - fr < 6 then rnE (loF (M0 3)) (M0 43 7) p - fr else 6).toNat)), none] [] (LAY L) P (sm M0 43 8 (rnE (loF (M0 3)) (M0 43 7) p)) 0 0), AW G l mdX7_cutWord Z 7 [some (aR 43), some (aI fr), some (aI v), none] [] (LAY L) P (sm M0 43 8 p) 0 0 := by
  intro n
  induction n with
  | zero =>
    intro p v g0 g1 gl gv kk
    refine a_aloadn dX7_cutWord_7 rfl ?_
    refine b_getI (j' := 8) dX7_cutWord_8 flX7_45 rfl rfl (L43 L) (fun hr8 => ?_)
    try simp (disch := omega) only [sm_n, sm_k, us_s, us_n] at hr8 ⊢
    refine a_aloadn dX7_cutWord_11 rfl ?_
    refine b_getI (j' := 7) dX7_cutWord_12 flX7_41 rfl rfl (L43 L) (fun hr12 => ?_)
    try simp (disch := omega) only [sm_n, sm_k, us_s, us_n] at hr12 ⊢
    refine a_icmp_ge (tgt := 89) dX7_cutWord_15 (by decide) ⟨by omega, by omega⟩ ⟨by omega, by omega⟩ (fun hb15 => ?_) (fun hb15 => ?_)
    · have er : rnE (loF (M0 3)) (M0 43 7) p = p := rn_stop (by rw [loF_1]; omega)
      rw [er, ← gv] at kk
      exact kk
    · exfalso; omega
  | succ n ih =>
    intro p v g0 g1 gl gv kk
    refine a_aloadn dX7_cutWord_7 rfl ?_
    refine b_getI (j' := 8) dX7_cutWord_8 flX7_45 rfl rfl (L43 L) (fun hr8 => ?_)
    try simp (disch := omega) only [sm_n, sm_k, us_s, us_n] at hr8 ⊢
    refine a_aloadn dX7_cutWord_11 rfl ?_
    refine b_getI (j' := 7) dX7_cutWord_12 flX7_41 rfl rfl (L43 L) (fun hr12 => ?_)
    try simp (disch := omega) only [sm_n, sm_k, us_s, us_n] at hr12 ⊢
    refine a_icmp_ge (tgt := 89) dX7_cutWord_15 (by decide) ⟨by omega, by omega⟩ ⟨by omega, by omega⟩ (fun hb15 => ?_) (fun hb15 => ?_)
    · exfalso; omega
    · refine a_aloadn dX7_cutWord_18 rfl ?_
      refine a_getR (j' := 6) (y := 3) dX7_cutWord_19 flX7_24 rfl rfl (L43 L) hsg ?_
      refine a_aloadn dX7_cutWord_22 rfl ?_
      refine b_getI (j' := 8) dX7_cutWord_23 flX7_45 rfl rfl (L43 L) (fun hr23 => ?_)
      try simp (disch := omega) only [sm_n, sm_k, us_s, us_n] at hr23 ⊢
      refine b_iald (N := 700) dX7_cutWord_26 (L3 L) (by decide) (by omega) (by omega) (fun hr26 => ?_)
      try simp (disch := omega) only [sm_n, sm_k, us_s, us_n] at hr26 ⊢
      refine a_bipush (w := 97) dX7_cutWord_27 (by decide) ?_
      refine a_icmp_lt (tgt := 89) dX7_cutWord_29 (by decide) hr26 ⟨by omega, by omega⟩ (fun hb29 => ?_) (fun hb29 => ?_)
      · have er : rnE (loF (M0 3)) (M0 43 7) p = p := rn_stop (by rw [loF_1]; omega)
        rw [er, ← gv] at kk
        exact kk
      · refine a_aloadn dX7_cutWord_32 rfl ?_
        refine a_getR (j' := 6) (y := 3) dX7_cutWord_33 flX7_24 rfl rfl (L43 L) hsg ?_
        refine a_aloadn dX7_cutWord_36 rfl ?_
        refine b_getI (j' := 8) dX7_cutWord_37 flX7_45 rfl rfl (L43 L) (fun hr37 => ?_)
        try simp (disch := omega) only [sm_n, sm_k, us_s, us_n] at hr37 ⊢
        refine b_iald (N := 700) dX7_cutWord_40 (L3 L) (by decide) (by omega) (by omega) (fun hr40 => ?_)
        try simp (disch := omega) only [sm_n, sm_k, us_s, us_n] at hr40 ⊢
        refine a_bipush (w := 122) dX7_cutWord_41 (by decide) ?_
        refine a_icmp_gt (tgt := 89) dX7_cutWord_43 (by decide) hr40 ⟨by omega, by omega⟩ (fun hb43 => ?_) (fun hb43 => ?_)
        · have er : rnE (loF (M0 3)) (M0 43 7) p = p := rn_stop (by rw [loF_1]; omega)
          rw [er, ← gv] at kk
          exact kk
        · refine a_aloadn dX7_cutWord_46 rfl ?_
          refine b_getI (j' := 8) dX7_cutWord_47 flX7_45 rfl rfl (L43 L) (fun hr47 => ?_)
          try simp (disch := omega) only [sm_n, sm_k, us_s, us_n] at hr47 ⊢
          refine a_iloadn dX7_cutWord_50 rfl ?_
          refine a_isub dX7_cutWord_51 ?_
          refine a_bipush (w := 6) dX7_cutWord_52 (by decide) ?_
          refine a_icmp_ge (tgt := 76) dX7_cutWord_54 (by decide) ⟨by omega, by omega⟩ ⟨by omega, by omega⟩ (fun hb54 => ?_) (fun hb54 => ?_)
          · refine a_aloadn dX7_cutWord_76 rfl ?_
            refine a_dupR dX7_cutWord_77 ?_
            refine b_getI (j' := 8) dX7_cutWord_78 flX7_45 rfl rfl (L43 L) (fun hr78 => ?_)
            try simp (disch := omega) only [sm_n, sm_k, us_s, us_n] at hr78 ⊢
            refine a_iconst dX7_cutWord_81 ?_
            refine a_iadd dX7_cutWord_82 ?_
            refine a_putI (j' := 8) dX7_cutWord_83 flX7_45 rfl rfl (L43 L) (by decide) rfl ⟨by omega, by omega⟩ ?_
            refine a_goto (tgt := 7) dX7_cutWord_86 (by decide) ?_
            have er : rnE (loF (M0 3)) (M0 43 7) p = rnE (loF (M0 3)) (M0 43 7) (p + 1) := rn_step (by omega) (by rw [loF_1]; omega)
            rw [er] at kk
            rw [sm_sm]
            refine ih _ _ (by omega) (by omega) (fun i h1 h2 => ?_) ?_ kk
            · by_cases ei : i = p
              · subst ei; omega
              · exact gl i h1 (by omega)
            first
            | (have em : (if p - fr < 6 then p - fr else 6).toNat = (p - fr).toNat := by rw [if_pos (by omega)]
               have em2 : (if p + 1 - fr < 6 then p + 1 - fr else 6).toNat = (p - fr).toNat + 1 := by split <;> omega
               have hb := pvF_in (f := M0 3) (a := fr) (p - fr).toNat (by omega) (fun i h1 h2 => gl i h1 (by omega))
               have hp : (32 : Int) ^ (p - fr).toNat ≤ 33554432 := pow32 (by omega)
               rw [em] at gv
               rw [em2, gv, pk1 ⟨hb.1, by omega⟩ ⟨by omega, by omega⟩]
               simp only [pvF]
               rw [show fr + (((p - fr).toNat : Nat) : Int) = p by omega]
               omega)
            | (have em : (if p - fr < 6 then p - fr else 6).toNat = 6 := by rw [if_neg (by omega)]; rfl
               have em2 : (if p + 1 - fr < 6 then p + 1 - fr else 6).toNat = 6 := by rw [if_neg (by omega)]; rfl
               rw [em] at gv
               rw [em2]; exact gv)
          · refine a_iloadn dX7_cutWord_57 rfl ?_
            refine a_iconst dX7_cutWord_58 ?_
            refine a_ishl dX7_cutWord_59 ?_
            refine a_aloadn dX7_cutWord_60 rfl ?_
            refine a_getR (j' := 6) (y := 3) dX7_cutWord_61 flX7_24 rfl rfl (L43 L) hsg ?_
            refine a_aloadn dX7_cutWord_64 rfl ?_
            refine b_getI (j' := 8) dX7_cutWord_65 flX7_45 rfl rfl (L43 L) (fun hr65 => ?_)
            try simp (disch := omega) only [sm_n, sm_k, us_s, us_n] at hr65 ⊢
            refine b_iald (N := 700) dX7_cutWord_68 (L3 L) (by decide) (by omega) (by omega) (fun hr68 => ?_)
            try simp (disch := omega) only [sm_n, sm_k, us_s, us_n] at hr68 ⊢
            refine a_bipush (w := 97) dX7_cutWord_69 (by decide) ?_
            refine a_isub dX7_cutWord_71 ?_
            refine a_iconst dX7_cutWord_72 ?_
            refine a_iadd dX7_cutWord_73 ?_
            refine a_ior dX7_cutWord_74 ?_
            refine c_istoren (ls' := [_, _, _, _]) dX7_cutWord_75 (by decide) rfl rfl ?_
            refine a_aloadn dX7_cutWord_76 rfl ?_
            refine a_dupR dX7_cutWord_77 ?_
            refine b_getI (j' := 8) dX7_cutWord_78 flX7_45 rfl rfl (L43 L) (fun hr78 => ?_)
            try simp (disch := omega) only [sm_n, sm_k, us_s, us_n] at hr78 ⊢
            refine a_iconst dX7_cutWord_81 ?_
            refine a_iadd dX7_cutWord_82 ?_
            refine a_putI (j' := 8) dX7_cutWord_83 flX7_45 rfl rfl (L43 L) (by decide) rfl ⟨by omega, by omega⟩ ?_
            refine a_goto (tgt := 7) dX7_cutWord_86 (by decide) ?_
            have er : rnE (loF (M0 3)) (M0 43 7) p = rnE (loF (M0 3)) (M0 43 7) (p + 1) := rn_step (by omega) (by rw [loF_1]; omega)
            rw [er] at kk
            rw [sm_sm]
            refine ih _ _ (by omega) (by omega) (fun i h1 h2 => ?_) ?_ kk
            · by_cases ei : i = p
              · subst ei; omega
              · exact gl i h1 (by omega)
            first
            | (have em : (if p - fr < 6 then p - fr else 6).toNat = (p - fr).toNat := by rw [if_pos (by omega)]
               have em2 : (if p + 1 - fr < 6 then p + 1 - fr else 6).toNat = (p - fr).toNat + 1 := by split <;> omega
               have hb := pvF_in (f := M0 3) (a := fr) (p - fr).toNat (by omega) (fun i h1 h2 => gl i h1 (by omega))
               have hp : (32 : Int) ^ (p - fr).toNat ≤ 33554432 := pow32 (by omega)
               rw [em] at gv
               rw [em2, gv, pk1 ⟨hb.1, by omega⟩ ⟨by omega, by omega⟩]
               simp only [pvF]
               rw [show fr + (((p - fr).toNat : Nat) : Int) = p by omega]
               omega)
            | (have em : (if p - fr < 6 then p - fr else 6).toNat = 6 := by rw [if_neg (by omega)]; rfl
               have em2 : (if p + 1 - fr < 6 then p + 1 - fr else 6).toNat = 6 := by rw [if_neg (by omega)]; rfl
               rw [em] at gv
               rw [em2]; exact gv)

set_option maxRecDepth 100000 in
set_option maxHeartbeats 4000000 in
theorem tlX7_cutWord {G : zG} {l : Launch} {L : Nat} {P : zP} {M : zM} {fr v : Int} (hP : PFok P) (hq : 0 ≤ fr ∧ fr ≤ M 43 8 ∧ M 43 8 ≤ 700) (hs : 0 ≤ M 43 4 ∧ M 43 4 < 701) (hl : ∀ i : Int, fr ≤ i → i < M 43 8 → 97 ≤ M 3 i ∧ M 3 i ≤ 122) (hv : M 43 8 - fr ≤ 6 → v = pvF (M 3) fr (M 43 8 - fr).toNat) (hL : ∀ k : Int, 0 ≤ k → k < 21 → M 44 k = lngF k) : AW G l mdX7_cutWord (zdet none (LAY L) P (if 6 < M 43 8 - fr then adT M 1 fr 0 else if wnF9 (wvF (M 3) fr (M 43 8)) = -1 then adT M 2 fr (wvF (M 3) fr (M 43 8)) else adT M 3 fr (wnF9 (wvF (M 3) fr (M 43 8))))) 89 [some (aR 43), some (aI fr), some (aI v), none] [] (LAY L) P M 0 0 := by
  refine a_aloadn dX7_cutWord_89 rfl ?_
  refine b_getI (j' := 8) dX7_cutWord_90 flX7_45 rfl rfl (L43 L) (fun hr90 => ?_)
  refine a_iloadn dX7_cutWord_93 rfl ?_
  refine a_isub dX7_cutWord_94 ?_
  refine a_bipush (w := 6) dX7_cutWord_95 (by decide) ?_
  refine a_icmp_le (tgt := 108) dX7_cutWord_97 (by decide) ⟨by omega, by omega⟩ ⟨by omega, by omega⟩ (fun hb97 => ?_) (fun hb97 => ?_)
  · have hv2 := hv (by omega)
    have wi := wvF_in hl
    have ni := wnF9_in (wvF (M 3) fr (M 43 8))
    refine a_iloadn dX7_cutWord_108 rfl ?_
    refine a_iconst dX7_cutWord_109 ?_
    refine a_bipush (w := 6) dX7_cutWord_110 (by decide) ?_
    refine a_aloadn dX7_cutWord_112 rfl ?_
    refine b_getI (j' := 8) dX7_cutWord_113 flX7_45 rfl rfl (L43 L) (fun hr113 => ?_)
    refine a_iloadn dX7_cutWord_116 rfl ?_
    refine a_isub dX7_cutWord_117 ?_
    refine a_isub dX7_cutWord_118 ?_
    refine a_imul dX7_cutWord_119 ?_
    refine a_ishl dX7_cutWord_120 ?_
    refine a_stk (st' := [aI (wvF (M 3) fr (M 43 8))]) (by rw [hv2, pk_end hl (by omega) (by omega)]) ?_
    refine c_istoren (ls' := [_, _, _, _]) dX7_cutWord_121 (by decide) rfl rfl ?_
    refine a_aloadn dX7_cutWord_122 rfl ?_
    refine a_iloadn dX7_cutWord_123 rfl ?_
    refine a_callV (as := [_]) (q := 43) dX7_cutWord_124 mvX7_71 ⟨by decide, by decide⟩ (L43 L) rfl rfl rfl (Nat.le_of_ble_eq_true rfl) ⟨rfl, rfl⟩ ⟨by decide, by decide⟩ (m_X7_wordOf hP hL ⟨by omega, by omega⟩) ?_
    refine c_istoren (ls' := [_, _, _, _]) dX7_cutWord_127 (by decide) rfl rfl ?_
    refine a_iloadn dX7_cutWord_128 rfl ?_
    refine a_iconst dX7_cutWord_129 ?_
    refine a_icmp_eq (tgt := 143) dX7_cutWord_130 (by decide) ⟨by omega, by omega⟩ ⟨by omega, by omega⟩ (fun hb130 => ?_) (fun hb130 => ?_)
    · refine a_aloadn dX7_cutWord_143 rfl ?_
      refine a_iconst dX7_cutWord_144 ?_
      refine a_iloadn dX7_cutWord_145 rfl ?_
      refine a_iloadn dX7_cutWord_146 rfl ?_
      refine a_callVv (as := [_, _, _]) (q := 43) dX7_cutWord_147 mvX7_61 ⟨by decide, by decide⟩ (L43 L) rfl rfl rfl (Nat.le_of_ble_eq_true rfl) ⟨rfl, rfl⟩ ⟨by decide, by decide⟩ (m_X7_add hP hs ⟨by omega, by omega⟩ ⟨by omega, by omega⟩ ⟨by omega, by omega⟩) ?_
      exact a_return dX7_cutWord_150 rfl rfl rfl (zdet_V (by rw [if_neg (by omega)]; first | (rw [if_pos (by omega)]; done) | (rw [if_neg (by omega)]; done)))
    · refine a_aloadn dX7_cutWord_133 rfl ?_
      refine a_iconst dX7_cutWord_134 ?_
      refine a_iloadn dX7_cutWord_135 rfl ?_
      refine a_iloadn dX7_cutWord_136 rfl ?_
      refine a_callVv (as := [_, _, _]) (q := 43) dX7_cutWord_137 mvX7_61 ⟨by decide, by decide⟩ (L43 L) rfl rfl rfl (Nat.le_of_ble_eq_true rfl) ⟨rfl, rfl⟩ ⟨by decide, by decide⟩ (m_X7_add hP hs ⟨by omega, by omega⟩ ⟨by omega, by omega⟩ ⟨by omega, by omega⟩) ?_
      refine a_goto (tgt := 150) dX7_cutWord_140 (by decide) ?_
      exact a_return dX7_cutWord_150 rfl rfl rfl (zdet_V (by rw [if_neg (by omega)]; first | (rw [if_pos (by omega)]; done) | (rw [if_neg (by omega)]; done)))
  · refine a_aloadn dX7_cutWord_100 rfl ?_
    refine a_iconst dX7_cutWord_101 ?_
    refine a_iloadn dX7_cutWord_102 rfl ?_
    refine a_iconst dX7_cutWord_103 ?_
    refine a_callVv (as := [_, _, _]) (q := 43) dX7_cutWord_104 mvX7_61 ⟨by decide, by decide⟩ (L43 L) rfl rfl rfl (Nat.le_of_ble_eq_true rfl) ⟨rfl, rfl⟩ ⟨by decide, by decide⟩ (m_X7_add hP hs ⟨by omega, by omega⟩ ⟨by omega, by omega⟩ ⟨by omega, by omega⟩) ?_
    exact a_return dX7_cutWord_107 rfl rfl rfl (zdet_V (by rw [if_pos (by omega)]))

set_option maxRecDepth 100000 in
set_option maxHeartbeats 4000000 in
theorem m_X7_cutWord {G : zG} {l : Launch} {L : Nat} {P : zP} {M : zM}  (hP : PFok P) (hsg : P 43 6 = some 3) (hq : 0 ≤ M 43 8 ∧ M 43 8 < M 43 7 ∧ M 43 7 ≤ 700) (hs : 0 ≤ M 43 4 ∧ M 43 4 < 700) (hL : ∀ k : Int, 0 ≤ k → k < 21 → M 44 k = lngF k) {q e : Int} (eq : q = M 43 8) (ee : e = rnE (loF (M 3)) (M 43 7) q) : AM G l yX7_cutWord mdX7_cutWord [aR 43] (LAY L) P M (zdet none (LAY L) P (if 6 < e - q then adT (sm M 43 8 e) 1 q 0 else if wnF9 (wvF (M 3) q e) = -1 then adT (sm M 43 8 e) 2 q (wvF (M 3) q e) else adT (sm M 43 8 e) 3 q (wnF9 (wvF (M 3) q e)))) := by
  refine AM.go [some (aR 43), none, none, none] rfl (Nat.le_of_ble_eq_true rfl) ?_ (by decide) rfl rfl
  refine a_aloadn dX7_cutWord_0 rfl ?_
  refine b_getI (j' := 8) dX7_cutWord_1 flX7_45 rfl rfl (L43 L) (fun hr1 => ?_)
  refine c_istoren (ls' := [_, _, _, _]) dX7_cutWord_4 (by decide) rfl rfl ?_
  refine a_iconst dX7_cutWord_5 ?_
  refine c_istoren (ls' := [_, _, _, _]) dX7_cutWord_6 (by decide) rfl rfl ?_
  have ei : M = sm M 43 8 (M 43 8) := (sm_id rfl).symm
  have eb := rn_all (loF (M 3)) (n := M 43 7) (p := M 43 8) (by omega)
  refine a_mem (M' := sm M 43 8 (M 43 8)) ei ?_
  refine lpX7_cutWord hP hsg (fr := M 43 8) (by omega) (M 43 7 - M 43 8).toNat (M 43 8) 0 (by omega) (by omega) (fun i h1 h2 => by omega) (by rw [if_pos (by omega), show (M 43 8 - M 43 8).toNat = 0 by omega]; rfl) ?_
  rw [← eq] at eb ⊢
  rw [← ee] at eb ⊢
  have z := tlX7_cutWord (G := G) (l := l) (L := L) (P := P) (M := sm M 43 8 e) (fr := q) (v := pvF (M 3) q (if e - q < 6 then e - q else 6).toNat) hP (by rw [sm_s]; omega) (by rw [sm_k, us_n (by decide)]; omega) (by rw [sm_s, sm_n (by decide)]; exact fun i h1 h2 => loF_1.mp (eb.2.2.1 i h1 h2)) (by
    rw [sm_s, sm_n (by decide)]
    intro h6
    rw [show (if e - q < 6 then e - q else 6).toNat = (e - q).toNat by split <;> omega]) (by rw [sm_n (by decide)]; exact hL)
  rw [sm_s, sm_n (show 3 ≠ 43 by decide)] at z
  exact z
