section ZRLW
/-- the reference's rank of a sign; what grows; what is bound -/
def rRk (k : Int) : Int := if 13 ≤ k then 6 else if 11 ≤ k then 5 else if 5 ≤ k then 4 else if k = 2 then 3 else if k = 3 then 2 else if k = 4 then 1 else 0
def gwM (k a b : Int) (M : zM) : zM := sm (sm (sm (sm (sm (sm M 226 (64 + M 209 19) k) 227 (64 + M 209 19) a) 228 (64 + M 209 19) b) 230 (M 209 40) (M 209 19)) 209 40 (M 209 40 + 1)) 209 19 (M 209 19 + 1)
def dhM (M : zM) : zM := sm M 209 40 (M 209 40 - 1)
def dhV (M : zM) : Int := M 230 (M 209 40 - 1)
def wfM (k : Int) (M : zM) : zM := sm (sm M 229 (M 209 39) k) 209 39 (M 209 39 + 1)
def bd1 (M : zM) : zM := if M 229 (M 209 39 - 1) = 2 then gwM (M 229 (M 209 39 - 1)) (dhV (sm M 209 39 (M 209 39 - 1))) (-1) (dhM (sm M 209 39 (M 209 39 - 1))) else gwM (M 229 (M 209 39 - 1)) (dhV (dhM (sm M 209 39 (M 209 39 - 1)))) (dhV (sm M 209 39 (M 209 39 - 1))) (dhM (dhM (sm M 209 39 (M 209 39 - 1))))
def bdM (r : Int) : Nat → zM → zM
  | 0, M => M
  | n + 1, M => if 0 < M 209 39 ∧ r ≤ rRk (M 229 (M 209 39 - 1)) then bdM r n (bd1 M) else M
/-- how many signs wait; how many of them take two -/
def nzc (f : Int → Int) : Nat → Int
  | 0 => 0
  | n + 1 => nzc f n + if f n ≠ 0 then 1 else 0
def nbc (f : Int → Int) : Nat → Int
  | 0 => 0
  | n + 1 => nbc f n + if f n ≠ 0 ∧ f n ≠ 2 then 1 else 0
theorem nzc_in (f : Int → Int) : ∀ n : Nat, 0 ≤ nzc f n ∧ nzc f n ≤ n
  | 0 => by simp only [nzc]; omega
  | n + 1 => by have := nzc_in f n; simp only [nzc]; split <;> omega
theorem nbc_in (f : Int → Int) : ∀ n : Nat, 0 ≤ nbc f n ∧ nbc f n ≤ nzc f n
  | 0 => by simp only [nbc, nzc]; omega
  | n + 1 => by
    have := nbc_in f n
    simp only [nbc, nzc]
    by_cases a : f n = 0
    · rw [if_neg (fun z => z.1 a), if_neg (fun z => z a)]; omega
    · rw [if_pos a]; split <;> omega
theorem nzc_c {f g : Int → Int} : ∀ n : Nat, (∀ j : Int, 0 ≤ j → j < n → f j = g j) → nzc f n = nzc g n
  | 0, _ => rfl
  | n + 1, h => by simp only [nzc]; rw [nzc_c n (fun j a b => h j a (by omega)), h n (by omega) (by omega)]
theorem nbc_c {f g : Int → Int} : ∀ n : Nat, (∀ j : Int, 0 ≤ j → j < n → f j = g j) → nbc f n = nbc g n
  | 0, _ => rfl
  | n + 1, h => by simp only [nbc]; rw [nbc_c n (fun j a b => h j a (by omega)), h n (by omega) (by omega)]
def BdI (M : zM) : Prop := (0 ≤ M 209 39 ∧ M 209 39 ≤ 72) ∧ M 209 40 = nbc (M 229) (M 209 39).toNat + 1 ∧ 0 ≤ M 209 19 ∧ M 209 19 + nzc (M 229) (M 209 39).toNat ≤ 64
theorem nn_s (f : Int → Int) {w : Int} (h : 0 < w) : nzc f w.toNat = (nzc f (w - 1).toNat + if f (w - 1) ≠ 0 then 1 else 0) ∧ nbc f w.toNat = (nbc f (w - 1).toNat + if f (w - 1) ≠ 0 ∧ f (w - 1) ≠ 2 then 1 else 0) := by
  obtain ⟨m, hm⟩ : ∃ m : Nat, w = (m : Int) + 1 := ⟨(w - 1).toNat, by omega⟩
  have e1 : w.toNat = m + 1 := by omega
  have e2 : (w - 1).toNat = m := by omega
  have e3 : w - 1 = (m : Int) := by omega
  rw [e1, e2, e3]
  simp only [nzc, nbc]
  exact ⟨trivial, trivial⟩
theorem gw_r (k a b : Int) (M : zM) : gwM k a b M 229 = M 229 ∧ gwM k a b M 209 39 = M 209 39 ∧ gwM k a b M 209 40 = M 209 40 + 1 ∧ gwM k a b M 209 19 = M 209 19 + 1 := by
  unfold gwM
  refine ⟨?_, ?_, ?_, ?_⟩ <;> simp (disch := decide) only [sm_n, sm_k, us_s, us_n]
theorem rRk_0 {k : Int} (h : 1 ≤ rRk k) : k ≠ 0 := by
  intro e
  rw [e] at h
  revert h
  decide
theorem BdI.one {M : zM} (h : BdI M) (w : 0 < M 209 39) (r : M 229 (M 209 39 - 1) ≠ 0) : BdI (bd1 M) ∧ bd1 M 209 39 = M 209 39 - 1 := by
  obtain ⟨h1, h2, h3, h4⟩ := h
  obtain ⟨s1, s2⟩ := nn_s (M 229) w
  rw [s1, if_pos r] at h4
  rw [s2] at h2
  have bi := nbc_in (M 229) (M 209 39 - 1).toNat
  unfold bd1
  by_cases e : M 229 (M 209 39 - 1) = 2
  · rw [if_neg (fun z => z.2 e)] at h2
    rw [if_pos e]
    obtain ⟨g1, g2, g3, g4⟩ := gw_r (M 229 (M 209 39 - 1)) (dhV (sm M 209 39 (M 209 39 - 1))) (-1) (dhM (sm M 209 39 (M 209 39 - 1)))
    have d1 : dhM (sm M 209 39 (M 209 39 - 1)) 229 = M 229 := by unfold dhM; simp (disch := decide) only [sm_n]
    have d2 : dhM (sm M 209 39 (M 209 39 - 1)) 209 39 = M 209 39 - 1 := by unfold dhM; simp (disch := decide) only [sm_n, sm_k, us_s, us_n]
    have d3 : dhM (sm M 209 39 (M 209 39 - 1)) 209 40 = M 209 40 - 1 := by unfold dhM; simp (disch := decide) only [sm_n, sm_k, us_s, us_n]
    have d4 : dhM (sm M 209 39 (M 209 39 - 1)) 209 19 = M 209 19 := by unfold dhM; simp (disch := decide) only [sm_n, sm_k, us_s, us_n]
    refine ⟨⟨by rw [g2, d2]; omega, ?_, by rw [g4, d4]; omega, ?_⟩, by rw [g2, d2]⟩
    · rw [g3, d3, g1, d1, g2, d2]; omega
    · rw [g4, d4, g1, d1, g2, d2]; omega
  · rw [if_pos ⟨r, e⟩] at h2
    rw [if_neg e]
    obtain ⟨g1, g2, g3, g4⟩ := gw_r (M 229 (M 209 39 - 1)) (dhV (dhM (sm M 209 39 (M 209 39 - 1)))) (dhV (sm M 209 39 (M 209 39 - 1))) (dhM (dhM (sm M 209 39 (M 209 39 - 1))))
    have d1 : dhM (dhM (sm M 209 39 (M 209 39 - 1))) 229 = M 229 := by unfold dhM; simp (disch := decide) only [sm_n]
    have d2 : dhM (dhM (sm M 209 39 (M 209 39 - 1))) 209 39 = M 209 39 - 1 := by unfold dhM; simp (disch := decide) only [sm_n, sm_k, us_s, us_n]
    have d3 : dhM (dhM (sm M 209 39 (M 209 39 - 1))) 209 40 = M 209 40 - 1 - 1 := by unfold dhM; simp (disch := decide) only [sm_n, sm_k, us_s, us_n]
    have d4 : dhM (dhM (sm M 209 39 (M 209 39 - 1))) 209 19 = M 209 19 := by unfold dhM; simp (disch := decide) only [sm_n, sm_k, us_s, us_n]
    refine ⟨⟨by rw [g2, d2]; omega, ?_, by rw [g4, d4]; omega, ?_⟩, by rw [g2, d2]⟩
    · rw [g3, d3, g1, d1, g2, d2]; omega
    · rw [g4, d4, g1, d1, g2, d2]; omega
end ZRLW

set_option maxRecDepth 100000 in
set_option maxHeartbeats 4000000 in
theorem m_X11_rank {G : zG} {l : Launch} {L : Nat} {P : zP} {M : zM} {k : Int} (hk : inR k) : AM G l yX11_rank mdX11_rank [aI k] (LAY L) P M (zdet (some (aI (rRk k))) (LAY L) P M) := by
  refine AM.go [some (aI k)] rfl (Nat.le_of_ble_eq_true rfl) ?_ (by decide) rfl rfl
  refine a_iloadn dX11_rank_0 rfl ?_
  refine a_bipush (w := 13) dX11_rank_1 (by decide) ?_
  refine a_icmp_lt (tgt := 11) dX11_rank_3 (by decide) ⟨by omega, by omega⟩ ⟨by omega, by omega⟩ (fun hb3 => ?_) (fun hb3 => ?_)
  · refine a_iloadn dX11_rank_11 rfl ?_
    refine a_bipush (w := 11) dX11_rank_12 (by decide) ?_
    refine a_icmp_lt (tgt := 21) dX11_rank_14 (by decide) ⟨by omega, by omega⟩ ⟨by omega, by omega⟩ (fun hb14 => ?_) (fun hb14 => ?_)
    · refine a_iloadn dX11_rank_21 rfl ?_
      refine a_iconst dX11_rank_22 ?_
      refine a_icmp_lt (tgt := 30) dX11_rank_23 (by decide) ⟨by omega, by omega⟩ ⟨by omega, by omega⟩ (fun hb23 => ?_) (fun hb23 => ?_)
      · refine a_iloadn dX11_rank_30 rfl ?_
        refine a_iconst dX11_rank_31 ?_
        refine a_icmp_ne (tgt := 39) dX11_rank_32 (by decide) ⟨by omega, by omega⟩ ⟨by omega, by omega⟩ (fun hb32 => ?_) (fun hb32 => ?_)
        · refine a_iloadn dX11_rank_39 rfl ?_
          refine a_iconst dX11_rank_40 ?_
          refine a_icmp_ne (tgt := 48) dX11_rank_41 (by decide) ⟨by omega, by omega⟩ ⟨by omega, by omega⟩ (fun hb41 => ?_) (fun hb41 => ?_)
          · refine a_iloadn dX11_rank_48 rfl ?_
            refine a_iconst dX11_rank_49 ?_
            refine a_icmp_ne (tgt := 57) dX11_rank_50 (by decide) ⟨by omega, by omega⟩ ⟨by omega, by omega⟩ (fun hb50 => ?_) (fun hb50 => ?_)
            · refine a_iconst dX11_rank_57 ?_
              exact a_ireturn dX11_rank_58 rfl rfl rfl (zdet_I (by unfold rRk; repeat (first | rw [if_pos (by omega)] | rw [if_neg (by omega)])) rfl)
            · refine a_iconst dX11_rank_53 ?_
              refine a_goto (tgt := 58) dX11_rank_54 (by decide) ?_
              exact a_ireturn dX11_rank_58 rfl rfl rfl (zdet_I (by unfold rRk; repeat (first | rw [if_pos (by omega)] | rw [if_neg (by omega)])) rfl)
          · refine a_iconst dX11_rank_44 ?_
            refine a_goto (tgt := 58) dX11_rank_45 (by decide) ?_
            exact a_ireturn dX11_rank_58 rfl rfl rfl (zdet_I (by unfold rRk; repeat (first | rw [if_pos (by omega)] | rw [if_neg (by omega)])) rfl)
        · refine a_iconst dX11_rank_35 ?_
          refine a_goto (tgt := 58) dX11_rank_36 (by decide) ?_
          exact a_ireturn dX11_rank_58 rfl rfl rfl (zdet_I (by unfold rRk; repeat (first | rw [if_pos (by omega)] | rw [if_neg (by omega)])) rfl)
      · refine a_iconst dX11_rank_26 ?_
        refine a_goto (tgt := 58) dX11_rank_27 (by decide) ?_
        exact a_ireturn dX11_rank_58 rfl rfl rfl (zdet_I (by unfold rRk; repeat (first | rw [if_pos (by omega)] | rw [if_neg (by omega)])) rfl)
    · refine a_iconst dX11_rank_17 ?_
      refine a_goto (tgt := 58) dX11_rank_18 (by decide) ?_
      exact a_ireturn dX11_rank_58 rfl rfl rfl (zdet_I (by unfold rRk; repeat (first | rw [if_pos (by omega)] | rw [if_neg (by omega)])) rfl)
  · refine a_bipush (w := 6) dX11_rank_6 (by decide) ?_
    refine a_goto (tgt := 58) dX11_rank_8 (by decide) ?_
    exact a_ireturn dX11_rank_58 rfl rfl rfl (zdet_I (by unfold rRk; repeat (first | rw [if_pos (by omega)] | rw [if_neg (by omega)])) rfl)

set_option maxRecDepth 100000 in
set_option maxHeartbeats 4000000 in
theorem m_X11_grown {G : zG} {l : Launch} {L : Nat} {P : zP} {M : zM} {k a b : Int} (hP : PFok P) (hk : inR k) (ha : inR a) (hb : inR b) (h19 : 0 ≤ M 209 19 ∧ M 209 19 < 64) (h40 : 0 ≤ M 209 40 ∧ M 209 40 < 96) : AM G l yX11_grown mdX11_grown [aR 209, aI k, aI a, aI b] (LAY L) P M (zdet none (LAY L) P (gwM k a b M)) := by
  refine AM.go [some (aR 209), some (aI k), some (aI a), some (aI b)] rfl (Nat.le_of_ble_eq_true rfl) ?_ (by decide) rfl rfl
  refine a_aloadn dX11_grown_0 rfl ?_
  refine a_getR (j' := 34) (y := 226) dX11_grown_1 flX11_63 rfl rfl (L209 L) (p209_34 hP) ?_
  refine a_bipush (w := 64) dX11_grown_4 (by decide) ?_
  refine a_aloadn dX11_grown_6 rfl ?_
  refine b_getI (j' := 19) dX11_grown_7 flX11_195 rfl rfl (L209 L) (fun hr7 => ?_)
  refine a_iadd dX11_grown_10 ?_
  refine a_iloadn dX11_grown_11 rfl ?_
  refine a_iast (N := 128) dX11_grown_12 (L226 L) (by decide) (by decide) (by omega) (by omega) hk ?_
  refine a_aloadn dX11_grown_13 rfl ?_
  refine a_getR (j' := 35) (y := 227) dX11_grown_14 flX11_66 rfl rfl (L209 L) (p209_35 hP) ?_
  refine a_bipush (w := 64) dX11_grown_17 (by decide) ?_
  refine a_aloadn dX11_grown_19 rfl ?_
  refine b_getI (j' := 19) dX11_grown_20 flX11_195 rfl rfl (L209 L) (fun hr20 => ?_)
  refine a_iadd dX11_grown_23 ?_
  refine a_iloadn dX11_grown_24 rfl ?_
  refine a_iast (N := 128) dX11_grown_25 (L227 L) (by decide) (by decide) (by simp (disch := decide) only [sm_n]; omega) (by simp (disch := decide) only [sm_n]; omega) ha ?_
  refine a_aloadn dX11_grown_26 rfl ?_
  refine a_getR (j' := 36) (y := 228) dX11_grown_27 flX11_69 rfl rfl (L209 L) (p209_36 hP) ?_
  refine a_bipush (w := 64) dX11_grown_30 (by decide) ?_
  refine a_aloadn dX11_grown_32 rfl ?_
  refine b_getI (j' := 19) dX11_grown_33 flX11_195 rfl rfl (L209 L) (fun hr33 => ?_)
  refine a_iadd dX11_grown_36 ?_
  refine a_iloadn dX11_grown_37 rfl ?_
  refine a_iast (N := 128) dX11_grown_38 (L228 L) (by decide) (by decide) (by simp (disch := decide) only [sm_n]; omega) (by simp (disch := decide) only [sm_n]; omega) hb ?_
  refine a_aloadn dX11_grown_39 rfl ?_
  refine a_getR (j' := 38) (y := 230) dX11_grown_40 flX11_75 rfl rfl (L209 L) (p209_38 hP) ?_
  refine a_aloadn dX11_grown_43 rfl ?_
  refine b_getI (j' := 40) dX11_grown_44 flX11_246 rfl rfl (L209 L) (fun hr44 => ?_)
  refine a_aloadn dX11_grown_47 rfl ?_
  refine b_getI (j' := 19) dX11_grown_48 flX11_195 rfl rfl (L209 L) (fun hr48 => ?_)
  refine a_iast (N := 96) dX11_grown_51 (L230 L) (by decide) (by decide) (by simp (disch := decide) only [sm_n]; omega) (by simp (disch := decide) only [sm_n]; omega) hr48 ?_
  refine a_aloadn dX11_grown_52 rfl ?_
  refine a_dupR dX11_grown_53 ?_
  refine b_getI (j' := 40) dX11_grown_54 flX11_246 rfl rfl (L209 L) (fun hr54 => ?_)
  refine a_iconst dX11_grown_57 ?_
  refine a_iadd dX11_grown_58 ?_
  refine a_putI (j' := 40) dX11_grown_59 flX11_246 rfl rfl (L209 L) (by decide) rfl (by simp (disch := decide) only [sm_n]; exact ⟨by omega, by omega⟩) ?_
  refine a_aloadn dX11_grown_62 rfl ?_
  refine a_dupR dX11_grown_63 ?_
  refine b_getI (j' := 19) dX11_grown_64 flX11_195 rfl rfl (L209 L) (fun hr64 => ?_)
  refine a_iconst dX11_grown_67 ?_
  refine a_iadd dX11_grown_68 ?_
  refine a_putI (j' := 19) dX11_grown_69 flX11_195 rfl rfl (L209 L) (by decide) rfl (by simp (disch := decide) only [sm_n, sm_k, us_n]; exact ⟨by omega, by omega⟩) ?_
  exact a_return dX11_grown_72 rfl rfl rfl (zdet_V (by unfold gwM; simp (disch := decide) only [sm_n, sm_k, us_s, us_n]))

set_option maxRecDepth 100000 in
set_option maxHeartbeats 4000000 in
theorem m_X11_dropHeld {G : zG} {l : Launch} {L : Nat} {P : zP} {M : zM}  (hP : PFok P) (h40 : 0 < M 209 40 ∧ M 209 40 ≤ 96) : AM G l yX11_dropHeld mdX11_dropHeld [aR 209] (LAY L) P M (zany (LAY L) P (fun r M' => r = dhV M ∧ M' = dhM M ∧ inR r)) := by
  refine AM.go [some (aR 209)] rfl (Nat.le_of_ble_eq_true rfl) ?_ (by decide) rfl rfl
  refine a_aloadn dX11_dropHeld_0 rfl ?_
  refine a_dupR dX11_dropHeld_1 ?_
  refine b_getI (j' := 40) dX11_dropHeld_2 flX11_246 rfl rfl (L209 L) (fun hr2 => ?_)
  refine a_iconst dX11_dropHeld_5 ?_
  refine a_isub dX11_dropHeld_6 ?_
  refine a_putI (j' := 40) dX11_dropHeld_7 flX11_246 rfl rfl (L209 L) (by decide) rfl ⟨by omega, by omega⟩ ?_
  refine a_aloadn dX11_dropHeld_10 rfl ?_
  refine a_getR (j' := 38) (y := 230) dX11_dropHeld_11 flX11_75 rfl rfl (L209 L) (p209_38 hP) ?_
  refine a_aloadn dX11_dropHeld_14 rfl ?_
  refine b_getI (j' := 40) dX11_dropHeld_15 flX11_246 rfl rfl (L209 L) (fun hr15 => ?_)
  refine b_iald (N := 96) dX11_dropHeld_18 (L230 L) (by decide) (by simp (disch := decide) only [sm_k, us_s]; omega) (by simp (disch := decide) only [sm_k, us_s]; omega) (fun hr18 => ?_)
  have ed : sm M 209 40 (M 209 40 - 1) 230 (sm M 209 40 (M 209 40 - 1) 209 40) = dhV M := by unfold dhV; simp (disch := decide) only [sm_n, sm_k, us_s]
  exact a_ireturn dX11_dropHeld_19 rfl rfl rfl (zany_i ⟨ed, rfl, hr18⟩)

set_option maxRecDepth 100000 in
set_option maxHeartbeats 4000000 in
theorem m_X11_isCounted {G : zG} {l : Launch} {L : Nat} {P : zP} {M : zM}  (h42 : 0 ≤ M 209 42 ∧ M 209 42 ≤ 64) : AM G l yX11_isCounted mdX11_isCounted [aR 209] (LAY L) P M (zdet (some (aI (if M 209 42 = 64 then 0 else 1))) (LAY L) P (if M 209 42 = 64 then sm (sm M 209 4 2) 209 5 (M 209 10) else sm M 209 42 (M 209 42 + 1))) := by
  refine AM.go [some (aR 209)] rfl (Nat.le_of_ble_eq_true rfl) ?_ (by decide) rfl rfl
  refine a_aloadn dX11_isCounted_0 rfl ?_
  refine b_getI (j' := 42) dX11_isCounted_1 flX11_198 rfl rfl (L209 L) (fun hr1 => ?_)
  refine a_bipush (w := 64) dX11_isCounted_4 (by decide) ?_
  refine a_icmp_ne (tgt := 15) dX11_isCounted_6 (by decide) ⟨by omega, by omega⟩ ⟨by omega, by omega⟩ (fun hb6 => ?_) (fun hb6 => ?_)
  · refine a_aloadn dX11_isCounted_15 rfl ?_
    refine a_dupR dX11_isCounted_16 ?_
    refine b_getI (j' := 42) dX11_isCounted_17 flX11_198 rfl rfl (L209 L) (fun hr17 => ?_)
    refine a_iconst dX11_isCounted_20 ?_
    refine a_iadd dX11_isCounted_21 ?_
    refine a_putI (j' := 42) dX11_isCounted_22 flX11_198 rfl rfl (L209 L) (by decide) rfl ⟨by omega, by omega⟩ ?_
    refine a_iconst dX11_isCounted_25 ?_
    exact a_zreturn dX11_isCounted_26 rfl rfl rfl (by omega) (zdet_I (by rw [if_neg (by omega)]) (by rw [if_neg (by omega)]))
  · refine a_aloadn dX11_isCounted_9 rfl ?_
    refine a_iconst dX11_isCounted_10 ?_
    refine a_callV (as := [_]) (q := 209) dX11_isCounted_11 mvX11_166 ⟨by decide, by decide⟩ (L209 L) rfl rfl rfl (Nat.le_of_ble_eq_true rfl) ⟨rfl, rfl⟩ ⟨by decide, by decide⟩ (m_X11_wrong ⟨by omega, by omega⟩) ?_
    exact a_zreturn dX11_isCounted_14 rfl rfl rfl (by omega) (zdet_I (by rw [if_pos (by omega)]) (by rw [if_pos (by omega)]))

set_option maxRecDepth 100000 in
set_option maxHeartbeats 4000000 in
theorem m_X11_waitsFor {G : zG} {l : Launch} {L : Nat} {P : zP} {M : zM} {k : Int} (hP : PFok P) (hk : inR k) (h39 : 0 ≤ M 209 39 ∧ M 209 39 < 96) : AM G l yX11_waitsFor mdX11_waitsFor [aR 209, aI k] (LAY L) P M (zdet none (LAY L) P (wfM k M)) := by
  refine AM.go [some (aR 209), some (aI k)] rfl (Nat.le_of_ble_eq_true rfl) ?_ (by decide) rfl rfl
  refine a_aloadn dX11_waitsFor_0 rfl ?_
  refine a_getR (j' := 37) (y := 229) dX11_waitsFor_1 flX11_72 rfl rfl (L209 L) (p209_37 hP) ?_
  refine a_aloadn dX11_waitsFor_4 rfl ?_
  refine b_getI (j' := 39) dX11_waitsFor_5 flX11_249 rfl rfl (L209 L) (fun hr5 => ?_)
  refine a_iloadn dX11_waitsFor_8 rfl ?_
  refine a_iast (N := 96) dX11_waitsFor_9 (L229 L) (by decide) (by decide) (by omega) (by omega) hk ?_
  refine a_aloadn dX11_waitsFor_10 rfl ?_
  refine a_dupR dX11_waitsFor_11 ?_
  refine b_getI (j' := 39) dX11_waitsFor_12 flX11_249 rfl rfl (L209 L) (fun hr12 => ?_)
  refine a_iconst dX11_waitsFor_15 ?_
  refine a_iadd dX11_waitsFor_16 ?_
  refine a_putI (j' := 39) dX11_waitsFor_17 flX11_249 rfl rfl (L209 L) (by decide) rfl (by simp (disch := decide) only [sm_n]; exact ⟨by omega, by omega⟩) ?_
  exact a_return dX11_waitsFor_20 rfl rfl rfl (zdet_V (by unfold wfM; simp (disch := decide) only [sm_n]))

set_option maxRecDepth 100000 in
set_option maxHeartbeats 4000000 in
theorem m_X11_nameMet {G : zG} {l : Launch} {L : Nat} {P : zP} {M : zM}   : AM G l yX11_nameMet mdX11_nameMet [aR 209] (LAY L) P M (zdet (some (aI (if M 209 8 = 1 ∧ 14 ≤ M 209 9 then M 209 9 - 14 else -1))) (LAY L) P M) := by
  refine AM.go [some (aR 209)] rfl (Nat.le_of_ble_eq_true rfl) ?_ (by decide) rfl rfl
  refine a_aloadn dX11_nameMet_0 rfl ?_
  refine b_getI (j' := 8) dX11_nameMet_1 flX11_142 rfl rfl (L209 L) (fun hr1 => ?_)
  refine a_iconst dX11_nameMet_4 ?_
  refine a_icmp_ne (tgt := 27) dX11_nameMet_5 (by decide) ⟨by omega, by omega⟩ ⟨by omega, by omega⟩ (fun hb5 => ?_) (fun hb5 => ?_)
  · refine a_iconst dX11_nameMet_27 ?_
    exact a_ireturn dX11_nameMet_28 rfl rfl rfl (zdet_I (by first | (rw [if_pos (by omega)]; done) | (rw [if_neg (by omega)]; done)) rfl)
  · refine a_aloadn dX11_nameMet_8 rfl ?_
    refine b_getI (j' := 9) dX11_nameMet_9 flX11_153 rfl rfl (L209 L) (fun hr9 => ?_)
    refine a_bipush (w := 14) dX11_nameMet_12 (by decide) ?_
    refine a_icmp_lt (tgt := 27) dX11_nameMet_14 (by decide) ⟨by omega, by omega⟩ ⟨by omega, by omega⟩ (fun hb14 => ?_) (fun hb14 => ?_)
    · refine a_iconst dX11_nameMet_27 ?_
      exact a_ireturn dX11_nameMet_28 rfl rfl rfl (zdet_I (by first | (rw [if_pos (by omega)]; done) | (rw [if_neg (by omega)]; done)) rfl)
    · refine a_aloadn dX11_nameMet_17 rfl ?_
      refine b_getI (j' := 9) dX11_nameMet_18 flX11_153 rfl rfl (L209 L) (fun hr18 => ?_)
      refine a_bipush (w := 14) dX11_nameMet_21 (by decide) ?_
      refine a_isub dX11_nameMet_23 ?_
      refine a_goto (tgt := 28) dX11_nameMet_24 (by decide) ?_
      exact a_ireturn dX11_nameMet_28 rfl rfl rfl (zdet_I (by first | (rw [if_pos (by omega)]; done) | (rw [if_neg (by omega)]; done)) rfl)
