set_option maxRecDepth 100000 in
set_option maxHeartbeats 4000000 in
theorem lpX5_copy {G : zG} {l : Launch} {L : Nat} {P : zP} {M0 : zM} {a b : Nat} (hS : StA L P a) (hB : StA L P b) (hab : a + 6 ≤ b ∨ b + 6 ≤ a) : ∀ (n : Nat) (i : Int) (M : zM) (g0 : 0 ≤ i) (g1 : i + n = 6) (hF : Fa a M0 M) (hj : ∀ j : Int, 0 ≤ j → j < i → M (a + 1) j = M0 (b + 1) j ∧ M (a + 2) j = M0 (b + 2) j ∧ M (a + 3) j = M0 (b + 3) j ∧ M (a + 4) j = M0 (b + 4) j), AW G l mdX5_copy (zrel none (LAY L) P (CyR M0 a b)) 2 [some (aR a), some (aR b), some (aI i)] [] (LAY L) P M 0 0 := by
  intro n
  induction n with
  | zero =>
    intro i M g0 g1 hF hj
    refine a_iloadn dX5_copy_2 rfl ?_
    refine a_bipush (w := 6) dX5_copy_3 (by decide) ?_
    refine a_icmp_ge (tgt := 62) dX5_copy_5 (by decide) ⟨by omega, by omega⟩ ⟨by omega, by omega⟩ (fun hb5 => ?_) (fun hb5 => ?_)
    · refine a_aloadn dX5_copy_62 rfl ?_
      refine a_getR (j' := 4) (y := (b + 5)) dX5_copy_63 flX5_24 rfl rfl hB.2.1 hB.2.2.2.2.2.2.2 ?_
      refine a_iconst dX5_copy_66 ?_
      refine a_aloadn dX5_copy_67 rfl ?_
      refine a_getR (j' := 4) (y := (a + 5)) dX5_copy_68 flX5_24 rfl rfl hS.2.1 hS.2.2.2.2.2.2.2 ?_
      refine a_iconst dX5_copy_71 ?_
      refine a_aloadn dX5_copy_72 rfl ?_
      refine a_getR (j' := 4) (y := (a + 5)) dX5_copy_73 flX5_24 rfl rfl hS.2.1 hS.2.2.2.2.2.2.2 ?_
      refine a_alen (w := 36) dX5_copy_76 hS.2.2.2.2.2.2.1 (by decide) rfl ?_
      refine c_acopy (q1 := (b + 5)) (q2 := (a + 5)) (N := 36) dX5_copy_77 rfl (by have h9 := hB.1; omega) (by have h9 := hS.1; omega) hB.2.2.2.2.2.2.1 hS.2.2.2.2.2.2.1 (by decide) (Nat.le_of_ble_eq_true rfl) (Nat.le_of_ble_eq_true rfl) ⟨by decide, by decide⟩ (by rfl) ?_
      refine a_aloadn dX5_copy_80 rfl ?_
      refine a_aloadn dX5_copy_81 rfl ?_
      refine b_getI (j' := 5) dX5_copy_82 flX5_35 rfl rfl hB.2.1 (fun hr82 => ?_)
      have e82 : cpM M (b + 5) (a + 5) 36 b 5 = M0 b 5 := by unfold cpM; rw [ur_n (by omega), hF b (by omega)]
      rw [e82] at hr82
      rw [e82]
      refine a_putI (j' := 5) dX5_copy_85 flX5_35 rfl rfl hS.2.1 hS.1 rfl hr82 ?_
      refine a_aloadn dX5_copy_88 rfl ?_
      refine a_aloadn dX5_copy_89 rfl ?_
      refine b_getI (j' := 6) dX5_copy_90 flX5_41 rfl rfl hB.2.1 (fun hr90 => ?_)
      have e90 : sm (cpM M (b + 5) (a + 5) 36) a 5 (M0 b 5) b 6 = M0 b 6 := by rw [sm_n (by omega)]; unfold cpM; rw [ur_n (by omega), hF b (by omega)]
      rw [e90] at hr90
      rw [e90]
      refine a_putI (j' := 6) dX5_copy_93 flX5_41 rfl rfl hS.2.1 hS.1 rfl hr90 ?_
      have hr : CyR M0 a b (sm (sm (cpM M (b + 5) (a + 5) 36) a 5 (M0 b 5)) a 6 (M0 b 6)) := by
        refine ⟨fun j j0 j1 => ?_, fun j j0 j1 => ?_, ?_, ?_, fun k hk => ?_⟩
        · have h9 := hj j j0 (by omega)
          rw [sm_n (by omega), sm_n (by omega), sm_n (by omega), sm_n (by omega), sm_n (by omega), sm_n (by omega), sm_n (by omega), sm_n (by omega)]
          unfold cpM
          rw [ur_n (by omega), ur_n (by omega), ur_n (by omega), ur_n (by omega)]
          exact h9
        · rw [sm_n (by omega), sm_n (by omega)]
          unfold cpM
          rw [ur_s, if_pos ⟨j0, by omega⟩, hF (b + 5) (by omega)]
        · rw [sm_k, us_n (by decide), sm_s]
        · rw [sm_s]
        · rw [sm_n (by omega), sm_n (by omega)]
          unfold cpM
          rw [ur_n (by omega)]
          exact hF k hk
      exact a_return dX5_copy_96 rfl rfl rfl (zrel_V hr)
    · exfalso; omega
  | succ n ih =>
    intro i M g0 g1 hF hj
    refine a_iloadn dX5_copy_2 rfl ?_
    refine a_bipush (w := 6) dX5_copy_3 (by decide) ?_
    refine a_icmp_ge (tgt := 62) dX5_copy_5 (by decide) ⟨by omega, by omega⟩ ⟨by omega, by omega⟩ (fun hb5 => ?_) (fun hb5 => ?_)
    · exfalso; omega
    · refine a_aloadn dX5_copy_8 rfl ?_
      refine a_getR (j' := 0) (y := (a + 1)) dX5_copy_9 flX5_9 rfl rfl hS.2.1 hS.2.2.1.2 ?_
      refine a_iloadn dX5_copy_12 rfl ?_
      refine a_aloadn dX5_copy_13 rfl ?_
      refine a_getR (j' := 0) (y := (b + 1)) dX5_copy_14 flX5_9 rfl rfl hB.2.1 hB.2.2.1.2 ?_
      refine a_iloadn dX5_copy_17 rfl ?_
      refine b_iald (N := 6) dX5_copy_18 hB.2.2.1.1 (by decide) (by omega) (by omega) (fun hr18 => ?_)
      have e18 : M (b + 1) i = M0 (b + 1) i := by rw [hF (b + 1) (by omega)]
      rw [e18] at hr18
      rw [e18]
      refine a_iast (N := 6) dX5_copy_19 hS.2.2.1.1 (by have h9 := hS.1; omega) (by decide) (by omega) (by omega) hr18 ?_
      refine a_aloadn dX5_copy_20 rfl ?_
      refine a_getR (j' := 1) (y := (a + 2)) dX5_copy_21 flX5_15 rfl rfl hS.2.1 hS.2.2.2.1.2 ?_
      refine a_iloadn dX5_copy_24 rfl ?_
      refine a_aloadn dX5_copy_25 rfl ?_
      refine a_getR (j' := 1) (y := (b + 2)) dX5_copy_26 flX5_15 rfl rfl hB.2.1 hB.2.2.2.1.2 ?_
      refine a_iloadn dX5_copy_29 rfl ?_
      refine b_iald (N := 6) dX5_copy_30 hB.2.2.2.1.1 (by decide) (by omega) (by omega) (fun hr30 => ?_)
      have e30 : (sm M (a + 1) i (M0 (b + 1) i)) (b + 2) i = M0 (b + 2) i := by rw [sm_n (by omega), hF (b + 2) (by omega)]
      rw [e30] at hr30
      rw [e30]
      refine a_iast (N := 6) dX5_copy_31 hS.2.2.2.1.1 (by have h9 := hS.1; omega) (by decide) (by omega) (by omega) hr30 ?_
      refine a_aloadn dX5_copy_32 rfl ?_
      refine a_getR (j' := 2) (y := (a + 3)) dX5_copy_33 flX5_18 rfl rfl hS.2.1 hS.2.2.2.2.1.2 ?_
      refine a_iloadn dX5_copy_36 rfl ?_
      refine a_aloadn dX5_copy_37 rfl ?_
      refine a_getR (j' := 2) (y := (b + 3)) dX5_copy_38 flX5_18 rfl rfl hB.2.1 hB.2.2.2.2.1.2 ?_
      refine a_iloadn dX5_copy_41 rfl ?_
      refine b_iald (N := 6) dX5_copy_42 hB.2.2.2.2.1.1 (by decide) (by omega) (by omega) (fun hr42 => ?_)
      have e42 : (sm (sm M (a + 1) i (M0 (b + 1) i)) (a + 2) i (M0 (b + 2) i)) (b + 3) i = M0 (b + 3) i := by rw [sm_n (by omega), sm_n (by omega), hF (b + 3) (by omega)]
      rw [e42] at hr42
      rw [e42]
      refine a_iast (N := 6) dX5_copy_43 hS.2.2.2.2.1.1 (by have h9 := hS.1; omega) (by decide) (by omega) (by omega) hr42 ?_
      refine a_aloadn dX5_copy_44 rfl ?_
      refine a_getR (j' := 3) (y := (a + 4)) dX5_copy_45 flX5_21 rfl rfl hS.2.1 hS.2.2.2.2.2.1.2 ?_
      refine a_iloadn dX5_copy_48 rfl ?_
      refine a_aloadn dX5_copy_49 rfl ?_
      refine a_getR (j' := 3) (y := (b + 4)) dX5_copy_50 flX5_21 rfl rfl hB.2.1 hB.2.2.2.2.2.1.2 ?_
      refine a_iloadn dX5_copy_53 rfl ?_
      refine b_iald (N := 6) dX5_copy_54 hB.2.2.2.2.2.1.1 (by decide) (by omega) (by omega) (fun hr54 => ?_)
      have e54 : (sm (sm (sm M (a + 1) i (M0 (b + 1) i)) (a + 2) i (M0 (b + 2) i)) (a + 3) i (M0 (b + 3) i)) (b + 4) i = M0 (b + 4) i := by rw [sm_n (by omega), sm_n (by omega), sm_n (by omega), hF (b + 4) (by omega)]
      rw [e54] at hr54
      rw [e54]
      refine a_iast (N := 6) dX5_copy_55 hS.2.2.2.2.2.1.1 (by have h9 := hS.1; omega) (by decide) (by omega) (by omega) hr54 ?_
      refine c_iinc (ls' := [_, _, _]) dX5_copy_56 rfl (by decide) rfl rfl ?_
      refine a_goto (tgt := 2) dX5_copy_59 (by decide) ?_
      refine ih _ _ (by omega) (by omega) ((((hF.sm (by omega) _ _).sm (by omega) _ _).sm (by omega) _ _).sm (by omega) _ _) (fun j j0 j1 => ?_)
      by_cases ej : j = i
      · subst ej
        refine ⟨?_, ?_, ?_, ?_⟩
        · rw [sm_n (by omega), sm_n (by omega), sm_n (by omega), sm_s]
        · rw [sm_n (by omega), sm_n (by omega), sm_s]
        · rw [sm_n (by omega), sm_s]
        · rw [sm_s]
      · have h9 := hj j j0 (by omega)
        refine ⟨?_, ?_, ?_, ?_⟩
        · rw [sm_n (by omega), sm_n (by omega), sm_n (by omega), sm_k, us_n ej]; exact h9.1
        · rw [sm_n (by omega), sm_n (by omega), sm_k, us_n ej, sm_n (by omega)]; exact h9.2.1
        · rw [sm_n (by omega), sm_k, us_n ej, sm_n (by omega), sm_n (by omega)]; exact h9.2.2.1
        · rw [sm_k, us_n ej, sm_n (by omega), sm_n (by omega), sm_n (by omega)]; exact h9.2.2.2

set_option maxRecDepth 100000 in
set_option maxHeartbeats 4000000 in
theorem m_X5_copy {G : zG} {l : Launch} {L : Nat} {P : zP} {M : zM} {a b : Nat} (hS : StA L P a) (hB : StA L P b) (hab : a + 6 ≤ b ∨ b + 6 ≤ a) : AM G l yX5_copy mdX5_copy [aR a, aR b] (LAY L) P M (zrel none (LAY L) P (CyR M a b)) := by
  refine AM.go [some (aR a), some (aR b), none] rfl (Nat.le_of_ble_eq_true rfl) ?_ (by decide) rfl rfl
  refine a_iconst dX5_copy_0 ?_
  refine c_istoren (ls' := [_, _, _]) dX5_copy_1 (by decide) rfl rfl ?_
  exact lpX5_copy hS hB hab 6 0 M (by omega) (by omega) (Fa.rf a M) (fun j j0 j1 => by omega)

/-- gains from i on are 9 -/
def sgM (a : Nat) : Nat → Int → zM → zM
  | 0, _, M => M
  | n + 1, i, M => sgM a n (i + 1) (sm M (a + 2) i 9)

set_option maxRecDepth 100000 in
set_option maxHeartbeats 4000000 in
theorem lpX5_strengthen {G : zG} {l : Launch} {L : Nat} {P : zP} {a : Nat} {hs : Int} (hS : StA L P a) (hh : 0 ≤ hs ∧ hs ≤ 6) : ∀ (n : Nat) (i : Int) (M : zM) (g0 : 0 ≤ i) (g1 : i + n = hs), AW G l mdX5_strengthen (zdet none (LAY L) P (sgM a n i M)) 2 [some (aR a), some (aI hs), some (aI i)] [] (LAY L) P M 0 0 := by
  intro n
  induction n with
  | zero =>
    intro i M g0 g1
    refine a_iloadn dX5_strengthen_2 rfl ?_
    refine a_iloadn dX5_strengthen_3 rfl ?_
    refine a_icmp_ge (tgt := 21) dX5_strengthen_4 (by decide) ⟨by omega, by omega⟩ ⟨by omega, by omega⟩ (fun hb4 => ?_) (fun hb4 => ?_)
    · exact a_return dX5_strengthen_21 rfl rfl rfl (zdet_V rfl)
    · exfalso; omega
  | succ n ih =>
    intro i M g0 g1
    refine a_iloadn dX5_strengthen_2 rfl ?_
    refine a_iloadn dX5_strengthen_3 rfl ?_
    refine a_icmp_ge (tgt := 21) dX5_strengthen_4 (by decide) ⟨by omega, by omega⟩ ⟨by omega, by omega⟩ (fun hb4 => ?_) (fun hb4 => ?_)
    · exfalso; omega
    · refine a_aloadn dX5_strengthen_7 rfl ?_
      refine a_getR (j' := 1) (y := (a + 2)) dX5_strengthen_8 flX5_15 rfl rfl hS.2.1 hS.2.2.2.1.2 ?_
      refine a_iloadn dX5_strengthen_11 rfl ?_
      refine a_bipush (w := 9) dX5_strengthen_12 (by decide) ?_
      refine a_iast (N := 6) dX5_strengthen_14 hS.2.2.2.1.1 (by have h9 := hS.1; omega) (by decide) (by omega) (by omega) ⟨by omega, by omega⟩ ?_
      refine c_iinc (ls' := [_, _, _]) dX5_strengthen_15 rfl (by decide) rfl rfl ?_
      refine a_goto (tgt := 2) dX5_strengthen_18 (by decide) ?_
      exact ih _ _ (by omega) (by omega)

set_option maxRecDepth 100000 in
set_option maxHeartbeats 4000000 in
theorem m_X5_strengthen {G : zG} {l : Launch} {L : Nat} {P : zP} {M : zM} {a : Nat} {hs : Int} (hS : StA L P a) (hh : 0 ≤ hs ∧ hs ≤ 6) : AM G l yX5_strengthen mdX5_strengthen [aR a, aI hs] (LAY L) P M (zdet none (LAY L) P (sgM a hs.toNat 0 M)) := by
  refine AM.go [some (aR a), some (aI hs), none] rfl (Nat.le_of_ble_eq_true rfl) ?_ (by decide) rfl rfl
  refine a_iconst dX5_strengthen_0 ?_
  refine c_istoren (ls' := [_, _, _]) dX5_strengthen_1 (by decide) rfl rfl ?_
  exact lpX5_strengthen hS hh hs.toNat 0 M (by omega) (by omega)

set_option maxRecDepth 100000 in
set_option maxHeartbeats 4000000 in
theorem lpX5_firstTwo_in {G : zG} {l : Launch} {L : Nat} {P : zP} {M : zM} {a : Nat} {hs one : Int} {Z : Int → zZ} {R9 : Int} (hS : StA L P a) (hh : 0 ≤ hs ∧ hs ≤ 6) (o0 : 0 ≤ one) (o1 : one < 6) (kr : ∀ r : Int, Z r (some (aI r)) (LAY L) P M) : ∀ (n : Nat) (j : Int) (g0 : one < j) (g1 : j + n = hs) (kk : z2in (M (a + 3)) one n j = none → AW G l mdX5_firstTwo (Z R9) 47 [some (aR a), some (aI hs), some (aI one), none] [] (LAY L) P M 0 0) (ks : ∀ r, z2in (M (a + 3)) one n j = some r → R9 = r), AW G l mdX5_firstTwo (Z R9) 11 [some (aR a), some (aI hs), some (aI one), some (aI j)] [] (LAY L) P M 0 0 := by
  intro n
  induction n with
  | zero =>
    intro j g0 g1 kk ks
    refine a_iloadn dX5_firstTwo_11 rfl ?_
    refine a_iloadn dX5_firstTwo_12 rfl ?_
    refine a_icmp_ge (tgt := 47) dX5_firstTwo_13 (by decide) ⟨by omega, by omega⟩ ⟨by omega, by omega⟩ (fun hb13 => ?_) (fun hb13 => ?_)
    · refine a_forget [3] (ls' := [_, _, _, none]) rfl (kk rfl)
    · exfalso; omega
  | succ n ih =>
    intro j g0 g1 kk ks
    refine a_iloadn dX5_firstTwo_11 rfl ?_
    refine a_iloadn dX5_firstTwo_12 rfl ?_
    refine a_icmp_ge (tgt := 47) dX5_firstTwo_13 (by decide) ⟨by omega, by omega⟩ ⟨by omega, by omega⟩ (fun hb13 => ?_) (fun hb13 => ?_)
    · exfalso; omega
    · refine a_aloadn dX5_firstTwo_16 rfl ?_
      refine a_iloadn dX5_firstTwo_17 rfl ?_
      refine a_iloadn dX5_firstTwo_18 rfl ?_
      refine a_callV (as := [_, _]) (q := a) dX5_firstTwo_19 mvX5_60 ⟨by decide, by decide⟩ hS.2.1 rfl rfl rfl (Nat.le_of_ble_eq_true rfl) ⟨rfl, rfl⟩ ⟨by decide, by decide⟩ (m_X5_isKnown hS o0 o1) ?_
      refine a_if_eq (tgt := 41) dX5_firstTwo_22 (by decide) (by have q := kbit01 (M (a + 3) one) j; exact ⟨by omega, by omega⟩) (fun hb22 => ?_) (fun hb22 => ?_)
      · have qa := kbit01 (M (a + 3) one) j
        have qb := kbit01 (M (a + 3) j) one
        refine c_iinc (ls' := [_, _, _, _]) dX5_firstTwo_41 rfl (by decide) rfl rfl ?_
        refine a_goto (tgt := 11) dX5_firstTwo_44 (by decide) ?_
        refine ih _ (by omega) (by omega) (fun z => kk ?_) (fun r z => ks r ?_)
        · simp only [z2in]
          rw [if_neg (by omega)]
          exact z
        · simp only [z2in]
          rw [if_neg (by omega)]
          exact z
      · refine a_aloadn dX5_firstTwo_25 rfl ?_
        refine a_iloadn dX5_firstTwo_26 rfl ?_
        refine a_iloadn dX5_firstTwo_27 rfl ?_
        refine a_callV (as := [_, _]) (q := a) dX5_firstTwo_28 mvX5_60 ⟨by decide, by decide⟩ hS.2.1 rfl rfl rfl (Nat.le_of_ble_eq_true rfl) ⟨rfl, rfl⟩ ⟨by decide, by decide⟩ (m_X5_isKnown hS (by omega) (by omega)) ?_
        refine a_if_eq (tgt := 41) dX5_firstTwo_31 (by decide) (by have q := kbit01 (M (a + 3) j) one; exact ⟨by omega, by omega⟩) (fun hb31 => ?_) (fun hb31 => ?_)
        · have qa := kbit01 (M (a + 3) one) j
          have qb := kbit01 (M (a + 3) j) one
          refine c_iinc (ls' := [_, _, _, _]) dX5_firstTwo_41 rfl (by decide) rfl rfl ?_
          refine a_goto (tgt := 11) dX5_firstTwo_44 (by decide) ?_
          refine ih _ (by omega) (by omega) (fun z => kk ?_) (fun r z => ks r ?_)
          · simp only [z2in]
            rw [if_neg (by omega)]
            exact z
          · simp only [z2in]
            rw [if_neg (by omega)]
            exact z
        · have qa := kbit01 (M (a + 3) one) j
          have qb := kbit01 (M (a + 3) j) one
          have hr9 := ks (10 * one + j) (by simp only [z2in]; rw [if_pos ⟨by omega, by omega⟩])
          subst hr9
          refine a_bipush (w := 10) dX5_firstTwo_34 (by decide) ?_
          refine a_iloadn dX5_firstTwo_36 rfl ?_
          refine a_imul dX5_firstTwo_37 ?_
          refine a_iloadn dX5_firstTwo_38 rfl ?_
          refine a_iadd dX5_firstTwo_39 ?_
          exact a_ireturn dX5_firstTwo_40 rfl rfl rfl (kr _)

set_option maxRecDepth 100000 in
set_option maxHeartbeats 4000000 in
theorem lpX5_firstTwo {G : zG} {l : Launch} {L : Nat} {P : zP} {M : zM} {a : Nat} {hs : Int} (hS : StA L P a) (hh : 0 ≤ hs ∧ hs ≤ 6) : ∀ (n : Nat) (one : Int) (g0 : 0 ≤ one) (g1 : one + n = hs), AW G l mdX5_firstTwo (zdet (some (aI (z2out (M (a + 3)) hs n one))) (LAY L) P M) 2 [some (aR a), some (aI hs), some (aI one), none] [] (LAY L) P M 0 0 := by
  intro n
  induction n with
  | zero =>
    intro one g0 g1
    refine a_iloadn dX5_firstTwo_2 rfl ?_
    refine a_iloadn dX5_firstTwo_3 rfl ?_
    refine a_icmp_ge (tgt := 53) dX5_firstTwo_4 (by decide) ⟨by omega, by omega⟩ ⟨by omega, by omega⟩ (fun hb4 => ?_) (fun hb4 => ?_)
    · refine a_iconst dX5_firstTwo_53 ?_
      exact a_ireturn dX5_firstTwo_54 rfl rfl rfl (zdet_I (by first | rfl | omega) rfl)
    · exfalso; omega
  | succ n ih =>
    intro one g0 g1
    refine a_iloadn dX5_firstTwo_2 rfl ?_
    refine a_iloadn dX5_firstTwo_3 rfl ?_
    refine a_icmp_ge (tgt := 53) dX5_firstTwo_4 (by decide) ⟨by omega, by omega⟩ ⟨by omega, by omega⟩ (fun hb4 => ?_) (fun hb4 => ?_)
    · exfalso; omega
    · refine a_iloadn dX5_firstTwo_7 rfl ?_
      refine a_iconst dX5_firstTwo_8 ?_
      refine a_iadd dX5_firstTwo_9 ?_
      refine c_istoren (ls' := [_, _, _, _]) dX5_firstTwo_10 (by decide) rfl rfl ?_
      refine lpX5_firstTwo_in (Z := fun r => zdet (some (aI r)) (LAY L) P M) (R9 := z2out (M (a + 3)) hs (n + 1) one) hS hh (by omega) (by omega) (fun r => zdet_I rfl rfl) (hs - (one + 1)).toNat (one + 1) (by omega) (by omega) (fun z => ?_) (fun r z => ?_)
      · refine c_iinc (ls' := [_, _, _, none]) dX5_firstTwo_47 rfl (by decide) rfl rfl ?_
        refine a_goto (tgt := 2) dX5_firstTwo_50 (by decide) ?_
        have e9 : z2out (M (a + 3)) hs (n + 1) one = z2out (M (a + 3)) hs n (one + 1) := by
          simp only [z2out, z]
        rw [e9]
        exact ih _ (by omega) (by omega)
      · simp only [z2out, z]

set_option maxRecDepth 100000 in
set_option maxHeartbeats 4000000 in
theorem m_X5_firstTwo {G : zG} {l : Launch} {L : Nat} {P : zP} {M : zM} {a : Nat} {hs : Int} (hS : StA L P a) (hh : 0 ≤ hs ∧ hs ≤ 6) : AM G l yX5_firstTwo mdX5_firstTwo [aR a, aI hs] (LAY L) P M (zdet (some (aI (z2out (M (a + 3)) hs hs.toNat 0))) (LAY L) P M) := by
  refine AM.go [some (aR a), some (aI hs), none, none] rfl (Nat.le_of_ble_eq_true rfl) ?_ (by decide) rfl rfl
  refine a_iconst dX5_firstTwo_0 ?_
  refine c_istoren (ls' := [_, _, _, _]) dX5_firstTwo_1 (by decide) rfl rfl ?_
  exact lpX5_firstTwo hS hh hs.toNat 0 (by omega) (by omega)

set_option maxRecDepth 100000 in
set_option maxHeartbeats 4000000 in
theorem lpX5_begin1 {G : zG} {l : Launch} {L : Nat} {P : zP} {M0 : zM} {a t : Nat} {Z : zZ} (hS : StA L P a) (hT : ToA L P t) (hd : 54 ≤ a) (ht : t ≤ 25) (hI : ToI M0 t) : ∀ (n : Nat) (i : Int) (M : zM) (g0 : 0 ≤ i) (g1 : i + n = 6) (hF : Fa a M0 M) (hj : ∀ j : Int, 0 ≤ j → j < i → M (a + 1) j = (if j < M0 t 2 then M0 (t + 2) j else 0) ∧ M (a + 2) j = (if j < M0 t 2 then M0 (t + 3) j else 0) ∧ M (a + 3) j = 0 ∧ M (a + 4) j = 0) (kk : ∀ M' : zM, Fa a M0 M' → (∀ j : Int, 0 ≤ j → j < 6 → M' (a + 1) j = (if j < M0 t 2 then M0 (t + 2) j else 0) ∧ M' (a + 2) j = (if j < M0 t 2 then M0 (t + 3) j else 0) ∧ M' (a + 3) j = 0 ∧ M' (a + 4) j = 0) → AW G l mdX5_begin Z 82 [some (aR a), some (aR t), none, none] [] (LAY L) P M' 0 0), AW G l mdX5_begin Z 2 [some (aR a), some (aR t), some (aI i), none] [] (LAY L) P M 0 0 := by
  intro n
  induction n with
  | zero =>
    intro i M g0 g1 hF hj kk
    have q1 := hI.1
    refine a_iloadn dX5_begin_2 rfl ?_
    refine a_bipush (w := 6) dX5_begin_3 (by decide) ?_
    refine a_icmp_ge (tgt := 82) dX5_begin_5 (by decide) ⟨by omega, by omega⟩ ⟨by omega, by omega⟩ (fun hb5 => ?_) (fun hb5 => ?_)
    · refine a_forget [2] (ls' := [_, _, none, none]) rfl (kk M hF (fun j j0 j1 => hj j j0 (by omega)))
    · exfalso; omega
  | succ n ih =>
    intro i M g0 g1 hF hj kk
    have q1 := hI.1
    refine a_iloadn dX5_begin_2 rfl ?_
    refine a_bipush (w := 6) dX5_begin_3 (by decide) ?_
    refine a_icmp_ge (tgt := 82) dX5_begin_5 (by decide) ⟨by omega, by omega⟩ ⟨by omega, by omega⟩ (fun hb5 => ?_) (fun hb5 => ?_)
    · exfalso; omega
    · refine a_iloadn dX5_begin_8 rfl ?_
      refine a_aloadn dX5_begin_9 rfl ?_
      refine b_getI (j' := 2) dX5_begin_10 flX5_27 rfl rfl hT.1.2.1 (fun hr10 => ?_)
      have e10 : M t 2 = M0 t 2 := by rw [hF t (by omega)]
      rw [e10] at hr10
      rw [e10]
      refine a_icmp_ge (tgt := 20) dX5_begin_13 (by decide) ⟨by omega, by omega⟩ ⟨by omega, by omega⟩ (fun hb13 => ?_) (fun hb13 => ?_)
      · refine a_iconst dX5_begin_20 ?_
        refine c_istoren (ls' := [_, _, _, _]) dX5_begin_21 (by decide) rfl rfl ?_
        refine a_aloadn dX5_begin_22 rfl ?_
        refine a_getR (j' := 0) (y := (a + 1)) dX5_begin_23 flX5_9 rfl rfl hS.2.1 hS.2.2.1.2 ?_
        refine a_iloadn dX5_begin_26 rfl ?_
        refine a_iloadn dX5_begin_27 rfl ?_
        refine a_if_eq (tgt := 40) dX5_begin_28 (by decide) ⟨by omega, by omega⟩ (fun hb28 => ?_) (fun hb28 => ?_)
        · refine a_iconst dX5_begin_40 ?_
          first
          | (rw [show M0 (t + 2) i = (if i < M0 t 2 then M0 (t + 2) i else 0) from by rw [if_pos (by omega)]])
          | (refine a_stk (st' := [aI (if i < M0 t 2 then M0 (t + 2) i else 0), aI i, aR (a + 1)]) (by rw [if_neg (by omega)]) ?_)
          refine a_iast (N := 6) dX5_begin_41 hS.2.2.1.1 (by have h9 := hS.1; omega) (by decide) (by omega) (by omega) (by split <;> exact ⟨by omega, by omega⟩) ?_
          refine a_aloadn dX5_begin_42 rfl ?_
          refine a_getR (j' := 1) (y := (a + 2)) dX5_begin_43 flX5_15 rfl rfl hS.2.1 hS.2.2.2.1.2 ?_
          refine a_iloadn dX5_begin_46 rfl ?_
          refine a_iloadn dX5_begin_47 rfl ?_
          refine a_if_eq (tgt := 60) dX5_begin_48 (by decide) ⟨by omega, by omega⟩ (fun hb48 => ?_) (fun hb48 => ?_)
          · refine a_iconst dX5_begin_60 ?_
            first
            | (rw [show M0 (t + 3) i = (if i < M0 t 2 then M0 (t + 3) i else 0) from by rw [if_pos (by omega)]])
            | (refine a_stk (st' := [aI (if i < M0 t 2 then M0 (t + 3) i else 0), aI i, aR (a + 2)]) (by rw [if_neg (by omega)]) ?_)
            refine a_iast (N := 6) dX5_begin_61 hS.2.2.2.1.1 (by have h9 := hS.1; omega) (by decide) (by omega) (by omega) (by split <;> exact ⟨by omega, by omega⟩) ?_
            refine a_aloadn dX5_begin_62 rfl ?_
            refine a_getR (j' := 2) (y := (a + 3)) dX5_begin_63 flX5_18 rfl rfl hS.2.1 hS.2.2.2.2.1.2 ?_
            refine a_iloadn dX5_begin_66 rfl ?_
            refine a_iconst dX5_begin_67 ?_
            refine a_iast (N := 6) dX5_begin_68 hS.2.2.2.2.1.1 (by have h9 := hS.1; omega) (by decide) (by omega) (by omega) ⟨by omega, by omega⟩ ?_
            refine a_aloadn dX5_begin_69 rfl ?_
            refine a_getR (j' := 3) (y := (a + 4)) dX5_begin_70 flX5_21 rfl rfl hS.2.1 hS.2.2.2.2.2.1.2 ?_
            refine a_iloadn dX5_begin_73 rfl ?_
            refine a_iconst dX5_begin_74 ?_
            refine a_iast (N := 6) dX5_begin_75 hS.2.2.2.2.2.1.1 (by have h9 := hS.1; omega) (by decide) (by omega) (by omega) ⟨by omega, by omega⟩ ?_
            refine c_iinc (ls' := [_, _, _, _]) dX5_begin_76 rfl (by decide) rfl rfl ?_
            refine a_goto (tgt := 2) dX5_begin_79 (by decide) ?_
            refine a_forget [3] (ls' := [_, _, _, none]) rfl ?_
            first
            | skip
            refine (fun h1 h2 => ih _ _ (by omega) (by omega) h1 h2 kk) ((((hF.sm (by omega) _ _).sm (by omega) _ _).sm (by omega) _ _).sm (by omega) _ _) (fun j j0 j1 => ?_)
            by_cases ej : j = i
            · subst ej
              refine ⟨?_, ?_, ?_, ?_⟩
              · rw [sm_n (by omega), sm_n (by omega), sm_n (by omega), sm_s]
              · rw [sm_n (by omega), sm_n (by omega), sm_s]
              · rw [sm_n (by omega), sm_s]
              · rw [sm_s]
            · have h9 := hj j j0 (by omega)
              refine ⟨?_, ?_, ?_, ?_⟩
              · rw [sm_n (by omega), sm_n (by omega), sm_n (by omega), sm_k, us_n ej]; exact h9.1
              · rw [sm_n (by omega), sm_n (by omega), sm_k, us_n ej, sm_n (by omega)]; exact h9.2.1
              · rw [sm_n (by omega), sm_k, us_n ej, sm_n (by omega), sm_n (by omega)]; exact h9.2.2.1
              · rw [sm_k, us_n ej, sm_n (by omega), sm_n (by omega), sm_n (by omega)]; exact h9.2.2.2
          · refine a_aloadn dX5_begin_51 rfl ?_
            refine a_getR (j' := 5) (y := (t + 3)) dX5_begin_52 flX5_34 rfl rfl hT.1.2.1 hT.1.2.2.2.2.1.2 ?_
            refine a_iloadn dX5_begin_55 rfl ?_
            refine b_iald (N := 6) dX5_begin_56 hT.1.2.2.2.2.1.1 (by decide) (by omega) (by omega) (fun hr56 => ?_)
            have q3 := hI.2.2.2.2.1 i (by omega) (by omega)
            have e56 : (sm M (a + 1) i (if i < M0 t 2 then M0 (t + 2) i else 0)) (t + 3) i = M0 (t + 3) i := by rw [sm_n (by omega), hF (t + 3) (by omega)]
            rw [e56] at hr56
            rw [e56]
            refine a_goto (tgt := 61) dX5_begin_57 (by decide) ?_
            first
            | (rw [show M0 (t + 3) i = (if i < M0 t 2 then M0 (t + 3) i else 0) from by rw [if_pos (by omega)]])
            | (refine a_stk (st' := [aI (if i < M0 t 2 then M0 (t + 3) i else 0), aI i, aR (a + 2)]) (by rw [if_neg (by omega)]) ?_)
            refine a_iast (N := 6) dX5_begin_61 hS.2.2.2.1.1 (by have h9 := hS.1; omega) (by decide) (by omega) (by omega) (by split <;> exact ⟨by omega, by omega⟩) ?_
            refine a_aloadn dX5_begin_62 rfl ?_
            refine a_getR (j' := 2) (y := (a + 3)) dX5_begin_63 flX5_18 rfl rfl hS.2.1 hS.2.2.2.2.1.2 ?_
            refine a_iloadn dX5_begin_66 rfl ?_
            refine a_iconst dX5_begin_67 ?_
            refine a_iast (N := 6) dX5_begin_68 hS.2.2.2.2.1.1 (by have h9 := hS.1; omega) (by decide) (by omega) (by omega) ⟨by omega, by omega⟩ ?_
            refine a_aloadn dX5_begin_69 rfl ?_
            refine a_getR (j' := 3) (y := (a + 4)) dX5_begin_70 flX5_21 rfl rfl hS.2.1 hS.2.2.2.2.2.1.2 ?_
            refine a_iloadn dX5_begin_73 rfl ?_
            refine a_iconst dX5_begin_74 ?_
            refine a_iast (N := 6) dX5_begin_75 hS.2.2.2.2.2.1.1 (by have h9 := hS.1; omega) (by decide) (by omega) (by omega) ⟨by omega, by omega⟩ ?_
            refine c_iinc (ls' := [_, _, _, _]) dX5_begin_76 rfl (by decide) rfl rfl ?_
            refine a_goto (tgt := 2) dX5_begin_79 (by decide) ?_
            refine a_forget [3] (ls' := [_, _, _, none]) rfl ?_
            first
            | skip
            refine (fun h1 h2 => ih _ _ (by omega) (by omega) h1 h2 kk) ((((hF.sm (by omega) _ _).sm (by omega) _ _).sm (by omega) _ _).sm (by omega) _ _) (fun j j0 j1 => ?_)
            by_cases ej : j = i
            · subst ej
              refine ⟨?_, ?_, ?_, ?_⟩
              · rw [sm_n (by omega), sm_n (by omega), sm_n (by omega), sm_s]
              · rw [sm_n (by omega), sm_n (by omega), sm_s]
              · rw [sm_n (by omega), sm_s]
              · rw [sm_s]
            · have h9 := hj j j0 (by omega)
              refine ⟨?_, ?_, ?_, ?_⟩
              · rw [sm_n (by omega), sm_n (by omega), sm_n (by omega), sm_k, us_n ej]; exact h9.1
              · rw [sm_n (by omega), sm_n (by omega), sm_k, us_n ej, sm_n (by omega)]; exact h9.2.1
              · rw [sm_n (by omega), sm_k, us_n ej, sm_n (by omega), sm_n (by omega)]; exact h9.2.2.1
              · rw [sm_k, us_n ej, sm_n (by omega), sm_n (by omega), sm_n (by omega)]; exact h9.2.2.2
        · refine a_aloadn dX5_begin_31 rfl ?_
          refine a_getR (j' := 4) (y := (t + 2)) dX5_begin_32 flX5_33 rfl rfl hT.1.2.1 hT.1.2.2.2.1.2 ?_
          refine a_iloadn dX5_begin_35 rfl ?_
          refine b_iald (N := 6) dX5_begin_36 hT.1.2.2.2.1.1 (by decide) (by omega) (by omega) (fun hr36 => ?_)
          have q2 := hI.2.2.2.1 i (by omega) (by omega)
          have e36 : M (t + 2) i = M0 (t + 2) i := by rw [hF (t + 2) (by omega)]
          rw [e36] at hr36
          rw [e36]
          refine a_goto (tgt := 41) dX5_begin_37 (by decide) ?_
          first
          | (rw [show M0 (t + 2) i = (if i < M0 t 2 then M0 (t + 2) i else 0) from by rw [if_pos (by omega)]])
          | (refine a_stk (st' := [aI (if i < M0 t 2 then M0 (t + 2) i else 0), aI i, aR (a + 1)]) (by rw [if_neg (by omega)]) ?_)
          refine a_iast (N := 6) dX5_begin_41 hS.2.2.1.1 (by have h9 := hS.1; omega) (by decide) (by omega) (by omega) (by split <;> exact ⟨by omega, by omega⟩) ?_
          refine a_aloadn dX5_begin_42 rfl ?_
          refine a_getR (j' := 1) (y := (a + 2)) dX5_begin_43 flX5_15 rfl rfl hS.2.1 hS.2.2.2.1.2 ?_
          refine a_iloadn dX5_begin_46 rfl ?_
          refine a_iloadn dX5_begin_47 rfl ?_
          refine a_if_eq (tgt := 60) dX5_begin_48 (by decide) ⟨by omega, by omega⟩ (fun hb48 => ?_) (fun hb48 => ?_)
          · refine a_iconst dX5_begin_60 ?_
            first
            | (rw [show M0 (t + 3) i = (if i < M0 t 2 then M0 (t + 3) i else 0) from by rw [if_pos (by omega)]])
            | (refine a_stk (st' := [aI (if i < M0 t 2 then M0 (t + 3) i else 0), aI i, aR (a + 2)]) (by rw [if_neg (by omega)]) ?_)
            refine a_iast (N := 6) dX5_begin_61 hS.2.2.2.1.1 (by have h9 := hS.1; omega) (by decide) (by omega) (by omega) (by split <;> exact ⟨by omega, by omega⟩) ?_
            refine a_aloadn dX5_begin_62 rfl ?_
            refine a_getR (j' := 2) (y := (a + 3)) dX5_begin_63 flX5_18 rfl rfl hS.2.1 hS.2.2.2.2.1.2 ?_
            refine a_iloadn dX5_begin_66 rfl ?_
            refine a_iconst dX5_begin_67 ?_
            refine a_iast (N := 6) dX5_begin_68 hS.2.2.2.2.1.1 (by have h9 := hS.1; omega) (by decide) (by omega) (by omega) ⟨by omega, by omega⟩ ?_
            refine a_aloadn dX5_begin_69 rfl ?_
            refine a_getR (j' := 3) (y := (a + 4)) dX5_begin_70 flX5_21 rfl rfl hS.2.1 hS.2.2.2.2.2.1.2 ?_
            refine a_iloadn dX5_begin_73 rfl ?_
            refine a_iconst dX5_begin_74 ?_
            refine a_iast (N := 6) dX5_begin_75 hS.2.2.2.2.2.1.1 (by have h9 := hS.1; omega) (by decide) (by omega) (by omega) ⟨by omega, by omega⟩ ?_
            refine c_iinc (ls' := [_, _, _, _]) dX5_begin_76 rfl (by decide) rfl rfl ?_
            refine a_goto (tgt := 2) dX5_begin_79 (by decide) ?_
            refine a_forget [3] (ls' := [_, _, _, none]) rfl ?_
            first
            | skip
            refine (fun h1 h2 => ih _ _ (by omega) (by omega) h1 h2 kk) ((((hF.sm (by omega) _ _).sm (by omega) _ _).sm (by omega) _ _).sm (by omega) _ _) (fun j j0 j1 => ?_)
            by_cases ej : j = i
            · subst ej
              refine ⟨?_, ?_, ?_, ?_⟩
              · rw [sm_n (by omega), sm_n (by omega), sm_n (by omega), sm_s]
              · rw [sm_n (by omega), sm_n (by omega), sm_s]
              · rw [sm_n (by omega), sm_s]
              · rw [sm_s]
            · have h9 := hj j j0 (by omega)
              refine ⟨?_, ?_, ?_, ?_⟩
              · rw [sm_n (by omega), sm_n (by omega), sm_n (by omega), sm_k, us_n ej]; exact h9.1
              · rw [sm_n (by omega), sm_n (by omega), sm_k, us_n ej, sm_n (by omega)]; exact h9.2.1
              · rw [sm_n (by omega), sm_k, us_n ej, sm_n (by omega), sm_n (by omega)]; exact h9.2.2.1
              · rw [sm_k, us_n ej, sm_n (by omega), sm_n (by omega), sm_n (by omega)]; exact h9.2.2.2
          · refine a_aloadn dX5_begin_51 rfl ?_
            refine a_getR (j' := 5) (y := (t + 3)) dX5_begin_52 flX5_34 rfl rfl hT.1.2.1 hT.1.2.2.2.2.1.2 ?_
            refine a_iloadn dX5_begin_55 rfl ?_
            refine b_iald (N := 6) dX5_begin_56 hT.1.2.2.2.2.1.1 (by decide) (by omega) (by omega) (fun hr56 => ?_)
            have q3 := hI.2.2.2.2.1 i (by omega) (by omega)
            have e56 : (sm M (a + 1) i (if i < M0 t 2 then M0 (t + 2) i else 0)) (t + 3) i = M0 (t + 3) i := by rw [sm_n (by omega), hF (t + 3) (by omega)]
            rw [e56] at hr56
            rw [e56]
            refine a_goto (tgt := 61) dX5_begin_57 (by decide) ?_
            first
            | (rw [show M0 (t + 3) i = (if i < M0 t 2 then M0 (t + 3) i else 0) from by rw [if_pos (by omega)]])
            | (refine a_stk (st' := [aI (if i < M0 t 2 then M0 (t + 3) i else 0), aI i, aR (a + 2)]) (by rw [if_neg (by omega)]) ?_)
            refine a_iast (N := 6) dX5_begin_61 hS.2.2.2.1.1 (by have h9 := hS.1; omega) (by decide) (by omega) (by omega) (by split <;> exact ⟨by omega, by omega⟩) ?_
            refine a_aloadn dX5_begin_62 rfl ?_
            refine a_getR (j' := 2) (y := (a + 3)) dX5_begin_63 flX5_18 rfl rfl hS.2.1 hS.2.2.2.2.1.2 ?_
            refine a_iloadn dX5_begin_66 rfl ?_
            refine a_iconst dX5_begin_67 ?_
            refine a_iast (N := 6) dX5_begin_68 hS.2.2.2.2.1.1 (by have h9 := hS.1; omega) (by decide) (by omega) (by omega) ⟨by omega, by omega⟩ ?_
            refine a_aloadn dX5_begin_69 rfl ?_
            refine a_getR (j' := 3) (y := (a + 4)) dX5_begin_70 flX5_21 rfl rfl hS.2.1 hS.2.2.2.2.2.1.2 ?_
            refine a_iloadn dX5_begin_73 rfl ?_
            refine a_iconst dX5_begin_74 ?_
            refine a_iast (N := 6) dX5_begin_75 hS.2.2.2.2.2.1.1 (by have h9 := hS.1; omega) (by decide) (by omega) (by omega) ⟨by omega, by omega⟩ ?_
            refine c_iinc (ls' := [_, _, _, _]) dX5_begin_76 rfl (by decide) rfl rfl ?_
            refine a_goto (tgt := 2) dX5_begin_79 (by decide) ?_
            refine a_forget [3] (ls' := [_, _, _, none]) rfl ?_
            first
            | skip
            refine (fun h1 h2 => ih _ _ (by omega) (by omega) h1 h2 kk) ((((hF.sm (by omega) _ _).sm (by omega) _ _).sm (by omega) _ _).sm (by omega) _ _) (fun j j0 j1 => ?_)
            by_cases ej : j = i
            · subst ej
              refine ⟨?_, ?_, ?_, ?_⟩
              · rw [sm_n (by omega), sm_n (by omega), sm_n (by omega), sm_s]
              · rw [sm_n (by omega), sm_n (by omega), sm_s]
              · rw [sm_n (by omega), sm_s]
              · rw [sm_s]
            · have h9 := hj j j0 (by omega)
              refine ⟨?_, ?_, ?_, ?_⟩
              · rw [sm_n (by omega), sm_n (by omega), sm_n (by omega), sm_k, us_n ej]; exact h9.1
              · rw [sm_n (by omega), sm_n (by omega), sm_k, us_n ej, sm_n (by omega)]; exact h9.2.1
              · rw [sm_n (by omega), sm_k, us_n ej, sm_n (by omega), sm_n (by omega)]; exact h9.2.2.1
              · rw [sm_k, us_n ej, sm_n (by omega), sm_n (by omega), sm_n (by omega)]; exact h9.2.2.2
      · refine a_iconst dX5_begin_16 ?_
        refine a_goto (tgt := 21) dX5_begin_17 (by decide) ?_
        refine c_istoren (ls' := [_, _, _, _]) dX5_begin_21 (by decide) rfl rfl ?_
        refine a_aloadn dX5_begin_22 rfl ?_
        refine a_getR (j' := 0) (y := (a + 1)) dX5_begin_23 flX5_9 rfl rfl hS.2.1 hS.2.2.1.2 ?_
        refine a_iloadn dX5_begin_26 rfl ?_
        refine a_iloadn dX5_begin_27 rfl ?_
        refine a_if_eq (tgt := 40) dX5_begin_28 (by decide) ⟨by omega, by omega⟩ (fun hb28 => ?_) (fun hb28 => ?_)
        · refine a_iconst dX5_begin_40 ?_
          first
          | (rw [show M0 (t + 2) i = (if i < M0 t 2 then M0 (t + 2) i else 0) from by rw [if_pos (by omega)]])
          | (refine a_stk (st' := [aI (if i < M0 t 2 then M0 (t + 2) i else 0), aI i, aR (a + 1)]) (by rw [if_neg (by omega)]) ?_)
          refine a_iast (N := 6) dX5_begin_41 hS.2.2.1.1 (by have h9 := hS.1; omega) (by decide) (by omega) (by omega) (by split <;> exact ⟨by omega, by omega⟩) ?_
          refine a_aloadn dX5_begin_42 rfl ?_
          refine a_getR (j' := 1) (y := (a + 2)) dX5_begin_43 flX5_15 rfl rfl hS.2.1 hS.2.2.2.1.2 ?_
          refine a_iloadn dX5_begin_46 rfl ?_
          refine a_iloadn dX5_begin_47 rfl ?_
          refine a_if_eq (tgt := 60) dX5_begin_48 (by decide) ⟨by omega, by omega⟩ (fun hb48 => ?_) (fun hb48 => ?_)
          · refine a_iconst dX5_begin_60 ?_
            first
            | (rw [show M0 (t + 3) i = (if i < M0 t 2 then M0 (t + 3) i else 0) from by rw [if_pos (by omega)]])
            | (refine a_stk (st' := [aI (if i < M0 t 2 then M0 (t + 3) i else 0), aI i, aR (a + 2)]) (by rw [if_neg (by omega)]) ?_)
            refine a_iast (N := 6) dX5_begin_61 hS.2.2.2.1.1 (by have h9 := hS.1; omega) (by decide) (by omega) (by omega) (by split <;> exact ⟨by omega, by omega⟩) ?_
            refine a_aloadn dX5_begin_62 rfl ?_
            refine a_getR (j' := 2) (y := (a + 3)) dX5_begin_63 flX5_18 rfl rfl hS.2.1 hS.2.2.2.2.1.2 ?_
            refine a_iloadn dX5_begin_66 rfl ?_
            refine a_iconst dX5_begin_67 ?_
            refine a_iast (N := 6) dX5_begin_68 hS.2.2.2.2.1.1 (by have h9 := hS.1; omega) (by decide) (by omega) (by omega) ⟨by omega, by omega⟩ ?_
            refine a_aloadn dX5_begin_69 rfl ?_
            refine a_getR (j' := 3) (y := (a + 4)) dX5_begin_70 flX5_21 rfl rfl hS.2.1 hS.2.2.2.2.2.1.2 ?_
            refine a_iloadn dX5_begin_73 rfl ?_
            refine a_iconst dX5_begin_74 ?_
            refine a_iast (N := 6) dX5_begin_75 hS.2.2.2.2.2.1.1 (by have h9 := hS.1; omega) (by decide) (by omega) (by omega) ⟨by omega, by omega⟩ ?_
            refine c_iinc (ls' := [_, _, _, _]) dX5_begin_76 rfl (by decide) rfl rfl ?_
            refine a_goto (tgt := 2) dX5_begin_79 (by decide) ?_
            refine a_forget [3] (ls' := [_, _, _, none]) rfl ?_
            first
            | skip
            refine (fun h1 h2 => ih _ _ (by omega) (by omega) h1 h2 kk) ((((hF.sm (by omega) _ _).sm (by omega) _ _).sm (by omega) _ _).sm (by omega) _ _) (fun j j0 j1 => ?_)
            by_cases ej : j = i
            · subst ej
              refine ⟨?_, ?_, ?_, ?_⟩
              · rw [sm_n (by omega), sm_n (by omega), sm_n (by omega), sm_s]
              · rw [sm_n (by omega), sm_n (by omega), sm_s]
              · rw [sm_n (by omega), sm_s]
              · rw [sm_s]
            · have h9 := hj j j0 (by omega)
              refine ⟨?_, ?_, ?_, ?_⟩
              · rw [sm_n (by omega), sm_n (by omega), sm_n (by omega), sm_k, us_n ej]; exact h9.1
              · rw [sm_n (by omega), sm_n (by omega), sm_k, us_n ej, sm_n (by omega)]; exact h9.2.1
              · rw [sm_n (by omega), sm_k, us_n ej, sm_n (by omega), sm_n (by omega)]; exact h9.2.2.1
              · rw [sm_k, us_n ej, sm_n (by omega), sm_n (by omega), sm_n (by omega)]; exact h9.2.2.2
          · refine a_aloadn dX5_begin_51 rfl ?_
            refine a_getR (j' := 5) (y := (t + 3)) dX5_begin_52 flX5_34 rfl rfl hT.1.2.1 hT.1.2.2.2.2.1.2 ?_
            refine a_iloadn dX5_begin_55 rfl ?_
            refine b_iald (N := 6) dX5_begin_56 hT.1.2.2.2.2.1.1 (by decide) (by omega) (by omega) (fun hr56 => ?_)
            have q3 := hI.2.2.2.2.1 i (by omega) (by omega)
            have e56 : (sm M (a + 1) i (if i < M0 t 2 then M0 (t + 2) i else 0)) (t + 3) i = M0 (t + 3) i := by rw [sm_n (by omega), hF (t + 3) (by omega)]
            rw [e56] at hr56
            rw [e56]
            refine a_goto (tgt := 61) dX5_begin_57 (by decide) ?_
            first
            | (rw [show M0 (t + 3) i = (if i < M0 t 2 then M0 (t + 3) i else 0) from by rw [if_pos (by omega)]])
            | (refine a_stk (st' := [aI (if i < M0 t 2 then M0 (t + 3) i else 0), aI i, aR (a + 2)]) (by rw [if_neg (by omega)]) ?_)
            refine a_iast (N := 6) dX5_begin_61 hS.2.2.2.1.1 (by have h9 := hS.1; omega) (by decide) (by omega) (by omega) (by split <;> exact ⟨by omega, by omega⟩) ?_
            refine a_aloadn dX5_begin_62 rfl ?_
            refine a_getR (j' := 2) (y := (a + 3)) dX5_begin_63 flX5_18 rfl rfl hS.2.1 hS.2.2.2.2.1.2 ?_
            refine a_iloadn dX5_begin_66 rfl ?_
            refine a_iconst dX5_begin_67 ?_
            refine a_iast (N := 6) dX5_begin_68 hS.2.2.2.2.1.1 (by have h9 := hS.1; omega) (by decide) (by omega) (by omega) ⟨by omega, by omega⟩ ?_
            refine a_aloadn dX5_begin_69 rfl ?_
            refine a_getR (j' := 3) (y := (a + 4)) dX5_begin_70 flX5_21 rfl rfl hS.2.1 hS.2.2.2.2.2.1.2 ?_
            refine a_iloadn dX5_begin_73 rfl ?_
            refine a_iconst dX5_begin_74 ?_
            refine a_iast (N := 6) dX5_begin_75 hS.2.2.2.2.2.1.1 (by have h9 := hS.1; omega) (by decide) (by omega) (by omega) ⟨by omega, by omega⟩ ?_
            refine c_iinc (ls' := [_, _, _, _]) dX5_begin_76 rfl (by decide) rfl rfl ?_
            refine a_goto (tgt := 2) dX5_begin_79 (by decide) ?_
            refine a_forget [3] (ls' := [_, _, _, none]) rfl ?_
            first
            | skip
            refine (fun h1 h2 => ih _ _ (by omega) (by omega) h1 h2 kk) ((((hF.sm (by omega) _ _).sm (by omega) _ _).sm (by omega) _ _).sm (by omega) _ _) (fun j j0 j1 => ?_)
            by_cases ej : j = i
            · subst ej
              refine ⟨?_, ?_, ?_, ?_⟩
              · rw [sm_n (by omega), sm_n (by omega), sm_n (by omega), sm_s]
              · rw [sm_n (by omega), sm_n (by omega), sm_s]
              · rw [sm_n (by omega), sm_s]
              · rw [sm_s]
            · have h9 := hj j j0 (by omega)
              refine ⟨?_, ?_, ?_, ?_⟩
              · rw [sm_n (by omega), sm_n (by omega), sm_n (by omega), sm_k, us_n ej]; exact h9.1
              · rw [sm_n (by omega), sm_n (by omega), sm_k, us_n ej, sm_n (by omega)]; exact h9.2.1
              · rw [sm_n (by omega), sm_k, us_n ej, sm_n (by omega), sm_n (by omega)]; exact h9.2.2.1
              · rw [sm_k, us_n ej, sm_n (by omega), sm_n (by omega), sm_n (by omega)]; exact h9.2.2.2
        · refine a_aloadn dX5_begin_31 rfl ?_
          refine a_getR (j' := 4) (y := (t + 2)) dX5_begin_32 flX5_33 rfl rfl hT.1.2.1 hT.1.2.2.2.1.2 ?_
          refine a_iloadn dX5_begin_35 rfl ?_
          refine b_iald (N := 6) dX5_begin_36 hT.1.2.2.2.1.1 (by decide) (by omega) (by omega) (fun hr36 => ?_)
          have q2 := hI.2.2.2.1 i (by omega) (by omega)
          have e36 : M (t + 2) i = M0 (t + 2) i := by rw [hF (t + 2) (by omega)]
          rw [e36] at hr36
          rw [e36]
          refine a_goto (tgt := 41) dX5_begin_37 (by decide) ?_
          first
          | (rw [show M0 (t + 2) i = (if i < M0 t 2 then M0 (t + 2) i else 0) from by rw [if_pos (by omega)]])
          | (refine a_stk (st' := [aI (if i < M0 t 2 then M0 (t + 2) i else 0), aI i, aR (a + 1)]) (by rw [if_neg (by omega)]) ?_)
          refine a_iast (N := 6) dX5_begin_41 hS.2.2.1.1 (by have h9 := hS.1; omega) (by decide) (by omega) (by omega) (by split <;> exact ⟨by omega, by omega⟩) ?_
          refine a_aloadn dX5_begin_42 rfl ?_
          refine a_getR (j' := 1) (y := (a + 2)) dX5_begin_43 flX5_15 rfl rfl hS.2.1 hS.2.2.2.1.2 ?_
          refine a_iloadn dX5_begin_46 rfl ?_
          refine a_iloadn dX5_begin_47 rfl ?_
          refine a_if_eq (tgt := 60) dX5_begin_48 (by decide) ⟨by omega, by omega⟩ (fun hb48 => ?_) (fun hb48 => ?_)
          · refine a_iconst dX5_begin_60 ?_
            first
            | (rw [show M0 (t + 3) i = (if i < M0 t 2 then M0 (t + 3) i else 0) from by rw [if_pos (by omega)]])
            | (refine a_stk (st' := [aI (if i < M0 t 2 then M0 (t + 3) i else 0), aI i, aR (a + 2)]) (by rw [if_neg (by omega)]) ?_)
            refine a_iast (N := 6) dX5_begin_61 hS.2.2.2.1.1 (by have h9 := hS.1; omega) (by decide) (by omega) (by omega) (by split <;> exact ⟨by omega, by omega⟩) ?_
            refine a_aloadn dX5_begin_62 rfl ?_
            refine a_getR (j' := 2) (y := (a + 3)) dX5_begin_63 flX5_18 rfl rfl hS.2.1 hS.2.2.2.2.1.2 ?_
            refine a_iloadn dX5_begin_66 rfl ?_
            refine a_iconst dX5_begin_67 ?_
            refine a_iast (N := 6) dX5_begin_68 hS.2.2.2.2.1.1 (by have h9 := hS.1; omega) (by decide) (by omega) (by omega) ⟨by omega, by omega⟩ ?_
            refine a_aloadn dX5_begin_69 rfl ?_
            refine a_getR (j' := 3) (y := (a + 4)) dX5_begin_70 flX5_21 rfl rfl hS.2.1 hS.2.2.2.2.2.1.2 ?_
            refine a_iloadn dX5_begin_73 rfl ?_
            refine a_iconst dX5_begin_74 ?_
            refine a_iast (N := 6) dX5_begin_75 hS.2.2.2.2.2.1.1 (by have h9 := hS.1; omega) (by decide) (by omega) (by omega) ⟨by omega, by omega⟩ ?_
            refine c_iinc (ls' := [_, _, _, _]) dX5_begin_76 rfl (by decide) rfl rfl ?_
            refine a_goto (tgt := 2) dX5_begin_79 (by decide) ?_
            refine a_forget [3] (ls' := [_, _, _, none]) rfl ?_
            first
            | skip
            refine (fun h1 h2 => ih _ _ (by omega) (by omega) h1 h2 kk) ((((hF.sm (by omega) _ _).sm (by omega) _ _).sm (by omega) _ _).sm (by omega) _ _) (fun j j0 j1 => ?_)
            by_cases ej : j = i
            · subst ej
              refine ⟨?_, ?_, ?_, ?_⟩
              · rw [sm_n (by omega), sm_n (by omega), sm_n (by omega), sm_s]
              · rw [sm_n (by omega), sm_n (by omega), sm_s]
              · rw [sm_n (by omega), sm_s]
              · rw [sm_s]
            · have h9 := hj j j0 (by omega)
              refine ⟨?_, ?_, ?_, ?_⟩
              · rw [sm_n (by omega), sm_n (by omega), sm_n (by omega), sm_k, us_n ej]; exact h9.1
              · rw [sm_n (by omega), sm_n (by omega), sm_k, us_n ej, sm_n (by omega)]; exact h9.2.1
              · rw [sm_n (by omega), sm_k, us_n ej, sm_n (by omega), sm_n (by omega)]; exact h9.2.2.1
              · rw [sm_k, us_n ej, sm_n (by omega), sm_n (by omega), sm_n (by omega)]; exact h9.2.2.2
          · refine a_aloadn dX5_begin_51 rfl ?_
            refine a_getR (j' := 5) (y := (t + 3)) dX5_begin_52 flX5_34 rfl rfl hT.1.2.1 hT.1.2.2.2.2.1.2 ?_
            refine a_iloadn dX5_begin_55 rfl ?_
            refine b_iald (N := 6) dX5_begin_56 hT.1.2.2.2.2.1.1 (by decide) (by omega) (by omega) (fun hr56 => ?_)
            have q3 := hI.2.2.2.2.1 i (by omega) (by omega)
            have e56 : (sm M (a + 1) i (if i < M0 t 2 then M0 (t + 2) i else 0)) (t + 3) i = M0 (t + 3) i := by rw [sm_n (by omega), hF (t + 3) (by omega)]
            rw [e56] at hr56
            rw [e56]
            refine a_goto (tgt := 61) dX5_begin_57 (by decide) ?_
            first
            | (rw [show M0 (t + 3) i = (if i < M0 t 2 then M0 (t + 3) i else 0) from by rw [if_pos (by omega)]])
            | (refine a_stk (st' := [aI (if i < M0 t 2 then M0 (t + 3) i else 0), aI i, aR (a + 2)]) (by rw [if_neg (by omega)]) ?_)
            refine a_iast (N := 6) dX5_begin_61 hS.2.2.2.1.1 (by have h9 := hS.1; omega) (by decide) (by omega) (by omega) (by split <;> exact ⟨by omega, by omega⟩) ?_
            refine a_aloadn dX5_begin_62 rfl ?_
            refine a_getR (j' := 2) (y := (a + 3)) dX5_begin_63 flX5_18 rfl rfl hS.2.1 hS.2.2.2.2.1.2 ?_
            refine a_iloadn dX5_begin_66 rfl ?_
            refine a_iconst dX5_begin_67 ?_
            refine a_iast (N := 6) dX5_begin_68 hS.2.2.2.2.1.1 (by have h9 := hS.1; omega) (by decide) (by omega) (by omega) ⟨by omega, by omega⟩ ?_
            refine a_aloadn dX5_begin_69 rfl ?_
            refine a_getR (j' := 3) (y := (a + 4)) dX5_begin_70 flX5_21 rfl rfl hS.2.1 hS.2.2.2.2.2.1.2 ?_
            refine a_iloadn dX5_begin_73 rfl ?_
            refine a_iconst dX5_begin_74 ?_
            refine a_iast (N := 6) dX5_begin_75 hS.2.2.2.2.2.1.1 (by have h9 := hS.1; omega) (by decide) (by omega) (by omega) ⟨by omega, by omega⟩ ?_
            refine c_iinc (ls' := [_, _, _, _]) dX5_begin_76 rfl (by decide) rfl rfl ?_
            refine a_goto (tgt := 2) dX5_begin_79 (by decide) ?_
            refine a_forget [3] (ls' := [_, _, _, none]) rfl ?_
            first
            | skip
            refine (fun h1 h2 => ih _ _ (by omega) (by omega) h1 h2 kk) ((((hF.sm (by omega) _ _).sm (by omega) _ _).sm (by omega) _ _).sm (by omega) _ _) (fun j j0 j1 => ?_)
            by_cases ej : j = i
            · subst ej
              refine ⟨?_, ?_, ?_, ?_⟩
              · rw [sm_n (by omega), sm_n (by omega), sm_n (by omega), sm_s]
              · rw [sm_n (by omega), sm_n (by omega), sm_s]
              · rw [sm_n (by omega), sm_s]
              · rw [sm_s]
            · have h9 := hj j j0 (by omega)
              refine ⟨?_, ?_, ?_, ?_⟩
              · rw [sm_n (by omega), sm_n (by omega), sm_n (by omega), sm_k, us_n ej]; exact h9.1
              · rw [sm_n (by omega), sm_n (by omega), sm_k, us_n ej, sm_n (by omega)]; exact h9.2.1
              · rw [sm_n (by omega), sm_k, us_n ej, sm_n (by omega), sm_n (by omega)]; exact h9.2.2.1
              · rw [sm_k, us_n ej, sm_n (by omega), sm_n (by omega), sm_n (by omega)]; exact h9.2.2.2

set_option maxRecDepth 100000 in
set_option maxHeartbeats 4000000 in
theorem lpX5_begin2 {G : zG} {l : Launch} {L : Nat} {P : zP} {M0 : zM} {a t : Nat} (hS : StA L P a) (hT : ToA L P t) (hd : 54 ≤ a) (ht : t ≤ 25) (hI : ToI M0 t) : ∀ (n : Nat) (i : Int) (M : zM) (g0 : 0 ≤ i) (g1 : i + n = 36) (hF : Fa a M0 M) (h6 : ∀ j : Int, 0 ≤ j → j < 6 → M (a + 1) j = (if j < M0 t 2 then M0 (t + 2) j else 0) ∧ M (a + 2) j = (if j < M0 t 2 then M0 (t + 3) j else 0) ∧ M (a + 3) j = 0 ∧ M (a + 4) j = 0) (hj : ∀ j : Int, 0 ≤ j → j < i → M (a + 5) j = 0), AW G l mdX5_begin (zrel none (LAY L) P (BgR M0 a t)) 84 [some (aR a), some (aR t), some (aI i), none] [] (LAY L) P M 0 0 := by
  intro n
  induction n with
  | zero =>
    intro i M g0 g1 hF h6 hj
    refine a_iloadn dX5_begin_84 rfl ?_
    refine a_aloadn dX5_begin_85 rfl ?_
    refine a_getR (j' := 4) (y := (a + 5)) dX5_begin_86 flX5_24 rfl rfl hS.2.1 hS.2.2.2.2.2.2.2 ?_
    refine a_alen (w := 36) dX5_begin_89 hS.2.2.2.2.2.2.1 (by decide) rfl ?_
    refine a_icmp_ge (tgt := 106) dX5_begin_90 (by decide) ⟨by omega, by omega⟩ ⟨by omega, by omega⟩ (fun hb90 => ?_) (fun hb90 => ?_)
    · refine a_aloadn dX5_begin_106 rfl ?_
      refine a_iconst dX5_begin_107 ?_
      refine a_putI (j' := 5) dX5_begin_108 flX5_35 rfl rfl hS.2.1 hS.1 rfl ⟨by omega, by omega⟩ ?_
      refine a_aloadn dX5_begin_111 rfl ?_
      refine a_aloadn dX5_begin_112 rfl ?_
      refine a_getR (j' := 14) (y := (t + 10)) dX5_begin_113 flX5_38 rfl rfl hT.1.2.1 hT.1.2.2.2.2.2.2.2.2.2.2.2.1.2 ?_
      refine a_iconst dX5_begin_116 ?_
      refine b_iald (N := 4) dX5_begin_117 hT.1.2.2.2.2.2.2.2.2.2.2.2.1.1 (by decide) (by omega) (by omega) (fun hr117 => ?_)
      have e117 : sm M a 5 0 (t + 10) 3 = M0 (t + 10) 3 := by rw [sm_n (by omega), hF (t + 10) (by omega)]
      rw [e117] at hr117
      rw [e117]
      refine a_putI (j' := 6) dX5_begin_118 flX5_41 rfl rfl hS.2.1 hS.1 rfl hr117 ?_
      have hr : BgR M0 a t (sm (sm M a 5 0) a 6 (M0 (t + 10) 3)) := by
        refine ⟨fun j j0 j1 => ?_, fun j j0 j1 => ?_, ?_, ?_, fun k hk => ?_⟩
        · rw [sm_n (by omega), sm_n (by omega), sm_n (by omega), sm_n (by omega), sm_n (by omega), sm_n (by omega), sm_n (by omega), sm_n (by omega)]
          exact h6 j j0 j1
        · rw [sm_n (by omega), sm_n (by omega)]; exact hj j j0 (by omega)
        · rw [sm_k, us_n (by decide), sm_s]
        · rw [sm_s]
        · rw [sm_n (by omega), sm_n (by omega)]; exact hF k hk
      exact a_return dX5_begin_121 rfl rfl rfl (zrel_V hr)
    · exfalso; omega
  | succ n ih =>
    intro i M g0 g1 hF h6 hj
    refine a_iloadn dX5_begin_84 rfl ?_
    refine a_aloadn dX5_begin_85 rfl ?_
    refine a_getR (j' := 4) (y := (a + 5)) dX5_begin_86 flX5_24 rfl rfl hS.2.1 hS.2.2.2.2.2.2.2 ?_
    refine a_alen (w := 36) dX5_begin_89 hS.2.2.2.2.2.2.1 (by decide) rfl ?_
    refine a_icmp_ge (tgt := 106) dX5_begin_90 (by decide) ⟨by omega, by omega⟩ ⟨by omega, by omega⟩ (fun hb90 => ?_) (fun hb90 => ?_)
    · exfalso; omega
    · refine a_aloadn dX5_begin_93 rfl ?_
      refine a_getR (j' := 4) (y := (a + 5)) dX5_begin_94 flX5_24 rfl rfl hS.2.1 hS.2.2.2.2.2.2.2 ?_
      refine a_iloadn dX5_begin_97 rfl ?_
      refine a_iconst dX5_begin_98 ?_
      refine a_iast (N := 36) dX5_begin_99 hS.2.2.2.2.2.2.1 (by have h9 := hS.1; omega) (by decide) (by omega) (by omega) ⟨by omega, by omega⟩ ?_
      refine c_iinc (ls' := [_, _, _, _]) dX5_begin_100 rfl (by decide) rfl rfl ?_
      refine a_goto (tgt := 84) dX5_begin_103 (by decide) ?_
      refine ih _ _ (by omega) (by omega) (hF.sm (by omega) _ _) (fun j j0 j1 => ?_) (fun j j0 j1 => ?_)
      · rw [sm_n (by omega), sm_n (by omega), sm_n (by omega), sm_n (by omega)]; exact h6 j j0 j1
      · by_cases ej : j = i
        · rw [ej, sm_s]
        · rw [sm_k, us_n ej]; exact hj j j0 (by omega)

set_option maxRecDepth 100000 in
set_option maxHeartbeats 4000000 in
theorem m_X5_begin {G : zG} {l : Launch} {L : Nat} {P : zP} {M : zM} {a t : Nat} (hS : StA L P a) (hT : ToA L P t) (hd : 54 ≤ a) (ht : t ≤ 25) (hI : ToI M t) : AM G l yX5_begin mdX5_begin [aR a, aR t] (LAY L) P M (zrel none (LAY L) P (BgR M a t)) := by
  refine AM.go [some (aR a), some (aR t), none, none] rfl (Nat.le_of_ble_eq_true rfl) ?_ (by decide) rfl rfl
  refine a_iconst dX5_begin_0 ?_
  refine c_istoren (ls' := [_, _, _, _]) dX5_begin_1 (by decide) rfl rfl ?_
  refine lpX5_begin1 hS hT hd ht hI 6 0 M (by omega) (by omega) (Fa.rf a M) (fun j j0 j1 => by omega) (fun M1 h1 h2 => ?_)
  refine a_iconst dX5_begin_82 ?_
  refine c_istoren (ls' := [_, _, _, _]) dX5_begin_83 (by decide) rfl rfl ?_
  exact lpX5_begin2 hS hT hd ht hI 36 0 M1 (by omega) (by omega) h1 h2 (fun j j0 j1 => by omega)
