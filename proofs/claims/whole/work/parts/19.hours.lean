set_option maxRecDepth 100000 in
set_option maxHeartbeats 4000000 in
theorem m_X0_asTold {G : zG} {l : Launch} {L : Nat} {P : zP} {M : zM} {t : Nat} (hP : PFok P) (hTp : P 50 0 = some t) (hT : ToA L P t) (ht : t = 4 ∨ t = 23) (hTI : ToI M t) : AM G l yX0_asTold mdX0_asTold [aR 50] (LAY L) P M (zdet none (LAY L) P (sm (sm (sm (sm M 50 1 (M (t + 10) 0)) 50 3 1) 50 4 1) 50 5 (-1))) := by
  refine AM.go [some (aR 50)] rfl (Nat.le_of_ble_eq_true rfl) ?_ (by decide) rfl rfl
  refine a_aloadn dX0_asTold_0 rfl ?_
  refine a_aloadn dX0_asTold_1 rfl ?_
  refine a_getR (j' := 0) (y := t) dX0_asTold_2 flX0_18 rfl rfl (L50 L) hTp ?_
  refine a_getR (j' := 14) (y := (t + 10)) dX0_asTold_5 flX0_22 rfl rfl hT.1.2.1 hT.1.2.2.2.2.2.2.2.2.2.2.2.1.2 ?_
  refine a_iconst dX0_asTold_8 ?_
  refine b_iald (N := 4) dX0_asTold_9 hT.1.2.2.2.2.2.2.2.2.2.2.2.1.1 (by decide) (by omega) (by omega) (fun hr9 => ?_)
  refine a_putI (j' := 1) dX0_asTold_10 flX0_28 rfl rfl (L50 L) (by decide) rfl ⟨by omega, by omega⟩ ?_
  refine a_aloadn dX0_asTold_13 rfl ?_
  refine a_iconst dX0_asTold_14 ?_
  refine a_putZ (j' := 3) dX0_asTold_15 flX0_32 rfl rfl (L50 L) (by decide) rfl (by omega) ?_
  refine a_aloadn dX0_asTold_18 rfl ?_
  refine a_iconst dX0_asTold_19 ?_
  refine a_putZ (j' := 4) dX0_asTold_20 flX0_36 rfl rfl (L50 L) (by decide) rfl (by omega) ?_
  refine a_aloadn dX0_asTold_23 rfl ?_
  refine a_iconst dX0_asTold_24 ?_
  refine a_putI (j' := 5) dX0_asTold_25 flX0_39 rfl rfl (L50 L) (by decide) rfl ⟨by omega, by omega⟩ ?_
  exact a_return dX0_asTold_28 rfl rfl rfl (zdet_V rfl)

set_option maxRecDepth 100000 in
set_option maxHeartbeats 4000000 in
theorem m_X0_asItGoes {G : zG} {l : Launch} {L : Nat} {P : zP} {M : zM} {t : Nat} (hP : PFok P) (hTp : P 50 0 = some t) (hT : ToA L P t) (ht : t = 4 ∨ t = 23) (hTI : ToI M t) : AM G l yX0_asItGoes mdX0_asItGoes [aR 50] (LAY L) P M (zdet none (LAY L) P (sm (sm (sm (sm (sm M 50 1 (M (t + 10) 0)) 50 3 1) 50 4 1) 50 5 (-1)) 50 2 (if 50 ≤ M (t + 10) 2 then 1 else 0))) := by
  refine AM.go [some (aR 50)] rfl (Nat.le_of_ble_eq_true rfl) ?_ (by decide) rfl rfl
  refine a_aloadn dX0_asItGoes_0 rfl ?_
  refine a_callVv (as := []) (q := 50) dX0_asItGoes_1 mvX0_42 ⟨by decide, by decide⟩ (L50 L) rfl rfl rfl (Nat.le_of_ble_eq_true rfl) ⟨rfl, rfl⟩ ⟨by decide, by decide⟩ (m_X0_asTold hP hTp hT ht hTI) ?_
  refine a_aloadn dX0_asItGoes_4 rfl ?_
  refine a_aloadn dX0_asItGoes_5 rfl ?_
  refine a_getR (j' := 0) (y := t) dX0_asItGoes_6 flX0_18 rfl rfl (L50 L) hTp ?_
  refine a_getR (j' := 14) (y := (t + 10)) dX0_asItGoes_9 flX0_22 rfl rfl hT.1.2.1 hT.1.2.2.2.2.2.2.2.2.2.2.2.1.2 ?_
  refine a_iconst dX0_asItGoes_12 ?_
  refine b_iald (N := 4) dX0_asItGoes_13 hT.1.2.2.2.2.2.2.2.2.2.2.2.1.1 (by decide) (by omega) (by omega) (fun hr13 => ?_)
  have e9 : (sm (sm (sm (sm M 50 1 (M (t + 10) 0)) 50 3 1) 50 4 1) 50 5 (-1)) (t + 10) 2 = M (t + 10) 2 := by rw [sm_n (by omega), sm_n (by omega), sm_n (by omega), sm_n (by omega)]
  rw [e9] at hr13
  rw [e9]
  refine a_bipush (w := 50) dX0_asItGoes_14 (by decide) ?_
  refine a_icmp_lt (tgt := 23) dX0_asItGoes_16 (by decide) ⟨by omega, by omega⟩ ⟨by omega, by omega⟩ (fun hb16 => ?_) (fun hb16 => ?_)
  · refine a_iconst dX0_asItGoes_23 ?_
    refine a_putI (j' := 2) dX0_asItGoes_24 flX0_45 rfl rfl (L50 L) (by decide) rfl ⟨by omega, by omega⟩ ?_
    exact a_return dX0_asItGoes_27 rfl rfl rfl (zdet_V (by first | (rw [if_pos (by omega)]; done) | (rw [if_neg (by omega)]; done)))
  · refine a_iconst dX0_asItGoes_19 ?_
    refine a_goto (tgt := 24) dX0_asItGoes_20 (by decide) ?_
    refine a_putI (j' := 2) dX0_asItGoes_24 flX0_45 rfl rfl (L50 L) (by decide) rfl ⟨by omega, by omega⟩ ?_
    exact a_return dX0_asItGoes_27 rfl rfl rfl (zdet_V (by first | (rw [if_pos (by omega)]; done) | (rw [if_neg (by omega)]; done)))

set_option maxRecDepth 100000 in
set_option maxHeartbeats 4000000 in
theorem m_X0_asDrawn {G : zG} {l : Launch} {L : Nat} {P : zP} {M : zM} {t : Nat} (hP : PFok P) (hTp : P 50 0 = some t) (hT : ToA L P t) (ht : t = 4 ∨ t = 23) (hTI : ToI M t) : AM G l yX0_asDrawn mdX0_asDrawn [aR 50] (LAY L) P M (zdet none (LAY L) P (sm (sm (sm (sm (sm M 50 1 (M (t + 10) 0)) 50 3 1) 50 4 1) 50 5 (-1)) 50 2 (if M (t + 10) 2 = 0 then 0 else if M (t + 10) 2 = 100 then 1 else 2))) := by
  refine AM.go [some (aR 50), none] rfl (Nat.le_of_ble_eq_true rfl) ?_ (by decide) rfl rfl
  refine a_aloadn dX0_asDrawn_0 rfl ?_
  refine a_callVv (as := []) (q := 50) dX0_asDrawn_1 mvX0_42 ⟨by decide, by decide⟩ (L50 L) rfl rfl rfl (Nat.le_of_ble_eq_true rfl) ⟨rfl, rfl⟩ ⟨by decide, by decide⟩ (m_X0_asTold hP hTp hT ht hTI) ?_
  refine a_aloadn dX0_asDrawn_4 rfl ?_
  refine a_getR (j' := 0) (y := t) dX0_asDrawn_5 flX0_18 rfl rfl (L50 L) hTp ?_
  refine a_getR (j' := 14) (y := (t + 10)) dX0_asDrawn_8 flX0_22 rfl rfl hT.1.2.1 hT.1.2.2.2.2.2.2.2.2.2.2.2.1.2 ?_
  refine a_iconst dX0_asDrawn_11 ?_
  refine b_iald (N := 4) dX0_asDrawn_12 hT.1.2.2.2.2.2.2.2.2.2.2.2.1.1 (by decide) (by omega) (by omega) (fun hr12 => ?_)
  have e9 : (sm (sm (sm (sm M 50 1 (M (t + 10) 0)) 50 3 1) 50 4 1) 50 5 (-1)) (t + 10) 2 = M (t + 10) 2 := by rw [sm_n (by omega), sm_n (by omega), sm_n (by omega), sm_n (by omega)]
  rw [e9] at hr12
  rw [e9]
  refine c_istoren (ls' := [_, _]) dX0_asDrawn_13 (by decide) rfl rfl ?_
  refine a_aloadn dX0_asDrawn_14 rfl ?_
  refine a_iloadn dX0_asDrawn_15 rfl ?_
  refine a_if_ne (tgt := 23) dX0_asDrawn_16 (by decide) ⟨by omega, by omega⟩ (fun hb16 => ?_) (fun hb16 => ?_)
  · refine a_iloadn dX0_asDrawn_23 rfl ?_
    refine a_bipush (w := 100) dX0_asDrawn_24 (by decide) ?_
    refine a_icmp_ne (tgt := 33) dX0_asDrawn_26 (by decide) ⟨by omega, by omega⟩ ⟨by omega, by omega⟩ (fun hb26 => ?_) (fun hb26 => ?_)
    · refine a_iconst dX0_asDrawn_33 ?_
      refine a_putI (j' := 2) dX0_asDrawn_34 flX0_45 rfl rfl (L50 L) (by decide) rfl ⟨by omega, by omega⟩ ?_
      exact a_return dX0_asDrawn_37 rfl rfl rfl (zdet_V (by first | (rw [if_pos (by omega)]; done) | (rw [if_neg (by omega), if_pos (by omega)]; done) | (rw [if_neg (by omega), if_neg (by omega)]; done)))
    · refine a_iconst dX0_asDrawn_29 ?_
      refine a_goto (tgt := 34) dX0_asDrawn_30 (by decide) ?_
      refine a_putI (j' := 2) dX0_asDrawn_34 flX0_45 rfl rfl (L50 L) (by decide) rfl ⟨by omega, by omega⟩ ?_
      exact a_return dX0_asDrawn_37 rfl rfl rfl (zdet_V (by first | (rw [if_pos (by omega)]; done) | (rw [if_neg (by omega), if_pos (by omega)]; done) | (rw [if_neg (by omega), if_neg (by omega)]; done)))
  · refine a_iconst dX0_asDrawn_19 ?_
    refine a_goto (tgt := 34) dX0_asDrawn_20 (by decide) ?_
    refine a_putI (j' := 2) dX0_asDrawn_34 flX0_45 rfl rfl (L50 L) (by decide) rfl ⟨by omega, by omega⟩ ?_
    exact a_return dX0_asDrawn_37 rfl rfl rfl (zdet_V (by first | (rw [if_pos (by omega)]; done) | (rw [if_neg (by omega), if_pos (by omega)]; done) | (rw [if_neg (by omega), if_neg (by omega)]; done)))

set_option maxRecDepth 100000 in
set_option maxHeartbeats 4000000 in
theorem m_X0_lookAt {G : zG} {l : Launch} {L : Nat} {P : zP} {M : zM} {a : Nat} {h f kd tm : Int} (hP : PFok P) (hS : StA L P a) (ha : a = 61 ∨ a = 67) (hI : StI M a) (h0 : 0 ≤ h) (h1 : h < 6) (hf : 0 ≤ f ∧ f ≤ 99) (hk : 0 ≤ kd ∧ kd ≤ 9) (hm : 0 ≤ tm ∧ tm ≤ 999) : AM G l yX0_lookAt mdX0_lookAt [aR 50, aR a, aI h, aI f, aI kd, aI tm] (LAY L) P M (zrel none (LAY L) P (fun M' => (∀ (k : Nat) (i : Int), k ≠ 52 → M' k i = M k i) ∧ ∀ i : Int, 0 ≤ i → i < 7 → M' 52 i = nmf (M (a + 1) h) (M (a + 2) h) f kd tm (bcnt (M (a + 3) h)) (M a 5) i)) := by
  refine AM.go [some (aR 50), some (aR a), some (aI h), some (aI f), some (aI kd), some (aI tm)] rfl (Nat.le_of_ble_eq_true rfl) ?_ (by decide) rfl rfl
  refine a_aloadn dX0_lookAt_0 rfl ?_
  refine a_getR (j' := 6) (y := 51) dX0_lookAt_1 flX0_12 rfl rfl (L50 L) (p50_6 hP) ?_
  refine a_getR (j' := 0) (y := 52) dX0_lookAt_4 flX0_157 rfl rfl (L51 L) (p51_0 hP) ?_
  refine a_iconst dX0_lookAt_7 ?_
  refine a_aloadn dX0_lookAt_8 rfl ?_
  refine a_getR (j' := 0) (y := (a + 1)) dX0_lookAt_9 flX0_80 rfl rfl hS.2.1 hS.2.2.1.2 ?_
  refine a_iloadn dX0_lookAt_12 rfl ?_
  refine b_iald (N := 6) dX0_lookAt_13 hS.2.2.1.1 (by decide) (by omega) (by omega) (fun hr13 => ?_)
  refine a_i2l dX0_lookAt_14 ⟨by omega, by omega⟩ ?_
  have q1 := hI.1 h h0 h1
  refine a_last (N := 7) dX0_lookAt_15 (L52 L) (by decide) (by decide) (by decide) (by decide) ⟨by omega, by omega⟩ ?_
  refine a_aloadn dX0_lookAt_16 rfl ?_
  refine a_getR (j' := 6) (y := 51) dX0_lookAt_17 flX0_12 rfl rfl (L50 L) (p50_6 hP) ?_
  refine a_getR (j' := 0) (y := 52) dX0_lookAt_20 flX0_157 rfl rfl (L51 L) (p51_0 hP) ?_
  refine a_iconst dX0_lookAt_23 ?_
  refine a_aloadn dX0_lookAt_24 rfl ?_
  refine a_getR (j' := 1) (y := (a + 2)) dX0_lookAt_25 flX0_147 rfl rfl hS.2.1 hS.2.2.2.1.2 ?_
  refine a_iloadn dX0_lookAt_28 rfl ?_
  refine b_iald (N := 6) dX0_lookAt_29 hS.2.2.2.1.1 (by decide) (by omega) (by omega) (fun hr29 => ?_)
  refine a_i2l dX0_lookAt_30 ⟨by omega, by omega⟩ ?_
  have e30 : sm M 52 0 (M (a + 1) h) (a + 2) h = M (a + 2) h := by rw [sm_n (by omega)]
  rw [e30] at hr29
  rw [e30]
  refine a_last (N := 7) dX0_lookAt_31 (L52 L) (by decide) (by decide) (by decide) (by decide) ⟨by omega, by omega⟩ ?_
  refine a_aloadn dX0_lookAt_32 rfl ?_
  refine a_getR (j' := 6) (y := 51) dX0_lookAt_33 flX0_12 rfl rfl (L50 L) (p50_6 hP) ?_
  refine a_getR (j' := 0) (y := 52) dX0_lookAt_36 flX0_157 rfl rfl (L51 L) (p51_0 hP) ?_
  refine a_iconst dX0_lookAt_39 ?_
  refine a_iloadn dX0_lookAt_40 rfl ?_
  refine a_i2l dX0_lookAt_41 ⟨by omega, by omega⟩ ?_
  refine a_last (N := 7) dX0_lookAt_42 (L52 L) (by decide) (by decide) (by decide) (by decide) ⟨by omega, by omega⟩ ?_
  refine a_aloadn dX0_lookAt_43 rfl ?_
  refine a_getR (j' := 6) (y := 51) dX0_lookAt_44 flX0_12 rfl rfl (L50 L) (p50_6 hP) ?_
  refine a_getR (j' := 0) (y := 52) dX0_lookAt_47 flX0_157 rfl rfl (L51 L) (p51_0 hP) ?_
  refine a_iconst dX0_lookAt_50 ?_
  refine a_iload dX0_lookAt_51 rfl ?_
  refine a_i2l dX0_lookAt_53 ⟨by omega, by omega⟩ ?_
  refine a_last (N := 7) dX0_lookAt_54 (L52 L) (by decide) (by decide) (by decide) (by decide) ⟨by omega, by omega⟩ ?_
  refine a_aloadn dX0_lookAt_55 rfl ?_
  refine a_getR (j' := 6) (y := 51) dX0_lookAt_56 flX0_12 rfl rfl (L50 L) (p50_6 hP) ?_
  refine a_getR (j' := 0) (y := 52) dX0_lookAt_59 flX0_157 rfl rfl (L51 L) (p51_0 hP) ?_
  refine a_iconst dX0_lookAt_62 ?_
  refine a_iload dX0_lookAt_63 rfl ?_
  refine a_i2l dX0_lookAt_65 ⟨by omega, by omega⟩ ?_
  refine a_last (N := 7) dX0_lookAt_66 (L52 L) (by decide) (by decide) (by decide) (by decide) ⟨by omega, by omega⟩ ?_
  refine a_aloadn dX0_lookAt_67 rfl ?_
  refine a_getR (j' := 6) (y := 51) dX0_lookAt_68 flX0_12 rfl rfl (L50 L) (p50_6 hP) ?_
  refine a_getR (j' := 0) (y := 52) dX0_lookAt_71 flX0_157 rfl rfl (L51 L) (p51_0 hP) ?_
  refine a_iconst dX0_lookAt_74 ?_
  refine a_aloadn dX0_lookAt_75 rfl ?_
  refine a_getR (j' := 2) (y := (a + 3)) dX0_lookAt_76 flX0_124 rfl rfl hS.2.1 hS.2.2.2.2.1.2 ?_
  refine a_iloadn dX0_lookAt_79 rfl ?_
  refine b_iald (N := 6) dX0_lookAt_80 hS.2.2.2.2.1.1 (by decide) (by omega) (by omega) (fun hr80 => ?_)
  refine a_callSA (as := [_]) dX0_lookAt_81 mvX0_161 ⟨by decide, by decide⟩ rfl rfl (Nat.le_of_ble_eq_true rfl) ⟨rfl, rfl⟩ ⟨by decide, by decide⟩ m_J6_bitCount_0f7a4 ?_
  have qk := hI.2.2.1 h h0 h1
  have e80 : (sm (sm (sm (sm (sm M 52 0 (M (a + 1) h)) 52 1 (M (a + 2) h)) 52 2 f) 52 3 kd) 52 4 tm) (a + 3) h = M (a + 3) h := by rw [sm_n (by omega), sm_n (by omega), sm_n (by omega), sm_n (by omega), sm_n (by omega)]
  rw [e80]
  have qb := bcnt_in qk
  refine a_i2l dX0_lookAt_84 ⟨by omega, by omega⟩ ?_
  refine a_last (N := 7) dX0_lookAt_85 (L52 L) (by decide) (by decide) (by decide) (by decide) ⟨by omega, by omega⟩ ?_
  refine a_aloadn dX0_lookAt_86 rfl ?_
  refine a_getR (j' := 6) (y := 51) dX0_lookAt_87 flX0_12 rfl rfl (L50 L) (p50_6 hP) ?_
  refine a_getR (j' := 0) (y := 52) dX0_lookAt_90 flX0_157 rfl rfl (L51 L) (p51_0 hP) ?_
  refine a_bipush (w := 6) dX0_lookAt_93 (by decide) ?_
  refine a_aloadn dX0_lookAt_95 rfl ?_
  refine b_getI (j' := 5) dX0_lookAt_96 flX0_48 rfl rfl hS.2.1 (fun hr96 => ?_)
  refine a_i2l dX0_lookAt_99 ⟨by omega, by omega⟩ ?_
  have e96 : (sm (sm (sm (sm (sm (sm M 52 0 (M (a + 1) h)) 52 1 (M (a + 2) h)) 52 2 f) 52 3 kd) 52 4 tm) 52 5 (bcnt (M (a + 3) h))) a 5 = M a 5 := by rw [sm_n (by omega), sm_n (by omega), sm_n (by omega), sm_n (by omega), sm_n (by omega), sm_n (by omega)]
  rw [e96] at hr96
  rw [e96]
  refine a_last (N := 7) dX0_lookAt_100 (L52 L) (by decide) (by decide) (by decide) (by decide) ⟨by omega, by omega⟩ ?_
  exact a_return dX0_lookAt_101 rfl rfl rfl (zrel_V ⟨fun k i hk9 => by rw [sm_n hk9, sm_n hk9, sm_n hk9, sm_n hk9, sm_n hk9, sm_n hk9, sm_n hk9], fun i i0 i1 => by
      rcases (show i = 0 ∨ i = 1 ∨ i = 2 ∨ i = 3 ∨ i = 4 ∨ i = 5 ∨ i = 6 by omega) with rfl | rfl | rfl | rfl | rfl | rfl | rfl <;> simp [sm, ur, us, nmf]⟩)

set_option maxRecDepth 100000 in
set_option maxHeartbeats 4000000 in
theorem m_X0_doesHear {G : zG} {l : Launch} {L : Nat} {P : zP} {M : zM} {a t : Nat} {h o : Int} (hP : PFok P) (hTp : P 50 0 = some t) (hT : ToA L P t) (ht : t = 4 ∨ t = 23) (hTI : ToI M t) (hW0 : LwI M (t + 13)) (hS : StA L P a) (ha : a = 61 ∨ a = 67) (hI : StI M a) (hnr : 0 ≤ M 50 1 ∧ M 50 1 ≤ 20) (h0 : 0 ≤ h) (h1 : h < 6) (o0 : 0 ≤ o) (o1 : o < 6) : AM G l yX0_doesHear mdX0_doesHear [aR 50, aR a, aI h, aI o] (LAY L) P M (zany (LAY L) P (fun x M' => Ec M M' ∧ x = hrv (lwf M (t + 13)) (M 50 1) (M (a + 1) h) (M (a + 1) o) (M (a + 2) h) (M (a + 5) (h * 6 + o)) (bcnt (M (a + 3) h)) (M a 5))) := by
  have q1 := hI.1 h h0 h1
  have q2 := hI.1 o o0 o1
  have q3 := hI.2.1 h h0 h1
  have q4 := hI.2.2.2.2.1 (h * 6 + o) (by omega) (by omega)
  have q5 := hI.2.2.1 h h0 h1
  have q6 := bcnt_in q5
  have q7 := hI.2.2.2.2.2.1
  have q8 := iabs_99 q1 q2
  refine AM.go [some (aR 50), some (aR a), some (aI h), some (aI o), none, none] rfl (Nat.le_of_ble_eq_true rfl) ?_ (by decide) rfl rfl
  refine a_aloadn dX0_doesHear_0 rfl ?_
  refine a_iloadn dX0_doesHear_1 rfl ?_
  refine a_iloadn dX0_doesHear_2 rfl ?_
  refine a_callV (as := [_, _]) (q := a) dX0_doesHear_3 mvX0_150 ⟨by decide, by decide⟩ hS.2.1 rfl rfl rfl (Nat.le_of_ble_eq_true rfl) ⟨rfl, rfl⟩ ⟨by decide, by decide⟩ (m_X5_apart hS hI h0 h1 o0 o1) ?_
  refine c_istore (ls' := [_, _, _, _, _, _]) dX0_doesHear_6 (by decide) rfl rfl ?_
  refine a_aloadn dX0_doesHear_8 rfl ?_
  refine b_getI (j' := 1) dX0_doesHear_9 flX0_28 rfl rfl (L50 L) (fun hr9 => ?_)
  refine a_aloadn dX0_doesHear_12 rfl ?_
  refine a_getR (j' := 1) (y := (a + 2)) dX0_doesHear_13 flX0_147 rfl rfl hS.2.1 hS.2.2.2.1.2 ?_
  refine a_iloadn dX0_doesHear_16 rfl ?_
  refine b_iald (N := 6) dX0_doesHear_17 hS.2.2.2.1.1 (by decide) (by omega) (by omega) (fun hr17 => ?_)
  refine a_iadd dX0_doesHear_18 ?_
  refine c_istore (ls' := [_, _, _, _, _, _]) dX0_doesHear_19 (by decide) rfl rfl ?_
  refine a_aloadn dX0_doesHear_21 rfl ?_
  refine a_getR (j' := 0) (y := t) dX0_doesHear_22 flX0_18 rfl rfl (L50 L) hTp ?_
  refine a_getR (j' := 16) (y := (t + 12)) dX0_doesHear_25 flX0_60 rfl rfl hT.1.2.1 hT.1.2.2.2.2.2.2.2.2.2.2.2.2.2.2 ?_
  refine a_iconst dX0_doesHear_28 ?_
  refine a_aald3 (N := 3) (y := (t + 13)) dX0_doesHear_29 hT.1.2.2.2.2.2.2.2.2.2.2.2.2.2.1 (by decide) (by omega) (by omega) hT.2.1.1 ?_
  refine b_getI (j' := 1) dX0_doesHear_30 flX0_64 rfl rfl hT.2.1.2.2.1 (fun hr30 => ?_)
  refine a_if_le (tgt := 85) dX0_doesHear_33 (by decide) ⟨by omega, by omega⟩ (fun hb33 => ?_) (fun hb33 => ?_)
  · refine a_iload dX0_doesHear_85 rfl ?_
    refine a_iload dX0_doesHear_87 rfl ?_
    refine a_icmp_gt (tgt := 96) dX0_doesHear_89 (by decide) ⟨by omega, by omega⟩ (by first | exact ⟨by omega, by omega⟩ | (split <;> first | exact ⟨by omega, by omega⟩ | (split <;> exact ⟨by omega, by omega⟩))) (fun hb89 => ?_) (fun hb89 => ?_)
    · refine a_iconst dX0_doesHear_96 ?_
      exact a_zreturn dX0_doesHear_97 rfl rfl rfl (by omega) (by first
      | exact zany_i ⟨Ec.rf M, by rw [hrv_n (lwf_0 hb33 _)]; first | (rw [if_pos (Int.not_lt.mp hb89)]; done) | (rw [if_neg (Int.not_le.mpr hb89)]; done)⟩
      | exact zany_i ⟨hE2.1, by rw [hrv_s hv]; first | (rw [if_pos (Int.not_lt.mp hb89)]; done) | (rw [if_neg (Int.not_le.mpr hb89)]; done)⟩
      | exact zany_i ⟨hE2.1, by rw [hrv_n (hE2.2.resolve_left (fun z => by omega)).2]; first | (rw [if_pos (Int.not_lt.mp hb89)]; done) | (rw [if_neg (Int.not_le.mpr hb89)]; done)⟩)
    · refine a_iconst dX0_doesHear_92 ?_
      refine a_goto (tgt := 97) dX0_doesHear_93 (by decide) ?_
      exact a_zreturn dX0_doesHear_97 rfl rfl rfl (by omega) (by first
      | exact zany_i ⟨Ec.rf M, by rw [hrv_n (lwf_0 hb33 _)]; first | (rw [if_pos (Int.not_lt.mp hb89)]; done) | (rw [if_neg (Int.not_le.mpr hb89)]; done)⟩
      | exact zany_i ⟨hE2.1, by rw [hrv_s hv]; first | (rw [if_pos (Int.not_lt.mp hb89)]; done) | (rw [if_neg (Int.not_le.mpr hb89)]; done)⟩
      | exact zany_i ⟨hE2.1, by rw [hrv_n (hE2.2.resolve_left (fun z => by omega)).2]; first | (rw [if_pos (Int.not_lt.mp hb89)]; done) | (rw [if_neg (Int.not_le.mpr hb89)]; done)⟩)
  · refine a_aloadn dX0_doesHear_36 rfl ?_
    refine a_aloadn dX0_doesHear_37 rfl ?_
    refine a_iloadn dX0_doesHear_38 rfl ?_
    refine a_iload dX0_doesHear_39 rfl ?_
    refine a_iconst dX0_doesHear_41 ?_
    refine a_aloadn dX0_doesHear_42 rfl ?_
    refine a_iloadn dX0_doesHear_43 rfl ?_
    refine a_iloadn dX0_doesHear_44 rfl ?_
    refine a_callV (as := [_, _]) (q := a) dX0_doesHear_45 mvX0_116 ⟨by decide, by decide⟩ hS.2.1 rfl rfl rfl (Nat.le_of_ble_eq_true rfl) ⟨rfl, rfl⟩ ⟨by decide, by decide⟩ (m_X5_timesHeard hS h0 h1 o0 o1) ?_
    refine a_relVv (as := [_, _, _, _, _]) (q := 50) dX0_doesHear_48 mvX0_127 ⟨by decide, by decide⟩ (L50 L) rfl rfl rfl (Nat.le_of_ble_eq_true rfl) ⟨rfl, rfl⟩ ⟨by decide, by decide⟩ (m_X0_lookAt hP hS ha hI h0 h1 q8 ⟨by omega, by omega⟩ q4) (fun M1 hM1 => ?_)
    refine a_aloadn dX0_doesHear_51 rfl ?_
    refine a_getR (j' := 6) (y := 51) dX0_doesHear_52 flX0_12 rfl rfl (L50 L) (p50_6 hP) ?_
    refine a_aloadn dX0_doesHear_55 rfl ?_
    refine a_getR (j' := 0) (y := t) dX0_doesHear_56 flX0_18 rfl rfl (L50 L) hTp ?_
    refine a_getR (j' := 16) (y := (t + 12)) dX0_doesHear_59 flX0_60 rfl rfl hT.1.2.1 hT.1.2.2.2.2.2.2.2.2.2.2.2.2.2.2 ?_
    refine a_iconst dX0_doesHear_62 ?_
    refine a_aald3 (N := 3) (y := (t + 13)) dX0_doesHear_63 hT.1.2.2.2.2.2.2.2.2.2.2.2.2.2.1 (by decide) (by omega) (by omega) hT.2.1.1 ?_
    refine a_anyV (as := [_]) (q := 51) dX0_doesHear_64 mvX0_131 ⟨by decide, by decide⟩ (L51 L) rfl rfl rfl (Nat.le_of_ble_eq_true rfl) ⟨rfl, rfl⟩ ⟨by decide, by decide⟩ (m_X6_isWorkedOut hP (w := t + 13) hT.2.1.2 (by omega) (LwI_lk (by omega) hM1.1 hW0) (nmf_lim hM1.2 q1 q3 q8 ⟨by omega, by omega⟩ q4 q6 q7)) (fun x3 M2 hM2 => ?_)
    have hE2 := lw_use hW0 (by omega) hM1 hM2
    refine a_if_eq (tgt := 85) dX0_doesHear_67 (by decide) (by rcases hE2.2 with z | z <;> exact ⟨by omega, by omega⟩) (fun hb67 => ?_) (fun hb67 => ?_)
    · refine a_iload dX0_doesHear_85 rfl ?_
      refine a_iload dX0_doesHear_87 rfl ?_
      refine a_icmp_gt (tgt := 96) dX0_doesHear_89 (by decide) ⟨by omega, by omega⟩ (by first | exact ⟨by omega, by omega⟩ | (split <;> first | exact ⟨by omega, by omega⟩ | (split <;> exact ⟨by omega, by omega⟩))) (fun hb89 => ?_) (fun hb89 => ?_)
      · refine a_iconst dX0_doesHear_96 ?_
        exact a_zreturn dX0_doesHear_97 rfl rfl rfl (by omega) (by first
      | exact zany_i ⟨Ec.rf M, by rw [hrv_n (lwf_0 hb33 _)]; first | (rw [if_pos (Int.not_lt.mp hb89)]; done) | (rw [if_neg (Int.not_le.mpr hb89)]; done)⟩
      | exact zany_i ⟨hE2.1, by rw [hrv_s hv]; first | (rw [if_pos (Int.not_lt.mp hb89)]; done) | (rw [if_neg (Int.not_le.mpr hb89)]; done)⟩
      | exact zany_i ⟨hE2.1, by rw [hrv_n (hE2.2.resolve_left (fun z => by omega)).2]; first | (rw [if_pos (Int.not_lt.mp hb89)]; done) | (rw [if_neg (Int.not_le.mpr hb89)]; done)⟩)
      · refine a_iconst dX0_doesHear_92 ?_
        refine a_goto (tgt := 97) dX0_doesHear_93 (by decide) ?_
        exact a_zreturn dX0_doesHear_97 rfl rfl rfl (by omega) (by first
      | exact zany_i ⟨Ec.rf M, by rw [hrv_n (lwf_0 hb33 _)]; first | (rw [if_pos (Int.not_lt.mp hb89)]; done) | (rw [if_neg (Int.not_le.mpr hb89)]; done)⟩
      | exact zany_i ⟨hE2.1, by rw [hrv_s hv]; first | (rw [if_pos (Int.not_lt.mp hb89)]; done) | (rw [if_neg (Int.not_le.mpr hb89)]; done)⟩
      | exact zany_i ⟨hE2.1, by rw [hrv_n (hE2.2.resolve_left (fun z => by omega)).2]; first | (rw [if_pos (Int.not_lt.mp hb89)]; done) | (rw [if_neg (Int.not_le.mpr hb89)]; done)⟩)
    · have hv := (hE2.2.resolve_right (fun z => hb67 z.1)).2
      refine a_aloadn dX0_doesHear_70 rfl ?_
      refine a_getR (j' := 6) (y := 51) dX0_doesHear_71 flX0_12 rfl rfl (L50 L) (p50_6 hP) ?_
      refine b_getL (j' := 2) dX0_doesHear_74 flX0_135 rfl rfl (L51 L) (fun hr74 => ?_)
      refine a_iconst dX0_doesHear_77 ?_
      refine a_bipush (w := 99) dX0_doesHear_78 (by decide) ?_
      have q9 : inL (M2 51 2) := hr74
      refine a_callS (as := [_, _, _]) dX0_doesHear_80 mvX0_139 ⟨by decide, by decide⟩ rfl rfl (Nat.le_of_ble_eq_true rfl) ⟨rfl, rfl⟩ ⟨by decide, by decide⟩ (m_X0_cutTo q9 ⟨by decide, by decide⟩ ⟨by decide, by decide⟩) ?_
      refine c_istore (ls' := [_, _, _, _, _, _]) dX0_doesHear_83 (by decide) rfl rfl ?_
      refine a_iload dX0_doesHear_85 rfl ?_
      refine a_iload dX0_doesHear_87 rfl ?_
      refine a_icmp_gt (tgt := 96) dX0_doesHear_89 (by decide) ⟨by omega, by omega⟩ (by first | exact ⟨by omega, by omega⟩ | (split <;> first | exact ⟨by omega, by omega⟩ | (split <;> exact ⟨by omega, by omega⟩))) (fun hb89 => ?_) (fun hb89 => ?_)
      · refine a_iconst dX0_doesHear_96 ?_
        exact a_zreturn dX0_doesHear_97 rfl rfl rfl (by omega) (by first
      | exact zany_i ⟨Ec.rf M, by rw [hrv_n (lwf_0 hb33 _)]; first | (rw [if_pos (Int.not_lt.mp hb89)]; done) | (rw [if_neg (Int.not_le.mpr hb89)]; done)⟩
      | exact zany_i ⟨hE2.1, by rw [hrv_s hv]; first | (rw [if_pos (Int.not_lt.mp hb89)]; done) | (rw [if_neg (Int.not_le.mpr hb89)]; done)⟩
      | exact zany_i ⟨hE2.1, by rw [hrv_n (hE2.2.resolve_left (fun z => by omega)).2]; first | (rw [if_pos (Int.not_lt.mp hb89)]; done) | (rw [if_neg (Int.not_le.mpr hb89)]; done)⟩)
      · refine a_iconst dX0_doesHear_92 ?_
        refine a_goto (tgt := 97) dX0_doesHear_93 (by decide) ?_
        exact a_zreturn dX0_doesHear_97 rfl rfl rfl (by omega) (by first
      | exact zany_i ⟨Ec.rf M, by rw [hrv_n (lwf_0 hb33 _)]; first | (rw [if_pos (Int.not_lt.mp hb89)]; done) | (rw [if_neg (Int.not_le.mpr hb89)]; done)⟩
      | exact zany_i ⟨hE2.1, by rw [hrv_s hv]; first | (rw [if_pos (Int.not_lt.mp hb89)]; done) | (rw [if_neg (Int.not_le.mpr hb89)]; done)⟩
      | exact zany_i ⟨hE2.1, by rw [hrv_n (hE2.2.resolve_left (fun z => by omega)).2]; first | (rw [if_pos (Int.not_lt.mp hb89)]; done) | (rw [if_neg (Int.not_le.mpr hb89)]; done)⟩)

set_option maxRecDepth 100000 in
set_option maxHeartbeats 4000000 in
theorem m_X0_needed {G : zG} {l : Launch} {L : Nat} {P : zP} {M : zM} {a t : Nat} {h o kd : Int} (hP : PFok P) (hTp : P 50 0 = some t) (hT : ToA L P t) (ht : t = 4 ∨ t = 23) (hTI : ToI M t) (hW1 : LwI M (t + 15)) (hS : StA L P a) (ha : a = 61 ∨ a = 67) (hI : StI M a) (h0 : 0 ≤ h) (h1 : h < 6) (o0 : 0 ≤ o) (o1 : o < 6) (hkd : 0 ≤ kd ∧ kd ≤ 9) : AM G l yX0_needed mdX0_needed [aR 50, aR a, aI h, aI o, aI kd] (LAY L) P M (zany (LAY L) P (fun x M' => Ec M M' ∧ x = ndv (lwf M (t + 15)) (M (t + 10) 1) (M (a + 1) h) (M (a + 1) o) (M (a + 2) h) kd (M (a + 5) (h * 6 + o)) (bcnt (M (a + 3) h)) (M a 5))) := by
  have q1 := hI.1 h h0 h1
  have q2 := hI.1 o o0 o1
  have q3 := hI.2.1 h h0 h1
  have q4 := hI.2.2.2.2.1 (h * 6 + o) (by omega) (by omega)
  have q5 := hI.2.2.1 h h0 h1
  have q6 := bcnt_in q5
  have q7 := hI.2.2.2.2.2.1
  have q8 := iabs_99 q1 q2
  refine AM.go [some (aR 50), some (aR a), some (aI h), some (aI o), some (aI kd)] rfl (Nat.le_of_ble_eq_true rfl) ?_ (by decide) rfl rfl
  refine a_aloadn dX0_needed_0 rfl ?_
  refine a_aloadn dX0_needed_1 rfl ?_
  refine a_iloadn dX0_needed_2 rfl ?_
  refine a_aloadn dX0_needed_3 rfl ?_
  refine a_iloadn dX0_needed_4 rfl ?_
  refine a_iloadn dX0_needed_5 rfl ?_
  refine a_callV (as := [_, _]) (q := a) dX0_needed_6 mvX0_150 ⟨by decide, by decide⟩ hS.2.1 rfl rfl rfl (Nat.le_of_ble_eq_true rfl) ⟨rfl, rfl⟩ ⟨by decide, by decide⟩ (m_X5_apart hS hI h0 h1 o0 o1) ?_
  refine a_iload dX0_needed_9 rfl ?_
  refine a_aloadn dX0_needed_11 rfl ?_
  refine a_iloadn dX0_needed_12 rfl ?_
  refine a_iloadn dX0_needed_13 rfl ?_
  refine a_callV (as := [_, _]) (q := a) dX0_needed_14 mvX0_116 ⟨by decide, by decide⟩ hS.2.1 rfl rfl rfl (Nat.le_of_ble_eq_true rfl) ⟨rfl, rfl⟩ ⟨by decide, by decide⟩ (m_X5_timesHeard hS h0 h1 o0 o1) ?_
  refine a_relVv (as := [_, _, _, _, _]) (q := 50) dX0_needed_17 mvX0_127 ⟨by decide, by decide⟩ (L50 L) rfl rfl rfl (Nat.le_of_ble_eq_true rfl) ⟨rfl, rfl⟩ ⟨by decide, by decide⟩ (m_X0_lookAt hP hS ha hI h0 h1 q8 hkd q4) (fun M1 hM1 => ?_)
  refine a_aloadn dX0_needed_20 rfl ?_
  refine a_getR (j' := 6) (y := 51) dX0_needed_21 flX0_12 rfl rfl (L50 L) (p50_6 hP) ?_
  refine a_aloadn dX0_needed_24 rfl ?_
  refine a_getR (j' := 0) (y := t) dX0_needed_25 flX0_18 rfl rfl (L50 L) hTp ?_
  refine a_getR (j' := 16) (y := (t + 12)) dX0_needed_28 flX0_60 rfl rfl hT.1.2.1 hT.1.2.2.2.2.2.2.2.2.2.2.2.2.2.2 ?_
  refine a_iconst dX0_needed_31 ?_
  refine a_aald3 (N := 3) (y := (t + 15)) dX0_needed_32 hT.1.2.2.2.2.2.2.2.2.2.2.2.2.2.1 (by decide) (by omega) (by omega) hT.2.2.1.1 ?_
  refine a_anyV (as := [_]) (q := 51) dX0_needed_33 mvX0_131 ⟨by decide, by decide⟩ (L51 L) rfl rfl rfl (Nat.le_of_ble_eq_true rfl) ⟨rfl, rfl⟩ ⟨by decide, by decide⟩ (m_X6_isWorkedOut hP (w := t + 15) hT.2.2.1.2 (by omega) (LwI_lk (by omega) hM1.1 hW1) (nmf_lim hM1.2 q1 q3 q8 hkd q4 q6 q7)) (fun x3 M2 hM2 => ?_)
  have hE2 := lw_use hW1 (by omega) hM1 hM2
  refine a_if_eq (tgt := 55) dX0_needed_36 (by decide) (by rcases hE2.2 with z | z <;> exact ⟨by omega, by omega⟩) (fun hb36 => ?_) (fun hb36 => ?_)
  · refine a_aloadn dX0_needed_55 rfl ?_
    refine a_getR (j' := 0) (y := t) dX0_needed_56 flX0_18 rfl rfl (L50 L) hTp ?_
    refine a_getR (j' := 14) (y := (t + 10)) dX0_needed_59 flX0_22 rfl rfl hT.1.2.1 hT.1.2.2.2.2.2.2.2.2.2.2.2.1.2 ?_
    refine a_iconst dX0_needed_62 ?_
    refine b_iald (N := 4) dX0_needed_63 hT.1.2.2.2.2.2.2.2.2.2.2.2.1.1 (by decide) (by omega) (by omega) (fun hr63 => ?_)
    exact a_ireturn dX0_needed_64 rfl rfl rfl (by first
      | exact zany_i ⟨hE2.1, by rw [ndv_s hv]⟩
      | exact zany_i ⟨hE2.1, by rw [ndv_n (hE2.2.resolve_left (fun z => by omega)).2]; exact hE2.1 _ _ (by omega) (by omega) (by omega)⟩)
  · have hv := (hE2.2.resolve_right (fun z => hb36 z.1)).2
    refine a_aloadn dX0_needed_39 rfl ?_
    refine a_getR (j' := 6) (y := 51) dX0_needed_40 flX0_12 rfl rfl (L50 L) (p50_6 hP) ?_
    refine b_getL (j' := 2) dX0_needed_43 flX0_135 rfl rfl (L51 L) (fun hr43 => ?_)
    refine a_iconst dX0_needed_46 ?_
    refine a_bipush (w := 99) dX0_needed_47 (by decide) ?_
    have q9 : inL (M2 51 2) := hr43
    refine a_callS (as := [_, _, _]) dX0_needed_49 mvX0_139 ⟨by decide, by decide⟩ rfl rfl (Nat.le_of_ble_eq_true rfl) ⟨rfl, rfl⟩ ⟨by decide, by decide⟩ (m_X0_cutTo q9 ⟨by decide, by decide⟩ ⟨by decide, by decide⟩) ?_
    refine a_goto (tgt := 64) dX0_needed_52 (by decide) ?_
    exact a_ireturn dX0_needed_64 rfl rfl rfl (by first
      | exact zany_i ⟨hE2.1, by rw [ndv_s hv]⟩
      | exact zany_i ⟨hE2.1, by rw [ndv_n (hE2.2.resolve_left (fun z => by omega)).2]; exact hE2.1 _ _ (by omega) (by omega) (by omega)⟩)
