set_option maxRecDepth 100000 in
set_option maxHeartbeats 4000000 in
theorem m_X10_isWithin {G : zG} {l : Launch} {L : Nat} {P : zP} {M : zM} {x lo hi : Int} (rx : inR x) (rlo : inR lo) (rhi : inR hi) : AM G l yX10_isWithin mdX10_isWithin [aI x, aI lo, aI hi] (LAY L) P M (zone (LAY L) P M (fun r => (r = 1 ∧ lo ≤ x ∧ x ≤ hi) ∨ (r = 0 ∧ (x < lo ∨ hi < x)))) := by
  refine AM.go [some (aI x), some (aI lo), some (aI hi)] rfl (Nat.le_of_ble_eq_true rfl) ?_ (by decide) rfl rfl
  refine a_iloadn dX10_isWithin_0 rfl ?_
  refine a_iloadn dX10_isWithin_1 rfl ?_
  refine a_icmp_lt (tgt := 14) dX10_isWithin_2 (by decide) ⟨by omega, by omega⟩ ⟨by omega, by omega⟩ (fun hb2 => ?_) (fun hb2 => ?_)
  · refine a_iconst dX10_isWithin_14 ?_
    exact a_zreturn dX10_isWithin_15 rfl rfl rfl (by omega) (zone_i (by omega))
  · refine a_iloadn dX10_isWithin_5 rfl ?_
    refine a_iloadn dX10_isWithin_6 rfl ?_
    refine a_icmp_gt (tgt := 14) dX10_isWithin_7 (by decide) ⟨by omega, by omega⟩ ⟨by omega, by omega⟩ (fun hb7 => ?_) (fun hb7 => ?_)
    · refine a_iconst dX10_isWithin_14 ?_
      exact a_zreturn dX10_isWithin_15 rfl rfl rfl (by omega) (zone_i (by omega))
    · refine a_iconst dX10_isWithin_10 ?_
      refine a_goto (tgt := 15) dX10_isWithin_11 (by decide) ?_
      exact a_zreturn dX10_isWithin_15 rfl rfl rfl (by omega) (zone_i (by omega))

set_option maxRecDepth 100000 in
set_option maxHeartbeats 4000000 in
theorem m_X10_isHouse {G : zG} {l : Launch} {L : Nat} {P : zP} {M : zM} {t : Nat} {h : Int} (hv : CV L P M t) (rh : inR h) : AM G l yX10_isHouse mdX10_isHouse [aR 2, aI h] (LAY L) P M (zone (LAY L) P M (fun r => (r = 1 ∧ 0 ≤ h ∧ h < M t 2) ∨ (r = 0 ∧ (h < 0 ∨ M t 2 ≤ h)))) := by
  obtain ⟨hc, hi, hxt, hnr, hhr⟩ := id hv
  obtain ⟨hP, hTp, hT, ht, hS, ha⟩ := id hc
  have q1 := hi.1.1
  refine AM.go [some (aR 2), some (aI h)] rfl (Nat.le_of_ble_eq_true rfl) ?_ (by decide) rfl rfl
  refine a_iloadn dX10_isHouse_0 rfl ?_
  refine a_if_lt (tgt := 19) dX10_isHouse_1 (by decide) ⟨by omega, by omega⟩ (fun hb1 => ?_) (fun hb1 => ?_)
  · refine a_iconst dX10_isHouse_19 ?_
    exact a_zreturn dX10_isHouse_20 rfl rfl rfl (by omega) (zone_i (by omega))
  · refine a_iloadn dX10_isHouse_4 rfl ?_
    refine a_aloadn dX10_isHouse_5 rfl ?_
    refine a_getR (j' := 2) (y := t) dX10_isHouse_6 flX10_16 rfl rfl (L2 L) hxt ?_
    refine b_getI (j' := 2) dX10_isHouse_9 flX10_118 rfl rfl hT.1.2.1 (fun hr9 => ?_)
    refine a_icmp_ge (tgt := 19) dX10_isHouse_12 (by decide) ⟨by omega, by omega⟩ ⟨by omega, by omega⟩ (fun hb12 => ?_) (fun hb12 => ?_)
    · refine a_iconst dX10_isHouse_19 ?_
      exact a_zreturn dX10_isHouse_20 rfl rfl rfl (by omega) (zone_i (by omega))
    · refine a_iconst dX10_isHouse_15 ?_
      refine a_goto (tgt := 20) dX10_isHouse_16 (by decide) ?_
      exact a_zreturn dX10_isHouse_20 rfl rfl rfl (by omega) (zone_i (by omega))

set_option maxRecDepth 100000 in
set_option maxHeartbeats 4000000 in
theorem m_X10_areTwo {G : zG} {l : Launch} {L : Nat} {P : zP} {M : zM} {t : Nat} {h o : Int} (hv : CV L P M t) (rh : inR h) (ro : inR o) : AM G l yX10_areTwo mdX10_areTwo [aR 2, aI h, aI o] (LAY L) P M (zone (LAY L) P M (fun r => (r = 1 ∧ two (M t 2) h o) ∨ (r = 0 ∧ ¬ two (M t 2) h o))) := by
  obtain ⟨hc, hi, hxt, hnr, hhr⟩ := id hv
  obtain ⟨hP, hTp, hT, ht, hS, ha⟩ := id hc
  have q1 := hi.1.1
  refine AM.go [some (aR 2), some (aI h), some (aI o)] rfl (Nat.le_of_ble_eq_true rfl) ?_ (by decide) rfl rfl
  refine a_aloadn dX10_areTwo_0 rfl ?_
  refine a_iloadn dX10_areTwo_1 rfl ?_
  refine a_oneV (as := [_]) (q := 2) dX10_areTwo_2 mvX10_121 ⟨by decide, by decide⟩ (L2 L) rfl rfl rfl (Nat.le_of_ble_eq_true rfl) ⟨rfl, rfl⟩ ⟨by decide, by decide⟩ (m_X10_isHouse hv (h := h) rh) (fun x2 hx2 => ?_)
  refine a_if_eq (tgt := 25) dX10_areTwo_5 (by decide) ⟨by omega, by omega⟩ (fun hb5 => ?_) (fun hb5 => ?_)
  · refine a_iconst dX10_areTwo_25 ?_
    exact a_zreturn dX10_areTwo_26 rfl rfl rfl (by omega) (zone_i (by unfold two; omega))
  · refine a_aloadn dX10_areTwo_8 rfl ?_
    refine a_iloadn dX10_areTwo_9 rfl ?_
    refine a_oneV (as := [_]) (q := 2) dX10_areTwo_10 mvX10_121 ⟨by decide, by decide⟩ (L2 L) rfl rfl rfl (Nat.le_of_ble_eq_true rfl) ⟨rfl, rfl⟩ ⟨by decide, by decide⟩ (m_X10_isHouse hv (h := o) ro) (fun x10 hx10 => ?_)
    refine a_if_eq (tgt := 25) dX10_areTwo_13 (by decide) ⟨by omega, by omega⟩ (fun hb13 => ?_) (fun hb13 => ?_)
    · refine a_iconst dX10_areTwo_25 ?_
      exact a_zreturn dX10_areTwo_26 rfl rfl rfl (by omega) (zone_i (by unfold two; omega))
    · refine a_iloadn dX10_areTwo_16 rfl ?_
      refine a_iloadn dX10_areTwo_17 rfl ?_
      refine a_icmp_eq (tgt := 25) dX10_areTwo_18 (by decide) ⟨by omega, by omega⟩ ⟨by omega, by omega⟩ (fun hb18 => ?_) (fun hb18 => ?_)
      · refine a_iconst dX10_areTwo_25 ?_
        exact a_zreturn dX10_areTwo_26 rfl rfl rfl (by omega) (zone_i (by unfold two; omega))
      · refine a_iconst dX10_areTwo_21 ?_
        refine a_goto (tgt := 26) dX10_areTwo_22 (by decide) ?_
        exact a_zreturn dX10_areTwo_26 rfl rfl rfl (by omega) (zone_i (by unfold two; omega))

set_option maxRecDepth 100000 in
set_option maxHeartbeats 4000000 in
theorem m_X10_heard {G : zG} {l : Launch} {L : Nat} {P : zP} {M : zM} {t : Nat} {h o : Int} (hv : CV L P M t) (rh : inR h) (ro : inR o) : AM G l yX10_heard mdX10_heard [aR 2, aI h, aI o] (LAY L) P M (zany (LAY L) P (fun r M' => Cn t M M' ∧ r = if two (M t 2) h o then M 66 (h * 6 + o) else -1)) := by
  obtain ⟨hc, hi, hxt, hnr, hhr⟩ := id hv
  obtain ⟨hP, hTp, hT, ht, hS, ha⟩ := id hc
  have q1 := hi.1.1
  refine AM.go [some (aR 2), some (aI h), some (aI o)] rfl (Nat.le_of_ble_eq_true rfl) ?_ (by decide) rfl rfl
  refine a_aloadn dX10_heard_0 rfl ?_
  refine a_iloadn dX10_heard_1 rfl ?_
  refine a_iloadn dX10_heard_2 rfl ?_
  refine a_oneV (as := [_, _]) (q := 2) dX10_heard_3 mvX10_159 ⟨by decide, by decide⟩ (L2 L) rfl rfl rfl (Nat.le_of_ble_eq_true rfl) ⟨rfl, rfl⟩ ⟨by decide, by decide⟩ (m_X10_areTwo hv (h := h) (o := o) rh ro) (fun x3 hx3 => ?_)
  refine a_if_eq (tgt := 21) dX10_heard_6 (by decide) ⟨by omega, by omega⟩ (fun hb6 => ?_) (fun hb6 => ?_)
  · refine a_iconst dX10_heard_21 ?_
    exact a_ireturn dX10_heard_22 rfl rfl rfl (zany_i ⟨Cn.rf hv, by first | rfl | (rw [if_pos (by omega)]; done) | (rw [if_neg (by omega)]; done)⟩)
  · refine a_aloadn dX10_heard_9 rfl ?_
    refine a_getR (j' := 7) (y := 61) dX10_heard_10 flX10_51 rfl rfl (L2 L) (p2_7 hP) ?_
    refine a_iloadn dX10_heard_13 rfl ?_
    refine a_iloadn dX10_heard_14 rfl ?_
    refine a_callV (as := [_, _]) (q := 61) dX10_heard_15 mvX10_163 ⟨by decide, by decide⟩ (L61 L) rfl rfl rfl (Nat.le_of_ble_eq_true rfl) ⟨rfl, rfl⟩ ⟨by decide, by decide⟩ (m_X5_timesHeard hS (by omega) (by omega) (by omega) (by omega)) ?_
    refine a_goto (tgt := 22) dX10_heard_18 (by decide) ?_
    exact a_ireturn dX10_heard_22 rfl rfl rfl (zany_i ⟨Cn.rf hv, by first | rfl | (rw [if_pos (by omega)]; done) | (rw [if_neg (by omega)]; done)⟩)

set_option maxRecDepth 100000 in
set_option maxHeartbeats 4000000 in
theorem m_X10_sound {G : zG} {l : Launch} {L : Nat} {P : zP} {M : zM} {t : Nat} {h x : Int} (hv : CV L P M t) (rh : inR h) (rx : inR x) : AM G l yX10_sound mdX10_sound [aR 2, aI h, aI x] (LAY L) P M (zany (LAY L) P (fun r M' => Cn t M M' ∧ r = if 0 ≤ h ∧ h < M t 2 ∧ 0 ≤ x ∧ x ≤ 99 then zsnd (M (t + 7)) (M (t + 8)) (M (t + 9)) h x (M t 10).toNat 0 else -1)) := by
  obtain ⟨hc, hi, hxt, hnr, hhr⟩ := id hv
  obtain ⟨hP, hTp, hT, ht, hS, ha⟩ := id hc
  have q1 := hi.1.1
  refine AM.go [some (aR 2), some (aI h), some (aI x)] rfl (Nat.le_of_ble_eq_true rfl) ?_ (by decide) rfl rfl
  refine a_aloadn dX10_sound_0 rfl ?_
  refine a_iloadn dX10_sound_1 rfl ?_
  refine a_oneV (as := [_]) (q := 2) dX10_sound_2 mvX10_121 ⟨by decide, by decide⟩ (L2 L) rfl rfl rfl (Nat.le_of_ble_eq_true rfl) ⟨rfl, rfl⟩ ⟨by decide, by decide⟩ (m_X10_isHouse hv (h := h) rh) (fun x2 hx2 => ?_)
  refine a_if_eq (tgt := 18) dX10_sound_5 (by decide) ⟨by omega, by omega⟩ (fun hb5 => ?_) (fun hb5 => ?_)
  · refine a_iconst dX10_sound_18 ?_
    exact a_ireturn dX10_sound_19 rfl rfl rfl (zany_i ⟨Cn.rf hv, by first | rfl | (rw [if_pos (by omega)]; done) | (rw [if_neg (by omega)]; done)⟩)
  · refine a_iloadn dX10_sound_8 rfl ?_
    refine a_iconst dX10_sound_9 ?_
    refine a_bipush (w := 99) dX10_sound_10 (by decide) ?_
    refine a_oneS (as := [_, _, _]) dX10_sound_12 mvX10_167 ⟨by decide, by decide⟩ rfl rfl (Nat.le_of_ble_eq_true rfl) ⟨rfl, rfl⟩ ⟨by decide, by decide⟩ (m_X10_isWithin ⟨by omega, by omega⟩ ⟨by omega, by omega⟩ ⟨by omega, by omega⟩) (fun x12 hx12 => ?_)
    refine a_if_ne (tgt := 20) dX10_sound_15 (by decide) ⟨by omega, by omega⟩ (fun hb15 => ?_) (fun hb15 => ?_)
    · refine a_aloadn dX10_sound_20 rfl ?_
      refine a_getR (j' := 2) (y := t) dX10_sound_21 flX10_16 rfl rfl (L2 L) hxt ?_
      refine a_iloadn dX10_sound_24 rfl ?_
      refine a_iloadn dX10_sound_25 rfl ?_
      refine a_callV (as := [_, _]) (q := t) dX10_sound_26 mvX10_171 ⟨by decide, by decide⟩ hT.1.2.1 rfl rfl rfl (Nat.le_of_ble_eq_true rfl) ⟨rfl, rfl⟩ ⟨by decide, by decide⟩ (m_X8_kindAt hT hi.1 rh rx) ?_
      exact a_ireturn dX10_sound_29 rfl rfl rfl (zany_i ⟨Cn.rf hv, by first | rfl | (rw [if_pos (by omega)]; done) | (rw [if_neg (by omega)]; done)⟩)
    · refine a_iconst dX10_sound_18 ?_
      exact a_ireturn dX10_sound_19 rfl rfl rfl (zany_i ⟨Cn.rf hv, by first | rfl | (rw [if_pos (by omega)]; done) | (rw [if_neg (by omega)]; done)⟩)

set_option maxRecDepth 100000 in
set_option maxHeartbeats 4000000 in
theorem m_X10_named {G : zG} {l : Launch} {L : Nat} {P : zP} {M : zM} {t : Nat} {x : Int} (hv : CV L P M t) (rx : inR x) : AM G l yX10_named mdX10_named [aR 2, aI x] (LAY L) P M (zany (LAY L) P (fun r M' => Cn t M M' ∧ r = zfind (M (t + 1)) x (M t 2).toNat 0)) := by
  obtain ⟨hc, hi, hxt, hnr, hhr⟩ := id hv
  obtain ⟨hP, hTp, hT, ht, hS, ha⟩ := id hc
  have q1 := hi.1.1
  refine AM.go [some (aR 2), some (aI x)] rfl (Nat.le_of_ble_eq_true rfl) ?_ (by decide) rfl rfl
  refine a_aloadn dX10_named_0 rfl ?_
  refine a_getR (j' := 2) (y := t) dX10_named_1 flX10_16 rfl rfl (L2 L) hxt ?_
  refine a_iloadn dX10_named_4 rfl ?_
  refine a_callV (as := [_]) (q := t) dX10_named_5 mvX10_114 ⟨by decide, by decide⟩ hT.1.2.1 rfl rfl rfl (Nat.le_of_ble_eq_true rfl) ⟨rfl, rfl⟩ ⟨by decide, by decide⟩ (m_X8_houseOf hT hi.1 rx) ?_
  exact a_ireturn dX10_named_8 rfl rfl rfl (zany_i ⟨Cn.rf hv, by first | rfl | (rw [if_pos (by omega)]; done) | (rw [if_neg (by omega)]; done)⟩)

set_option maxRecDepth 100000 in
set_option maxHeartbeats 4000000 in
theorem m_X10_fault {G : zG} {l : Launch} {L : Nat} {P : zP} {M : zM} {t : Nat} {x : Int} (hv : CV L P M t) (rx : inR x) : AM G l yX10_fault mdX10_fault [aR 2, aI x] (LAY L) P M (zany (LAY L) P (fun r M' => Cn t M M' ∧ r = if x = 0 then M 42 6 else if x = 1 then M 42 7 else -1)) := by
  obtain ⟨hc, hi, hxt, hnr, hhr⟩ := id hv
  obtain ⟨hP, hTp, hT, ht, hS, ha⟩ := id hc
  have q1 := hi.1.1
  refine AM.go [some (aR 2), some (aI x)] rfl (Nat.le_of_ble_eq_true rfl) ?_ (by decide) rfl rfl
  refine a_iloadn dX10_fault_0 rfl ?_
  rcases (show x = 0 ∨ x = 1 ∨ (x ≠ 0 ∧ x ≠ 1) by omega) with e1 | e1 | e1
  · refine c_lkIn (tgt := 28) (off := 27) e1 dX10_fault_1 (by decide) ⟨by decide, by decide⟩ (by decide) (by decide) ?_
    refine a_aloadn dX10_fault_28 rfl ?_
    refine a_getR (j' := 4) (y := 42) dX10_fault_29 flX10_28 rfl rfl (L2 L) (p2_4 hP) ?_
    refine b_getI (j' := 6) dX10_fault_32 flX10_108 rfl rfl (L42 L) (fun hr32 => ?_)
    exact a_ireturn dX10_fault_35 rfl rfl rfl (zany_i ⟨Cn.rf hv, by first | (rw [if_pos (by omega)]; done) | (rw [if_neg (by omega), if_pos (by omega)]; done) | (rw [if_neg (by omega), if_neg (by omega)]; done)⟩)
  · refine c_lkIn (tgt := 36) (off := 35) e1 dX10_fault_1 (by decide) ⟨by decide, by decide⟩ (by decide) (by decide) ?_
    refine a_aloadn dX10_fault_36 rfl ?_
    refine a_getR (j' := 4) (y := 42) dX10_fault_37 flX10_28 rfl rfl (L2 L) (p2_4 hP) ?_
    refine b_getI (j' := 7) dX10_fault_40 flX10_111 rfl rfl (L42 L) (fun hr40 => ?_)
    exact a_ireturn dX10_fault_43 rfl rfl rfl (zany_i ⟨Cn.rf hv, by first | (rw [if_pos (by omega)]; done) | (rw [if_neg (by omega), if_pos (by omega)]; done) | (rw [if_neg (by omega), if_neg (by omega)]; done)⟩)
  · refine a_lookup (tgt := 44) (off := 43) dX10_fault_1 (by decide) rx (by simp only [Op.lookupswitch.offset]; rw [if_neg (by omega), if_neg (by omega)]) (by decide) ?_
    refine a_iconst dX10_fault_44 ?_
    exact a_ireturn dX10_fault_45 rfl rfl rfl (zany_i ⟨Cn.rf hv, by first | (rw [if_pos (by omega)]; done) | (rw [if_neg (by omega), if_pos (by omega)]; done) | (rw [if_neg (by omega), if_neg (by omega)]; done)⟩)
