set_option maxRecDepth 100000 in
set_option maxHeartbeats 4000000 in
theorem lpX10_before {G : zG} {l : Launch} {L : Nat} {P : zP} {M : zM} {t : Nat} {h g w : Int} (hv : CV L P M t) (hw : two (M t 2) h g) (rw9 : inR w) : ∀ (n : Nat) (i best most : Int) (g0 : 2 ≤ i) (g1 : i + n = 20) (gm : 0 ≤ most ∧ most ≤ 12), AW G l mdX10_before (zone (LAY L) P M (fun r => r = if w = 0 then (bfF (alC M t h g) n i best most).1 else (bfF (alC M t h g) n i best most).2)) 40 [some (aR 2), some (aI h), some (aI g), some (aI w), some (aI best), some (aI most), some (aI i), none, none] [] (LAY L) P M 0 0 := by
  intro n
  induction n with
  | zero =>
    intro i best most g0 g1 gm
    obtain ⟨hc, hi, hxt, hnr, hhr⟩ := id hv
    obtain ⟨hP, hTp, hT, ht, hS, ha⟩ := id hc
    have q1 := hi.1.1
    have sg := st_guess L hP
    have sn := st_now L hP
    unfold two at hw
    refine a_iload dX10_before_40 rfl ?_
    refine a_bipush (w := 19) dX10_before_42 (by decide) ?_
    refine a_icmp_gt (tgt := 102) dX10_before_44 (by decide) ⟨by omega, by omega⟩ ⟨by omega, by omega⟩ (fun hb44 => ?_) (fun hb44 => ?_)
    · refine a_iloadn dX10_before_102 rfl ?_
      refine a_if_ne (tgt := 111) dX10_before_103 (by decide) ⟨by omega, by omega⟩ (fun hb103 => ?_) (fun hb103 => ?_)
      · refine a_iload dX10_before_111 rfl ?_
        exact a_ireturn dX10_before_113 rfl rfl rfl (zone_i (by show _ = if w = 0 then best else most; first | (rw [if_pos (by omega)]; done) | (rw [if_neg (by omega)]; done)))
      · refine a_iload dX10_before_106 rfl ?_
        refine a_goto (tgt := 113) dX10_before_108 (by decide) ?_
        exact a_ireturn dX10_before_113 rfl rfl rfl (zone_i (by show _ = if w = 0 then best else most; first | (rw [if_pos (by omega)]; done) | (rw [if_neg (by omega)]; done)))
    · exfalso; omega
  | succ n ih =>
    intro i best most g0 g1 gm
    obtain ⟨hc, hi, hxt, hnr, hhr⟩ := id hv
    obtain ⟨hP, hTp, hT, ht, hS, ha⟩ := id hc
    have q1 := hi.1.1
    have sg := st_guess L hP
    have sn := st_now L hP
    unfold two at hw
    refine a_iload dX10_before_40 rfl ?_
    refine a_bipush (w := 19) dX10_before_42 (by decide) ?_
    refine a_icmp_gt (tgt := 102) dX10_before_44 (by decide) ⟨by omega, by omega⟩ ⟨by omega, by omega⟩ (fun hb44 => ?_) (fun hb44 => ?_)
    · exfalso; omega
    · have t1 : i.tmod 2 = i % 2 := Int.tmod_eq_emod_of_nonneg (by omega)
      have t2 : i.tdiv 2 = i / 2 := Int.tdiv_eq_ediv_of_nonneg (by omega)
      refine a_iload dX10_before_47 rfl ?_
      refine a_iconst dX10_before_49 ?_
      refine a_irem dX10_before_50 ⟨by omega, by omega⟩ ⟨by omega, by omega⟩ (by omega) (by omega) ?_
      refine a_if_ne (tgt := 62) dX10_before_51 (by decide) (by rw [t1]; exact ⟨by omega, by omega⟩) (fun hb51 => ?_) (fun hb51 => ?_)
      · refine a_iload dX10_before_62 rfl ?_
        refine a_iconst dX10_before_64 ?_
        refine a_idiv dX10_before_65 ⟨by omega, by omega⟩ ⟨by omega, by omega⟩ (by omega) (by omega) ?_
        have el : ∃ lt, lt = ltr i ∧ -9 ≤ lt ∧ lt ≤ 9 := ⟨ltr i, rfl, by unfold ltr; split <;> omega, by unfold ltr; split <;> omega⟩
        obtain ⟨lt, el1, el2⟩ := el
        first
        | (rw [show -(i.tdiv 2) = lt from by rw [el1]; unfold ltr; rw [if_pos (by omega)]])
        | (rw [show i.tdiv 2 = lt from by rw [el1]; unfold ltr; rw [if_neg (by omega)]])
        refine c_istore (ls' := [_, _, _, _, _, _, _, _, _]) dX10_before_66 (by decide) rfl rfl ?_
        refine a_aloadn dX10_before_68 rfl ?_
        refine a_getR (j' := 2) (y := t) dX10_before_69 flX10_16 rfl rfl (L2 L) hxt ?_
        refine a_iloadn dX10_before_72 rfl ?_
        refine a_iloadn dX10_before_73 rfl ?_
        refine a_iload dX10_before_74 rfl ?_
        refine a_callV (as := [_, _, _]) (q := t) dX10_before_76 mvX10_302 ⟨by decide, by decide⟩ hT.1.2.1 rfl rfl rfl (Nat.le_of_ble_eq_true rfl) ⟨rfl, rfl⟩ ⟨by decide, by decide⟩ (m_X8_alike hT hi.1 ⟨by omega, by omega⟩ ⟨by omega, by omega⟩ ⟨by omega, by omega⟩) ?_
        have q7 := alC_in hi.1 h g lt
        refine a_stk (st' := [aI (alC M t h g lt)]) rfl ?_
        refine c_istore (ls' := [_, _, _, _, _, _, _, _, _]) dX10_before_79 (by decide) rfl rfl ?_
        refine a_iload dX10_before_81 rfl ?_
        refine a_iload dX10_before_83 rfl ?_
        refine a_icmp_le (tgt := 96) dX10_before_85 (by decide) ⟨by omega, by omega⟩ ⟨by omega, by omega⟩ (fun hb85 => ?_) (fun hb85 => ?_)
        · refine c_iinc (ls' := [_, _, _, _, _, _, _, _, _]) dX10_before_96 rfl (by decide) rfl rfl ?_
          refine a_goto (tgt := 40) dX10_before_99 (by decide) ?_
          refine a_forget [7, 8] (ls' := [_, _, _, _, _, _, _, none, none]) rfl ?_
          subst el1
          first
          | (have eb : bfF (alC M t h g) (n + 1) i best most = bfF (alC M t h g) n (i + 1) (ltr i) (alC M t h g (ltr i)) := by simp only [bfF]; rw [if_pos (by omega)]
             rw [eb]; exact ih _ _ _ (by omega) (by omega) (by omega))
          | (have eb : bfF (alC M t h g) (n + 1) i best most = bfF (alC M t h g) n (i + 1) best most := by simp only [bfF]; rw [if_neg (by omega)]
             rw [eb]; exact ih _ _ _ (by omega) (by omega) gm)
        · refine a_iload dX10_before_88 rfl ?_
          refine c_istore (ls' := [_, _, _, _, _, _, _, _, _]) dX10_before_90 (by decide) rfl rfl ?_
          refine a_iload dX10_before_92 rfl ?_
          refine c_istore (ls' := [_, _, _, _, _, _, _, _, _]) dX10_before_94 (by decide) rfl rfl ?_
          refine c_iinc (ls' := [_, _, _, _, _, _, _, _, _]) dX10_before_96 rfl (by decide) rfl rfl ?_
          refine a_goto (tgt := 40) dX10_before_99 (by decide) ?_
          refine a_forget [7, 8] (ls' := [_, _, _, _, _, _, _, none, none]) rfl ?_
          subst el1
          first
          | (have eb : bfF (alC M t h g) (n + 1) i best most = bfF (alC M t h g) n (i + 1) (ltr i) (alC M t h g (ltr i)) := by simp only [bfF]; rw [if_pos (by omega)]
             rw [eb]; exact ih _ _ _ (by omega) (by omega) (by omega))
          | (have eb : bfF (alC M t h g) (n + 1) i best most = bfF (alC M t h g) n (i + 1) best most := by simp only [bfF]; rw [if_neg (by omega)]
             rw [eb]; exact ih _ _ _ (by omega) (by omega) gm)
      · refine a_iload dX10_before_54 rfl ?_
        refine a_iconst dX10_before_56 ?_
        refine a_idiv dX10_before_57 ⟨by omega, by omega⟩ ⟨by omega, by omega⟩ (by omega) (by omega) ?_
        refine a_ineg dX10_before_58 ?_
        refine a_goto (tgt := 66) dX10_before_59 (by decide) ?_
        have el : ∃ lt, lt = ltr i ∧ -9 ≤ lt ∧ lt ≤ 9 := ⟨ltr i, rfl, by unfold ltr; split <;> omega, by unfold ltr; split <;> omega⟩
        obtain ⟨lt, el1, el2⟩ := el
        first
        | (rw [show -(i.tdiv 2) = lt from by rw [el1]; unfold ltr; rw [if_pos (by omega)]])
        | (rw [show i.tdiv 2 = lt from by rw [el1]; unfold ltr; rw [if_neg (by omega)]])
        refine c_istore (ls' := [_, _, _, _, _, _, _, _, _]) dX10_before_66 (by decide) rfl rfl ?_
        refine a_aloadn dX10_before_68 rfl ?_
        refine a_getR (j' := 2) (y := t) dX10_before_69 flX10_16 rfl rfl (L2 L) hxt ?_
        refine a_iloadn dX10_before_72 rfl ?_
        refine a_iloadn dX10_before_73 rfl ?_
        refine a_iload dX10_before_74 rfl ?_
        refine a_callV (as := [_, _, _]) (q := t) dX10_before_76 mvX10_302 ⟨by decide, by decide⟩ hT.1.2.1 rfl rfl rfl (Nat.le_of_ble_eq_true rfl) ⟨rfl, rfl⟩ ⟨by decide, by decide⟩ (m_X8_alike hT hi.1 ⟨by omega, by omega⟩ ⟨by omega, by omega⟩ ⟨by omega, by omega⟩) ?_
        have q7 := alC_in hi.1 h g lt
        refine a_stk (st' := [aI (alC M t h g lt)]) rfl ?_
        refine c_istore (ls' := [_, _, _, _, _, _, _, _, _]) dX10_before_79 (by decide) rfl rfl ?_
        refine a_iload dX10_before_81 rfl ?_
        refine a_iload dX10_before_83 rfl ?_
        refine a_icmp_le (tgt := 96) dX10_before_85 (by decide) ⟨by omega, by omega⟩ ⟨by omega, by omega⟩ (fun hb85 => ?_) (fun hb85 => ?_)
        · refine c_iinc (ls' := [_, _, _, _, _, _, _, _, _]) dX10_before_96 rfl (by decide) rfl rfl ?_
          refine a_goto (tgt := 40) dX10_before_99 (by decide) ?_
          refine a_forget [7, 8] (ls' := [_, _, _, _, _, _, _, none, none]) rfl ?_
          subst el1
          first
          | (have eb : bfF (alC M t h g) (n + 1) i best most = bfF (alC M t h g) n (i + 1) (ltr i) (alC M t h g (ltr i)) := by simp only [bfF]; rw [if_pos (by omega)]
             rw [eb]; exact ih _ _ _ (by omega) (by omega) (by omega))
          | (have eb : bfF (alC M t h g) (n + 1) i best most = bfF (alC M t h g) n (i + 1) best most := by simp only [bfF]; rw [if_neg (by omega)]
             rw [eb]; exact ih _ _ _ (by omega) (by omega) gm)
        · refine a_iload dX10_before_88 rfl ?_
          refine c_istore (ls' := [_, _, _, _, _, _, _, _, _]) dX10_before_90 (by decide) rfl rfl ?_
          refine a_iload dX10_before_92 rfl ?_
          refine c_istore (ls' := [_, _, _, _, _, _, _, _, _]) dX10_before_94 (by decide) rfl rfl ?_
          refine c_iinc (ls' := [_, _, _, _, _, _, _, _, _]) dX10_before_96 rfl (by decide) rfl rfl ?_
          refine a_goto (tgt := 40) dX10_before_99 (by decide) ?_
          refine a_forget [7, 8] (ls' := [_, _, _, _, _, _, _, none, none]) rfl ?_
          subst el1
          first
          | (have eb : bfF (alC M t h g) (n + 1) i best most = bfF (alC M t h g) n (i + 1) (ltr i) (alC M t h g (ltr i)) := by simp only [bfF]; rw [if_pos (by omega)]
             rw [eb]; exact ih _ _ _ (by omega) (by omega) (by omega))
          | (have eb : bfF (alC M t h g) (n + 1) i best most = bfF (alC M t h g) n (i + 1) best most := by simp only [bfF]; rw [if_neg (by omega)]
             rw [eb]; exact ih _ _ _ (by omega) (by omega) gm)

set_option maxRecDepth 100000 in
set_option maxHeartbeats 4000000 in
theorem m_X10_before {G : zG} {l : Launch} {L : Nat} {P : zP} {M : zM} {t : Nat} {h g w : Int} (hv : CV L P M t) (rh : inR h) (rg : inR g) (rw : inR w) : AM G l yX10_before mdX10_before [aR 2, aI h, aI g, aI w] (LAY L) P M (zany (LAY L) P (fun r M' => Cn t M M' ∧ r = if ¬ (two (M t 2) h g ∧ 0 ≤ w ∧ w ≤ 1) then -2147483648 else if w = 0 then (bfF (alC M t h g) 18 2 0 (alC M t h g 0)).1 else (bfF (alC M t h g) 18 2 0 (alC M t h g 0)).2)) := by
  obtain ⟨hc, hi, hxt, hnr, hhr⟩ := id hv
  obtain ⟨hP, hTp, hT, ht, hS, ha⟩ := id hc
  have q1 := hi.1.1
  have sg := st_guess L hP
  have sn := st_now L hP
  refine AM.go [some (aR 2), some (aI h), some (aI g), some (aI w), none, none, none, none, none] rfl (Nat.le_of_ble_eq_true rfl) ?_ (by decide) rfl rfl
  refine a_aloadn dX10_before_0 rfl ?_
  refine a_iloadn dX10_before_1 rfl ?_
  refine a_iloadn dX10_before_2 rfl ?_
  refine a_oneV (as := [_, _]) (q := 2) dX10_before_3 mvX10_159 ⟨by decide, by decide⟩ (L2 L) rfl rfl rfl (Nat.le_of_ble_eq_true rfl) ⟨rfl, rfl⟩ ⟨by decide, by decide⟩ (m_X10_areTwo hv (h := h) (o := g) rh rg) (fun x3 hx3 => ?_)
  refine a_if_eq (tgt := 18) dX10_before_6 (by decide) ⟨by omega, by omega⟩ (fun hb6 => ?_) (fun hb6 => ?_)
  · refine a_ldcw (w := -2147483648) dX10_before_18 knX10_301 (by decide) ?_
    exact a_ireturn dX10_before_21 rfl rfl rfl (zany_i ⟨Cn.rf hv, by rw [if_pos (by omega)]⟩)
  · refine a_iloadn dX10_before_9 rfl ?_
    refine a_iconst dX10_before_10 ?_
    refine a_iconst dX10_before_11 ?_
    refine a_oneS (as := [_, _, _]) dX10_before_12 mvX10_167 ⟨by decide, by decide⟩ rfl rfl (Nat.le_of_ble_eq_true rfl) ⟨rfl, rfl⟩ ⟨by decide, by decide⟩ (m_X10_isWithin ⟨by omega, by omega⟩ ⟨by omega, by omega⟩ ⟨by omega, by omega⟩) (fun x12 hx12 => ?_)
    refine a_if_ne (tgt := 22) dX10_before_15 (by decide) ⟨by omega, by omega⟩ (fun hb15 => ?_) (fun hb15 => ?_)
    · refine a_iconst dX10_before_22 ?_
      refine c_istore (ls' := [_, _, _, _, _, _, _, _, _]) dX10_before_23 (by decide) rfl rfl ?_
      refine a_aloadn dX10_before_25 rfl ?_
      refine a_getR (j' := 2) (y := t) dX10_before_26 flX10_16 rfl rfl (L2 L) hxt ?_
      refine a_iloadn dX10_before_29 rfl ?_
      refine a_iloadn dX10_before_30 rfl ?_
      refine a_iconst dX10_before_31 ?_
      refine a_callV (as := [_, _, _]) (q := t) dX10_before_32 mvX10_302 ⟨by decide, by decide⟩ hT.1.2.1 rfl rfl rfl (Nat.le_of_ble_eq_true rfl) ⟨rfl, rfl⟩ ⟨by decide, by decide⟩ (m_X8_alike hT hi.1 ⟨by omega, by omega⟩ ⟨by omega, by omega⟩ ⟨by omega, by omega⟩) ?_
      refine c_istore (ls' := [_, _, _, _, _, _, _, _, _]) dX10_before_35 (by decide) rfl rfl ?_
      refine a_iconst dX10_before_37 ?_
      refine c_istore (ls' := [_, _, _, _, _, _, _, _, _]) dX10_before_38 (by decide) rfl rfl ?_
      refine AW.mono2 (lpX10_before hv (h := h) (g := g) (w := w) (by omega) rw 18 2 0 (alC M t h g 0) (by omega) (by omega) (alC_in hi.1 h g 0)) ?_
      rintro r lay P' M' ⟨z1, z2, rfl, x, z3, z4⟩
      exact ⟨z1, z2, x, z3, Cn.rf hv, by rw [if_neg (by omega)]; exact z4⟩
    · refine a_ldcw (w := -2147483648) dX10_before_18 knX10_301 (by decide) ?_
      exact a_ireturn dX10_before_21 rfl rfl rfl (zany_i ⟨Cn.rf hv, by rw [if_pos (by omega)]⟩)

set_option maxRecDepth 100000 in
set_option maxHeartbeats 4000000 in
theorem lpX10_loudest {G : zG} {l : Launch} {L : Nat} {P : zP} {M : zM} {t : Nat} (hv : CV L P M t) : ∀ (n : Nat) (i best most : Int) (g0 : 0 ≤ i) (g1 : i + n = M t 2) (gm : 0 ≤ most ∧ most ≤ 12), AW G l mdX10_loudest (zone (LAY L) P M (fun r => r = ldF (soC M t) n i best most)) 7 [some (aR 2), some (aI best), some (aI most), some (aI i), none] [] (LAY L) P M 0 0 := by
  intro n
  induction n with
  | zero =>
    intro i best most g0 g1 gm
    obtain ⟨hc, hi, hxt, hnr, hhr⟩ := id hv
    obtain ⟨hP, hTp, hT, ht, hS, ha⟩ := id hc
    have q1 := hi.1.1
    have sg := st_guess L hP
    have sn := st_now L hP
    refine a_iloadn dX10_loudest_7 rfl ?_
    refine a_aloadn dX10_loudest_8 rfl ?_
    refine a_getR (j' := 2) (y := t) dX10_loudest_9 flX10_16 rfl rfl (L2 L) hxt ?_
    refine b_getI (j' := 2) dX10_loudest_12 flX10_118 rfl rfl hT.1.2.1 (fun hr12 => ?_)
    refine a_icmp_ge (tgt := 45) dX10_loudest_15 (by decide) ⟨by omega, by omega⟩ ⟨by omega, by omega⟩ (fun hb15 => ?_) (fun hb15 => ?_)
    · refine a_iloadn dX10_loudest_45 rfl ?_
      exact a_ireturn dX10_loudest_46 rfl rfl rfl (zone_i rfl)
    · exfalso; omega
  | succ n ih =>
    intro i best most g0 g1 gm
    obtain ⟨hc, hi, hxt, hnr, hhr⟩ := id hv
    obtain ⟨hP, hTp, hT, ht, hS, ha⟩ := id hc
    have q1 := hi.1.1
    have sg := st_guess L hP
    have sn := st_now L hP
    refine a_iloadn dX10_loudest_7 rfl ?_
    refine a_aloadn dX10_loudest_8 rfl ?_
    refine a_getR (j' := 2) (y := t) dX10_loudest_9 flX10_16 rfl rfl (L2 L) hxt ?_
    refine b_getI (j' := 2) dX10_loudest_12 flX10_118 rfl rfl hT.1.2.1 (fun hr12 => ?_)
    refine a_icmp_ge (tgt := 45) dX10_loudest_15 (by decide) ⟨by omega, by omega⟩ ⟨by omega, by omega⟩ (fun hb15 => ?_) (fun hb15 => ?_)
    · exfalso; omega
    · refine a_aloadn dX10_loudest_18 rfl ?_
      refine a_getR (j' := 2) (y := t) dX10_loudest_19 flX10_16 rfl rfl (L2 L) hxt ?_
      refine a_iloadn dX10_loudest_22 rfl ?_
      refine a_callV (as := [_]) (q := t) dX10_loudest_23 mvX10_305 ⟨by decide, by decide⟩ hT.1.2.1 rfl rfl rfl (Nat.le_of_ble_eq_true rfl) ⟨rfl, rfl⟩ ⟨by decide, by decide⟩ (m_X8_soundsOf hT hi.1 ⟨by omega, by omega⟩) ?_
      have q7 := soC_in hi.1 i
      refine a_stk (st' := [aI (soC M t i)]) rfl ?_
      refine c_istore (ls' := [_, _, _, _, _]) dX10_loudest_26 (by decide) rfl rfl ?_
      refine a_iload dX10_loudest_28 rfl ?_
      refine a_iloadn dX10_loudest_30 rfl ?_
      refine a_icmp_le (tgt := 39) dX10_loudest_31 (by decide) ⟨by omega, by omega⟩ ⟨by omega, by omega⟩ (fun hb31 => ?_) (fun hb31 => ?_)
      · refine c_iinc (ls' := [_, _, _, _, _]) dX10_loudest_39 rfl (by decide) rfl rfl ?_
        refine a_goto (tgt := 7) dX10_loudest_42 (by decide) ?_
        refine a_forget [4] (ls' := [_, _, _, _, none]) rfl ?_
        simp only [ldF]
        first
        | (rw [if_pos (by omega)]; exact ih _ _ _ (by omega) (by omega) (by omega))
        | (rw [if_neg (by omega)]; exact ih _ _ _ (by omega) (by omega) gm)
      · refine a_iload dX10_loudest_34 rfl ?_
        refine c_istoren (ls' := [_, _, _, _, _]) dX10_loudest_36 (by decide) rfl rfl ?_
        refine a_iloadn dX10_loudest_37 rfl ?_
        refine c_istoren (ls' := [_, _, _, _, _]) dX10_loudest_38 (by decide) rfl rfl ?_
        refine c_iinc (ls' := [_, _, _, _, _]) dX10_loudest_39 rfl (by decide) rfl rfl ?_
        refine a_goto (tgt := 7) dX10_loudest_42 (by decide) ?_
        refine a_forget [4] (ls' := [_, _, _, _, none]) rfl ?_
        simp only [ldF]
        first
        | (rw [if_pos (by omega)]; exact ih _ _ _ (by omega) (by omega) (by omega))
        | (rw [if_neg (by omega)]; exact ih _ _ _ (by omega) (by omega) gm)

set_option maxRecDepth 100000 in
set_option maxHeartbeats 4000000 in
theorem m_X10_loudest {G : zG} {l : Launch} {L : Nat} {P : zP} {M : zM} {t : Nat} (hv : CV L P M t) : AM G l yX10_loudest mdX10_loudest [aR 2] (LAY L) P M (zone (LAY L) P M (fun r => r = ldF (soC M t) (M t 2).toNat 0 (-2) 0)) := by
  obtain ⟨hc, hi, hxt, hnr, hhr⟩ := id hv
  obtain ⟨hP, hTp, hT, ht, hS, ha⟩ := id hc
  have q1 := hi.1.1
  have sg := st_guess L hP
  have sn := st_now L hP
  refine AM.go [some (aR 2), none, none, none, none] rfl (Nat.le_of_ble_eq_true rfl) ?_ (by decide) rfl rfl
  refine a_bipush (w := (-2)) dX10_loudest_0 (by decide) ?_
  refine c_istoren (ls' := [_, _, _, _, _]) dX10_loudest_2 (by decide) rfl rfl ?_
  refine a_iconst dX10_loudest_3 ?_
  refine c_istoren (ls' := [_, _, _, _, _]) dX10_loudest_4 (by decide) rfl rfl ?_
  refine a_iconst dX10_loudest_5 ?_
  refine c_istoren (ls' := [_, _, _, _, _]) dX10_loudest_6 (by decide) rfl rfl ?_
  exact lpX10_loudest hv (M t 2).toNat 0 (-2) 0 (by omega) (by omega) (by omega)

set_option maxRecDepth 100000 in
set_option maxHeartbeats 4000000 in
theorem m_X10_burglarHas {G : zG} {l : Launch} {L : Nat} {P : zP} {M : zM} {t : Nat} {h b l9 : Int} (hv : CV L P M t) (rh : inR h) (rb : 0 ≤ b ∧ b ≤ 3) (rl : 0 ≤ l9 ∧ l9 ≤ 3) : AM G l yX10_burglarHas mdX10_burglarHas [aR 2, aI h, aI b, aI l9] (LAY L) P M (zdet (some (aI (bgC M t h b l9))) (LAY L) P M) := by
  obtain ⟨hc, hi, hxt, hnr, hhr⟩ := id hv
  obtain ⟨hP, hTp, hT, ht, hS, ha⟩ := id hc
  have q1 := hi.1.1
  have sg := st_guess L hP
  have sn := st_now L hP
  have qh := hi.2.2.1.2.2.2.2.2.1
  have qs := hi.1.2.2.1
  refine AM.go [some (aR 2), some (aI h), some (aI b), some (aI l9), none] rfl (Nat.le_of_ble_eq_true rfl) ?_ (by decide) rfl rfl
  refine a_iloadn dX10_burglarHas_0 rfl ?_
  refine a_iloadn dX10_burglarHas_1 rfl ?_
  refine a_icmp_ne (tgt := 9) dX10_burglarHas_2 (by decide) ⟨by omega, by omega⟩ ⟨by omega, by omega⟩ (fun hb2 => ?_) (fun hb2 => ?_)
  · refine a_bipush (w := 6) dX10_burglarHas_9 (by decide) ?_
    refine c_istore (ls' := [_, _, _, _, _]) dX10_burglarHas_11 (by decide) rfl rfl ?_
    refine a_aloadn dX10_burglarHas_13 rfl ?_
    refine a_getR (j' := 2) (y := t) dX10_burglarHas_14 flX10_16 rfl rfl (L2 L) hxt ?_
    refine a_iloadn dX10_burglarHas_17 rfl ?_
    refine a_aloadn dX10_burglarHas_18 rfl ?_
    refine a_getR (j' := 7) (y := 61) dX10_burglarHas_19 flX10_51 rfl rfl (L2 L) (p2_7 hP) ?_
    refine b_getI (j' := 5) dX10_burglarHas_22 flX10_195 rfl rfl (L61 L) (fun hr22 => ?_)
    refine a_iloadn dX10_burglarHas_25 rfl ?_
    refine a_iadd dX10_burglarHas_26 ?_
    refine a_callV (as := [_, _]) (q := t) dX10_burglarHas_27 mvX10_171 ⟨by decide, by decide⟩ hT.1.2.1 rfl rfl rfl (Nat.le_of_ble_eq_true rfl) ⟨rfl, rfl⟩ ⟨by decide, by decide⟩ (m_X8_kindAt hT hi.1 rh ⟨by omega, by omega⟩) ?_
    refine a_if_eq (tgt := 40) dX10_burglarHas_30 (by decide) (zsnd_in () () () _ _ hi.1 _ 0 (by omega) (by omega)) (fun hb30 => ?_) (fun hb30 => ?_)
    · refine a_iload dX10_burglarHas_40 rfl ?_
      exact a_ireturn dX10_burglarHas_42 rfl rfl rfl (zdet_I (by unfold bgC; first | (rw [if_pos (by omega), if_pos (by omega)] <;> omega) | (rw [if_pos (by omega), if_neg (by omega)] <;> omega) | (rw [if_neg (by omega), if_pos (by omega)] <;> omega) | (rw [if_neg (by omega), if_neg (by omega)] <;> omega)) rfl)
    · refine a_iload dX10_burglarHas_33 rfl ?_
      refine a_iconst dX10_burglarHas_35 ?_
      refine a_iadd dX10_burglarHas_36 ?_
      refine a_goto (tgt := 42) dX10_burglarHas_37 (by decide) ?_
      exact a_ireturn dX10_burglarHas_42 rfl rfl rfl (zdet_I (by unfold bgC; first | (rw [if_pos (by omega), if_pos (by omega)] <;> omega) | (rw [if_pos (by omega), if_neg (by omega)] <;> omega) | (rw [if_neg (by omega), if_pos (by omega)] <;> omega) | (rw [if_neg (by omega), if_neg (by omega)] <;> omega)) rfl)
  · refine a_iconst dX10_burglarHas_5 ?_
    refine a_goto (tgt := 11) dX10_burglarHas_6 (by decide) ?_
    refine c_istore (ls' := [_, _, _, _, _]) dX10_burglarHas_11 (by decide) rfl rfl ?_
    refine a_aloadn dX10_burglarHas_13 rfl ?_
    refine a_getR (j' := 2) (y := t) dX10_burglarHas_14 flX10_16 rfl rfl (L2 L) hxt ?_
    refine a_iloadn dX10_burglarHas_17 rfl ?_
    refine a_aloadn dX10_burglarHas_18 rfl ?_
    refine a_getR (j' := 7) (y := 61) dX10_burglarHas_19 flX10_51 rfl rfl (L2 L) (p2_7 hP) ?_
    refine b_getI (j' := 5) dX10_burglarHas_22 flX10_195 rfl rfl (L61 L) (fun hr22 => ?_)
    refine a_iloadn dX10_burglarHas_25 rfl ?_
    refine a_iadd dX10_burglarHas_26 ?_
    refine a_callV (as := [_, _]) (q := t) dX10_burglarHas_27 mvX10_171 ⟨by decide, by decide⟩ hT.1.2.1 rfl rfl rfl (Nat.le_of_ble_eq_true rfl) ⟨rfl, rfl⟩ ⟨by decide, by decide⟩ (m_X8_kindAt hT hi.1 rh ⟨by omega, by omega⟩) ?_
    refine a_if_eq (tgt := 40) dX10_burglarHas_30 (by decide) (zsnd_in () () () _ _ hi.1 _ 0 (by omega) (by omega)) (fun hb30 => ?_) (fun hb30 => ?_)
    · refine a_iload dX10_burglarHas_40 rfl ?_
      exact a_ireturn dX10_burglarHas_42 rfl rfl rfl (zdet_I (by unfold bgC; first | (rw [if_pos (by omega), if_pos (by omega)] <;> omega) | (rw [if_pos (by omega), if_neg (by omega)] <;> omega) | (rw [if_neg (by omega), if_pos (by omega)] <;> omega) | (rw [if_neg (by omega), if_neg (by omega)] <;> omega)) rfl)
    · refine a_iload dX10_burglarHas_33 rfl ?_
      refine a_iconst dX10_burglarHas_35 ?_
      refine a_iadd dX10_burglarHas_36 ?_
      refine a_goto (tgt := 42) dX10_burglarHas_37 (by decide) ?_
      exact a_ireturn dX10_burglarHas_42 rfl rfl rfl (zdet_I (by unfold bgC; first | (rw [if_pos (by omega), if_pos (by omega)] <;> omega) | (rw [if_pos (by omega), if_neg (by omega)] <;> omega) | (rw [if_neg (by omega), if_pos (by omega)] <;> omega) | (rw [if_neg (by omega), if_neg (by omega)] <;> omega)) rfl)

set_option maxRecDepth 100000 in
set_option maxHeartbeats 4000000 in
theorem m_X10_houseHas {G : zG} {l : Launch} {L : Nat} {P : zP} {M : zM} {t : Nat} {h b l9 : Int} (hv : CV L P M t) (rh : inR h) (rb : 0 ≤ b ∧ b ≤ 3) (rl : 0 ≤ l9 ∧ l9 ≤ 3) : AM G l yX10_houseHas mdX10_houseHas [aR 2, aI h, aI b, aI l9] (LAY L) P M (zdet (some (aI (hsC M t h b l9))) (LAY L) P M) := by
  obtain ⟨hc, hi, hxt, hnr, hhr⟩ := id hv
  obtain ⟨hP, hTp, hT, ht, hS, ha⟩ := id hc
  have q1 := hi.1.1
  have sg := st_guess L hP
  have sn := st_now L hP
  have qh := hi.2.2.1.2.2.2.2.2.1
  have qs := hi.1.2.2.1
  refine AM.go [some (aR 2), some (aI h), some (aI b), some (aI l9), none] rfl (Nat.le_of_ble_eq_true rfl) ?_ (by decide) rfl rfl
  refine a_iloadn dX10_houseHas_0 rfl ?_
  refine a_iloadn dX10_houseHas_1 rfl ?_
  refine a_icmp_ne (tgt := 9) dX10_houseHas_2 (by decide) ⟨by omega, by omega⟩ ⟨by omega, by omega⟩ (fun hb2 => ?_) (fun hb2 => ?_)
  · refine a_iconst dX10_houseHas_9 ?_
    refine c_istore (ls' := [_, _, _, _, _]) dX10_houseHas_10 (by decide) rfl rfl ?_
    refine a_aloadn dX10_houseHas_12 rfl ?_
    refine a_getR (j' := 2) (y := t) dX10_houseHas_13 flX10_16 rfl rfl (L2 L) hxt ?_
    refine a_iloadn dX10_houseHas_16 rfl ?_
    refine a_aloadn dX10_houseHas_17 rfl ?_
    refine a_getR (j' := 7) (y := 61) dX10_houseHas_18 flX10_51 rfl rfl (L2 L) (p2_7 hP) ?_
    refine b_getI (j' := 5) dX10_houseHas_21 flX10_195 rfl rfl (L61 L) (fun hr21 => ?_)
    refine a_iloadn dX10_houseHas_24 rfl ?_
    refine a_iadd dX10_houseHas_25 ?_
    refine a_callV (as := [_, _]) (q := t) dX10_houseHas_26 mvX10_171 ⟨by decide, by decide⟩ hT.1.2.1 rfl rfl rfl (Nat.le_of_ble_eq_true rfl) ⟨rfl, rfl⟩ ⟨by decide, by decide⟩ (m_X8_kindAt hT hi.1 rh ⟨by omega, by omega⟩) ?_
    refine a_if_eq (tgt := 40) dX10_houseHas_29 (by decide) (zsnd_in () () () _ _ hi.1 _ 0 (by omega) (by omega)) (fun hb29 => ?_) (fun hb29 => ?_)
    · refine a_iload dX10_houseHas_40 rfl ?_
      exact a_ireturn dX10_houseHas_42 rfl rfl rfl (zdet_I (by unfold hsC; first | (rw [if_pos (by omega), if_pos (by omega)] <;> omega) | (rw [if_pos (by omega), if_neg (by omega)] <;> omega) | (rw [if_neg (by omega), if_pos (by omega)] <;> omega) | (rw [if_neg (by omega), if_neg (by omega)] <;> omega)) rfl)
    · refine a_iload dX10_houseHas_32 rfl ?_
      refine a_bipush (w := 6) dX10_houseHas_34 (by decide) ?_
      refine a_isub dX10_houseHas_36 ?_
      refine a_goto (tgt := 42) dX10_houseHas_37 (by decide) ?_
      exact a_ireturn dX10_houseHas_42 rfl rfl rfl (zdet_I (by unfold hsC; first | (rw [if_pos (by omega), if_pos (by omega)] <;> omega) | (rw [if_pos (by omega), if_neg (by omega)] <;> omega) | (rw [if_neg (by omega), if_pos (by omega)] <;> omega) | (rw [if_neg (by omega), if_neg (by omega)] <;> omega)) rfl)
  · refine a_iconst dX10_houseHas_5 ?_
    refine a_goto (tgt := 10) dX10_houseHas_6 (by decide) ?_
    refine c_istore (ls' := [_, _, _, _, _]) dX10_houseHas_10 (by decide) rfl rfl ?_
    refine a_aloadn dX10_houseHas_12 rfl ?_
    refine a_getR (j' := 2) (y := t) dX10_houseHas_13 flX10_16 rfl rfl (L2 L) hxt ?_
    refine a_iloadn dX10_houseHas_16 rfl ?_
    refine a_aloadn dX10_houseHas_17 rfl ?_
    refine a_getR (j' := 7) (y := 61) dX10_houseHas_18 flX10_51 rfl rfl (L2 L) (p2_7 hP) ?_
    refine b_getI (j' := 5) dX10_houseHas_21 flX10_195 rfl rfl (L61 L) (fun hr21 => ?_)
    refine a_iloadn dX10_houseHas_24 rfl ?_
    refine a_iadd dX10_houseHas_25 ?_
    refine a_callV (as := [_, _]) (q := t) dX10_houseHas_26 mvX10_171 ⟨by decide, by decide⟩ hT.1.2.1 rfl rfl rfl (Nat.le_of_ble_eq_true rfl) ⟨rfl, rfl⟩ ⟨by decide, by decide⟩ (m_X8_kindAt hT hi.1 rh ⟨by omega, by omega⟩) ?_
    refine a_if_eq (tgt := 40) dX10_houseHas_29 (by decide) (zsnd_in () () () _ _ hi.1 _ 0 (by omega) (by omega)) (fun hb29 => ?_) (fun hb29 => ?_)
    · refine a_iload dX10_houseHas_40 rfl ?_
      exact a_ireturn dX10_houseHas_42 rfl rfl rfl (zdet_I (by unfold hsC; first | (rw [if_pos (by omega), if_pos (by omega)] <;> omega) | (rw [if_pos (by omega), if_neg (by omega)] <;> omega) | (rw [if_neg (by omega), if_pos (by omega)] <;> omega) | (rw [if_neg (by omega), if_neg (by omega)] <;> omega)) rfl)
    · refine a_iload dX10_houseHas_32 rfl ?_
      refine a_bipush (w := 6) dX10_houseHas_34 (by decide) ?_
      refine a_isub dX10_houseHas_36 ?_
      refine a_goto (tgt := 42) dX10_houseHas_37 (by decide) ?_
      exact a_ireturn dX10_houseHas_42 rfl rfl rfl (zdet_I (by unfold hsC; first | (rw [if_pos (by omega), if_pos (by omega)] <;> omega) | (rw [if_pos (by omega), if_neg (by omega)] <;> omega) | (rw [if_neg (by omega), if_pos (by omega)] <;> omega) | (rw [if_neg (by omega), if_neg (by omega)] <;> omega)) rfl)

set_option maxRecDepth 100000 in
set_option maxHeartbeats 4000000 in
theorem lpX10_isRest {G : zG} {l : Launch} {L : Nat} {P : zP} {M : zM} {t : Nat} {h b l9 : Int} (hv : CV L P M t) (rh : inR h) (rb : 0 ≤ b ∧ b ≤ 3) (rl : 0 ≤ l9 ∧ l9 ≤ 3) : ∀ (n : Nat) (k : Int) (g0 : 0 ≤ k) (g1 : k + n = 4), AW G l mdX10_isRest (zone (LAY L) P M (fun r => r = zall (fun k => if bgC M t h b l9 < bgC M t h k l9 ∨ hsC M t h b l9 < hsC M t h b k then 0 else 1) n k)) 3 [some (aR 2), some (aI h), some (aI b), some (aI l9), some (aI k)] [] (LAY L) P M 0 0 := by
  intro n
  induction n with
  | zero =>
    intro k g0 g1
    obtain ⟨hc, hi, hxt, hnr, hhr⟩ := id hv
    obtain ⟨hP, hTp, hT, ht, hS, ha⟩ := id hc
    have q1 := hi.1.1
    have sg := st_guess L hP
    have sn := st_now L hP
    have b1 := bgC_in M t h k l9
    have b2 := bgC_in M t h b l9
    have b3 := hsC_in M t h b k
    have b4 := hsC_in M t h b l9
    refine a_iload dX10_isRest_3 rfl ?_
    refine a_iconst dX10_isRest_5 ?_
    refine a_icmp_gt (tgt := 53) dX10_isRest_6 (by decide) ⟨by omega, by omega⟩ ⟨by omega, by omega⟩ (fun hb6 => ?_) (fun hb6 => ?_)
    · refine a_iconst dX10_isRest_53 ?_
      exact a_zreturn dX10_isRest_54 rfl rfl rfl (by omega) (zone_i rfl)
    · exfalso; omega
  | succ n ih =>
    intro k g0 g1
    obtain ⟨hc, hi, hxt, hnr, hhr⟩ := id hv
    obtain ⟨hP, hTp, hT, ht, hS, ha⟩ := id hc
    have q1 := hi.1.1
    have sg := st_guess L hP
    have sn := st_now L hP
    have b1 := bgC_in M t h k l9
    have b2 := bgC_in M t h b l9
    have b3 := hsC_in M t h b k
    have b4 := hsC_in M t h b l9
    refine a_iload dX10_isRest_3 rfl ?_
    refine a_iconst dX10_isRest_5 ?_
    refine a_icmp_gt (tgt := 53) dX10_isRest_6 (by decide) ⟨by omega, by omega⟩ ⟨by omega, by omega⟩ (fun hb6 => ?_) (fun hb6 => ?_)
    · exfalso; omega
    · refine a_aloadn dX10_isRest_9 rfl ?_
      refine a_iloadn dX10_isRest_10 rfl ?_
      refine a_iload dX10_isRest_11 rfl ?_
      refine a_iloadn dX10_isRest_13 rfl ?_
      refine a_callV (as := [_, _, _]) (q := 2) dX10_isRest_14 mvX10_311 ⟨by decide, by decide⟩ (L2 L) rfl rfl rfl (Nat.le_of_ble_eq_true rfl) ⟨rfl, rfl⟩ ⟨by decide, by decide⟩ (m_X10_burglarHas hv rh (by omega) (by omega)) ?_
      refine a_aloadn dX10_isRest_17 rfl ?_
      refine a_iloadn dX10_isRest_18 rfl ?_
      refine a_iloadn dX10_isRest_19 rfl ?_
      refine a_iloadn dX10_isRest_20 rfl ?_
      refine a_callV (as := [_, _, _]) (q := 2) dX10_isRest_21 mvX10_311 ⟨by decide, by decide⟩ (L2 L) rfl rfl rfl (Nat.le_of_ble_eq_true rfl) ⟨rfl, rfl⟩ ⟨by decide, by decide⟩ (m_X10_burglarHas hv rh (by omega) (by omega)) ?_
      refine a_icmp_gt (tgt := 45) dX10_isRest_24 (by decide) ⟨by omega, by omega⟩ ⟨by omega, by omega⟩ (fun hb24 => ?_) (fun hb24 => ?_)
      · refine a_iconst dX10_isRest_45 ?_
        exact a_zreturn dX10_isRest_46 rfl rfl rfl (by omega) (zone_i (by simp only [zall]; rw [if_pos (if_pos (by omega))]))
      · refine a_aloadn dX10_isRest_27 rfl ?_
        refine a_iloadn dX10_isRest_28 rfl ?_
        refine a_iloadn dX10_isRest_29 rfl ?_
        refine a_iload dX10_isRest_30 rfl ?_
        refine a_callV (as := [_, _, _]) (q := 2) dX10_isRest_32 mvX10_314 ⟨by decide, by decide⟩ (L2 L) rfl rfl rfl (Nat.le_of_ble_eq_true rfl) ⟨rfl, rfl⟩ ⟨by decide, by decide⟩ (m_X10_houseHas hv rh (by omega) (by omega)) ?_
        refine a_aloadn dX10_isRest_35 rfl ?_
        refine a_iloadn dX10_isRest_36 rfl ?_
        refine a_iloadn dX10_isRest_37 rfl ?_
        refine a_iloadn dX10_isRest_38 rfl ?_
        refine a_callV (as := [_, _, _]) (q := 2) dX10_isRest_39 mvX10_314 ⟨by decide, by decide⟩ (L2 L) rfl rfl rfl (Nat.le_of_ble_eq_true rfl) ⟨rfl, rfl⟩ ⟨by decide, by decide⟩ (m_X10_houseHas hv rh (by omega) (by omega)) ?_
        refine a_icmp_le (tgt := 47) dX10_isRest_42 (by decide) ⟨by omega, by omega⟩ ⟨by omega, by omega⟩ (fun hb42 => ?_) (fun hb42 => ?_)
        · refine c_iinc (ls' := [_, _, _, _, _]) dX10_isRest_47 rfl (by decide) rfl rfl ?_
          refine a_goto (tgt := 3) dX10_isRest_50 (by decide) ?_
          simp only [zall]
          rw [if_neg (by rw [if_neg (by omega)]; decide)]
          exact ih _ (by omega) (by omega)
        · refine a_iconst dX10_isRest_45 ?_
          exact a_zreturn dX10_isRest_46 rfl rfl rfl (by omega) (zone_i (by simp only [zall]; rw [if_pos (if_pos (by omega))]))

set_option maxRecDepth 100000 in
set_option maxHeartbeats 4000000 in
theorem m_X10_isRest {G : zG} {l : Launch} {L : Nat} {P : zP} {M : zM} {t : Nat} {h b l9 : Int} (hv : CV L P M t) (rh : inR h) (rb : 0 ≤ b ∧ b ≤ 3) (rl : 0 ≤ l9 ∧ l9 ≤ 3) : AM G l yX10_isRest mdX10_isRest [aR 2, aI h, aI b, aI l9] (LAY L) P M (zone (LAY L) P M (fun r => r = rsC M t h b l9)) := by
  obtain ⟨hc, hi, hxt, hnr, hhr⟩ := id hv
  obtain ⟨hP, hTp, hT, ht, hS, ha⟩ := id hc
  have q1 := hi.1.1
  have sg := st_guess L hP
  have sn := st_now L hP
  refine AM.go [some (aR 2), some (aI h), some (aI b), some (aI l9), none] rfl (Nat.le_of_ble_eq_true rfl) ?_ (by decide) rfl rfl
  refine a_iconst dX10_isRest_0 ?_
  refine c_istore (ls' := [_, _, _, _, _]) dX10_isRest_1 (by decide) rfl rfl ?_
  exact lpX10_isRest hv rh rb rl 4 0 (by omega) (by omega)

set_option maxRecDepth 100000 in
set_option maxHeartbeats 4000000 in
theorem lpX10_rests_in {G : zG} {l : Launch} {L : Nat} {P : zP} {M : zM} {t : Nat} {h b : Int} {Z : zZ} (hv : CV L P M t) (rh : inR h) (rb : 0 ≤ b ∧ b ≤ 3) : ∀ (n : Nat) (i acc : Int) (g0 : 0 ≤ i) (g1 : i + n = 4) (kk : AW G l mdX10_rests Z 48 [some (aR 2), some (aI h), some (aI (zsm (rsC M t h b) n i acc)), some (aI b), none] [] (LAY L) P M 0 0), AW G l mdX10_rests Z 22 [some (aR 2), some (aI h), some (aI acc), some (aI b), some (aI i)] [] (LAY L) P M 0 0 := by
  intro n
  induction n with
  | zero =>
    intro i acc g0 g1 kk
    obtain ⟨hc, hi, hxt, hnr, hhr⟩ := id hv
    obtain ⟨hP, hTp, hT, ht, hS, ha⟩ := id hc
    have q1 := hi.1.1
    have sg := st_guess L hP
    have sn := st_now L hP
    refine a_iload dX10_rests_22 rfl ?_
    refine a_iconst dX10_rests_24 ?_
    refine a_icmp_gt (tgt := 48) dX10_rests_25 (by decide) ⟨by omega, by omega⟩ ⟨by omega, by omega⟩ (fun hb25 => ?_) (fun hb25 => ?_)
    · refine a_forget [4] (ls' := [_, _, _, _, none]) rfl kk
    · exfalso; omega
  | succ n ih =>
    intro i acc g0 g1 kk
    obtain ⟨hc, hi, hxt, hnr, hhr⟩ := id hv
    obtain ⟨hP, hTp, hT, ht, hS, ha⟩ := id hc
    have q1 := hi.1.1
    have sg := st_guess L hP
    have sn := st_now L hP
    refine a_iload dX10_rests_22 rfl ?_
    refine a_iconst dX10_rests_24 ?_
    refine a_icmp_gt (tgt := 48) dX10_rests_25 (by decide) ⟨by omega, by omega⟩ ⟨by omega, by omega⟩ (fun hb25 => ?_) (fun hb25 => ?_)
    · exfalso; omega
    · refine a_aloadn dX10_rests_28 rfl ?_
      refine a_iloadn dX10_rests_29 rfl ?_
      refine a_iloadn dX10_rests_30 rfl ?_
      refine a_iload dX10_rests_31 rfl ?_
      refine a_oneV (as := [_, _, _]) (q := 2) dX10_rests_33 mvX10_308 ⟨by decide, by decide⟩ (L2 L) rfl rfl rfl (Nat.le_of_ble_eq_true rfl) ⟨rfl, rfl⟩ ⟨by decide, by decide⟩ (m_X10_isRest hv rh (by omega) (by omega)) (fun x9 hx9 => ?_)
      refine a_if_eq (tgt := 42) dX10_rests_36 (by decide) (by have q9 := zall01 (fun k => if bgC M t h b i < bgC M t h k i ∨ hsC M t h b i < hsC M t h b k then 0 else 1) 4 0; have q10 : rsC M t h b i = 0 ∨ rsC M t h b i = 1 := q9; exact ⟨by omega, by omega⟩) (fun hb36 => ?_) (fun hb36 => ?_)
      · refine c_iinc (ls' := [_, _, _, _, _]) dX10_rests_42 rfl (by decide) rfl rfl ?_
        refine a_goto (tgt := 22) dX10_rests_45 (by decide) ?_
        simp only [zsm] at kk
        have q9 := zall01 (fun k => if bgC M t h b i < bgC M t h k i ∨ hsC M t h b i < hsC M t h b k then 0 else 1) 4 0
        have q10 : rsC M t h b i = 0 ∨ rsC M t h b i = 1 := q9
        first
        | (rw [show rsC M t h b i = 1 by omega] at kk; exact ih _ _ (by omega) (by omega) kk)
        | (rw [show rsC M t h b i = 0 by omega, Int.add_zero] at kk; exact ih _ _ (by omega) (by omega) kk)
      · refine c_iinc (ls' := [_, _, _, _, _]) dX10_rests_39 rfl (by decide) rfl rfl ?_
        refine c_iinc (ls' := [_, _, _, _, _]) dX10_rests_42 rfl (by decide) rfl rfl ?_
        refine a_goto (tgt := 22) dX10_rests_45 (by decide) ?_
        simp only [zsm] at kk
        have q9 := zall01 (fun k => if bgC M t h b i < bgC M t h k i ∨ hsC M t h b i < hsC M t h b k then 0 else 1) 4 0
        have q10 : rsC M t h b i = 0 ∨ rsC M t h b i = 1 := q9
        first
        | (rw [show rsC M t h b i = 1 by omega] at kk; exact ih _ _ (by omega) (by omega) kk)
        | (rw [show rsC M t h b i = 0 by omega, Int.add_zero] at kk; exact ih _ _ (by omega) (by omega) kk)

set_option maxRecDepth 100000 in
set_option maxHeartbeats 4000000 in
theorem lpX10_rests {G : zG} {l : Launch} {L : Nat} {P : zP} {M : zM} {t : Nat} {h : Int} (hv : CV L P M t) (rh : inR h) : ∀ (n : Nat) (b acc : Int) (g0 : 0 ≤ b) (g1 : b + n = 4), AW G l mdX10_rests (zone (LAY L) P M (fun r => r = rsO (rsC M t h) n b acc)) 14 [some (aR 2), some (aI h), some (aI acc), some (aI b), none] [] (LAY L) P M 0 0 := by
  intro n
  induction n with
  | zero =>
    intro b acc g0 g1
    obtain ⟨hc, hi, hxt, hnr, hhr⟩ := id hv
    obtain ⟨hP, hTp, hT, ht, hS, ha⟩ := id hc
    have q1 := hi.1.1
    have sg := st_guess L hP
    have sn := st_now L hP
    refine a_iloadn dX10_rests_14 rfl ?_
    refine a_iconst dX10_rests_15 ?_
    refine a_icmp_gt (tgt := 54) dX10_rests_16 (by decide) ⟨by omega, by omega⟩ ⟨by omega, by omega⟩ (fun hb16 => ?_) (fun hb16 => ?_)
    · refine a_iloadn dX10_rests_54 rfl ?_
      exact a_ireturn dX10_rests_55 rfl rfl rfl (zone_i rfl)
    · exfalso; omega
  | succ n ih =>
    intro b acc g0 g1
    obtain ⟨hc, hi, hxt, hnr, hhr⟩ := id hv
    obtain ⟨hP, hTp, hT, ht, hS, ha⟩ := id hc
    have q1 := hi.1.1
    have sg := st_guess L hP
    have sn := st_now L hP
    refine a_iloadn dX10_rests_14 rfl ?_
    refine a_iconst dX10_rests_15 ?_
    refine a_icmp_gt (tgt := 54) dX10_rests_16 (by decide) ⟨by omega, by omega⟩ ⟨by omega, by omega⟩ (fun hb16 => ?_) (fun hb16 => ?_)
    · exfalso; omega
    · refine a_iconst dX10_rests_19 ?_
      refine c_istore (ls' := [_, _, _, _, _]) dX10_rests_20 (by decide) rfl rfl ?_
      refine lpX10_rests_in hv rh (by omega) 4 0 acc (by omega) (by omega) ?_
      refine c_iinc (ls' := [_, _, _, _, _]) dX10_rests_48 rfl (by decide) rfl rfl ?_
      refine a_goto (tgt := 14) dX10_rests_51 (by decide) ?_
      simp only [rsO]
      exact ih _ _ (by omega) (by omega)

set_option maxRecDepth 100000 in
set_option maxHeartbeats 4000000 in
theorem m_X10_rests {G : zG} {l : Launch} {L : Nat} {P : zP} {M : zM} {t : Nat} {h : Int} (hv : CV L P M t) (rh : inR h) : AM G l yX10_rests mdX10_rests [aR 2, aI h] (LAY L) P M (zany (LAY L) P (fun r M' => Cn t M M' ∧ r = if 0 ≤ h ∧ h < M t 2 then rsO (rsC M t h) 4 0 0 else -1)) := by
  obtain ⟨hc, hi, hxt, hnr, hhr⟩ := id hv
  obtain ⟨hP, hTp, hT, ht, hS, ha⟩ := id hc
  have q1 := hi.1.1
  have sg := st_guess L hP
  have sn := st_now L hP
  refine AM.go [some (aR 2), some (aI h), none, none, none] rfl (Nat.le_of_ble_eq_true rfl) ?_ (by decide) rfl rfl
  refine a_aloadn dX10_rests_0 rfl ?_
  refine a_iloadn dX10_rests_1 rfl ?_
  refine a_oneV (as := [_]) (q := 2) dX10_rests_2 mvX10_121 ⟨by decide, by decide⟩ (L2 L) rfl rfl rfl (Nat.le_of_ble_eq_true rfl) ⟨rfl, rfl⟩ ⟨by decide, by decide⟩ (m_X10_isHouse hv (h := h) rh) (fun x2 hx2 => ?_)
  refine a_if_ne (tgt := 10) dX10_rests_5 (by decide) ⟨by omega, by omega⟩ (fun hb5 => ?_) (fun hb5 => ?_)
  · refine a_iconst dX10_rests_10 ?_
    refine c_istoren (ls' := [_, _, _, _, _]) dX10_rests_11 (by decide) rfl rfl ?_
    refine a_iconst dX10_rests_12 ?_
    refine c_istoren (ls' := [_, _, _, _, _]) dX10_rests_13 (by decide) rfl rfl ?_
    refine AW.mono2 (lpX10_rests hv rh 4 0 0 (by omega) (by omega)) ?_
    rintro r lay P' M' ⟨z1, z2, rfl, x, z3, z4⟩
    exact ⟨z1, z2, x, z3, Cn.rf hv, by rw [if_pos (by omega)]; exact z4⟩
  · refine a_iconst dX10_rests_8 ?_
    exact a_ireturn dX10_rests_9 rfl rfl rfl (zany_i ⟨Cn.rf hv, by rw [if_neg (by omega)]⟩)

set_option maxRecDepth 100000 in
set_option maxHeartbeats 4000000 in
theorem lpX10_rest_in {G : zG} {l : Launch} {L : Nat} {P : zP} {M : zM} {t : Nat} {h b k0 : Int} {Z : zZ} (hv : CV L P M t) (rh : inR h) (rb : 0 ≤ b ∧ b ≤ 3) : ∀ (n : Nat) (i lf : Int) (g0 : 0 ≤ i) (g1 : i + n = 4) (gl : 0 ≤ lf ∧ lf ≤ 2147483647) (kk : ∀ lf', rtI (rsC M t h b) b n i lf = (none, lf') → 0 ≤ lf' → lf' ≤ 2147483647 → AW G l mdX10_rest Z 68 [some (aR 2), some (aI h), some (aI k0), some (aI lf'), some (aI b), none] [] (LAY L) P M 0 0) (kr : ∀ r, (rtI (rsC M t h b) b n i lf).1 = some r → Z (some (aI r)) (LAY L) P M), AW G l mdX10_rest Z 28 [some (aR 2), some (aI h), some (aI k0), some (aI lf), some (aI b), some (aI i)] [] (LAY L) P M 0 0 := by
  intro n
  induction n with
  | zero =>
    intro i lf g0 g1 gl kk kr
    obtain ⟨hc, hi, hxt, hnr, hhr⟩ := id hv
    obtain ⟨hP, hTp, hT, ht, hS, ha⟩ := id hc
    have q1 := hi.1.1
    have sg := st_guess L hP
    have sn := st_now L hP
    refine a_iload dX10_rest_28 rfl ?_
    refine a_iconst dX10_rest_30 ?_
    refine a_icmp_gt (tgt := 68) dX10_rest_31 (by decide) ⟨by omega, by omega⟩ ⟨by omega, by omega⟩ (fun hb31 => ?_) (fun hb31 => ?_)
    · refine a_forget [5] (ls' := [_, _, _, _, _, none]) rfl (kk lf rfl gl.1 gl.2)
    · exfalso; omega
  | succ n ih =>
    intro i lf g0 g1 gl kk kr
    obtain ⟨hc, hi, hxt, hnr, hhr⟩ := id hv
    obtain ⟨hP, hTp, hT, ht, hS, ha⟩ := id hc
    have q1 := hi.1.1
    have sg := st_guess L hP
    have sn := st_now L hP
    refine a_iload dX10_rest_28 rfl ?_
    refine a_iconst dX10_rest_30 ?_
    refine a_icmp_gt (tgt := 68) dX10_rest_31 (by decide) ⟨by omega, by omega⟩ ⟨by omega, by omega⟩ (fun hb31 => ?_) (fun hb31 => ?_)
    · exfalso; omega
    · refine a_aloadn dX10_rest_34 rfl ?_
      refine a_iloadn dX10_rest_35 rfl ?_
      refine a_iload dX10_rest_36 rfl ?_
      refine a_iload dX10_rest_38 rfl ?_
      refine a_oneV (as := [_, _, _]) (q := 2) dX10_rest_40 mvX10_308 ⟨by decide, by decide⟩ (L2 L) rfl rfl rfl (Nat.le_of_ble_eq_true rfl) ⟨rfl, rfl⟩ ⟨by decide, by decide⟩ (m_X10_isRest hv rh (by omega) (by omega)) (fun x9 hx9 => ?_)
      refine a_if_eq (tgt := 62) dX10_rest_43 (by decide) (by have q9 := zall01 (fun k => if bgC M t h b i < bgC M t h k i ∨ hsC M t h b i < hsC M t h b k then 0 else 1) 4 0; have q10 : rsC M t h b i = 0 ∨ rsC M t h b i = 1 := q9; exact ⟨by omega, by omega⟩) (fun hb43 => ?_) (fun hb43 => ?_)
      · refine c_iinc (ls' := [_, _, _, _, _, _]) dX10_rest_62 rfl (by decide) rfl rfl ?_
        refine a_goto (tgt := 28) dX10_rest_65 (by decide) ?_
        simp only [rtI] at kk kr
        first
        | (rw [if_pos (by omega)] at kk kr; exact ih _ _ (by omega) (by omega) gl kk kr)
        | (rw [if_neg (by omega), if_neg (by omega)] at kk kr; exact ih _ _ (by omega) (by omega) (by omega) kk kr)
      · refine a_iloadn dX10_rest_46 rfl ?_
        refine a_if_ne (tgt := 59) dX10_rest_47 (by decide) ⟨by omega, by omega⟩ (fun hb47 => ?_) (fun hb47 => ?_)
        · refine c_iinc (ls' := [_, _, _, _, _, _]) dX10_rest_59 rfl (by decide) rfl rfl ?_
          refine c_iinc (ls' := [_, _, _, _, _, _]) dX10_rest_62 rfl (by decide) rfl rfl ?_
          refine a_goto (tgt := 28) dX10_rest_65 (by decide) ?_
          simp only [rtI] at kk kr
          first
          | (rw [if_pos (by omega)] at kk kr; exact ih _ _ (by omega) (by omega) gl kk kr)
          | (rw [if_neg (by omega), if_neg (by omega)] at kk kr; exact ih _ _ (by omega) (by omega) (by omega) kk kr)
        · refine a_bipush (w := 10) dX10_rest_50 (by decide) ?_
          refine a_iload dX10_rest_52 rfl ?_
          refine a_imul dX10_rest_54 ?_
          refine a_iload dX10_rest_55 rfl ?_
          refine a_iadd dX10_rest_57 ?_
          exact a_ireturn dX10_rest_58 rfl rfl rfl (kr _ (by simp only [rtI]; rw [if_neg (by omega), if_pos (by omega)]))

set_option maxRecDepth 100000 in
set_option maxHeartbeats 4000000 in
theorem lpX10_rest {G : zG} {l : Launch} {L : Nat} {P : zP} {M : zM} {t : Nat} {h k0 : Int} (hv : CV L P M t) (rh : inR h) : ∀ (n : Nat) (b lf : Int) (g0 : 0 ≤ b) (g1 : b + n = 4) (gl : 0 ≤ lf ∧ lf ≤ 2147483647), AW G l mdX10_rest (zone (LAY L) P M (fun r => r = rtO (rsC M t h) n b lf)) 19 [some (aR 2), some (aI h), some (aI k0), some (aI lf), some (aI b), none] [] (LAY L) P M 0 0 := by
  intro n
  induction n with
  | zero =>
    intro b lf g0 g1 gl
    obtain ⟨hc, hi, hxt, hnr, hhr⟩ := id hv
    obtain ⟨hP, hTp, hT, ht, hS, ha⟩ := id hc
    have q1 := hi.1.1
    have sg := st_guess L hP
    have sn := st_now L hP
    refine a_iload dX10_rest_19 rfl ?_
    refine a_iconst dX10_rest_21 ?_
    refine a_icmp_gt (tgt := 74) dX10_rest_22 (by decide) ⟨by omega, by omega⟩ ⟨by omega, by omega⟩ (fun hb22 => ?_) (fun hb22 => ?_)
    · refine a_bipush (w := (-2)) dX10_rest_74 (by decide) ?_
      exact a_ireturn dX10_rest_76 rfl rfl rfl (zone_i rfl)
    · exfalso; omega
  | succ n ih =>
    intro b lf g0 g1 gl
    obtain ⟨hc, hi, hxt, hnr, hhr⟩ := id hv
    obtain ⟨hP, hTp, hT, ht, hS, ha⟩ := id hc
    have q1 := hi.1.1
    have sg := st_guess L hP
    have sn := st_now L hP
    refine a_iload dX10_rest_19 rfl ?_
    refine a_iconst dX10_rest_21 ?_
    refine a_icmp_gt (tgt := 74) dX10_rest_22 (by decide) ⟨by omega, by omega⟩ ⟨by omega, by omega⟩ (fun hb22 => ?_) (fun hb22 => ?_)
    · exfalso; omega
    · refine a_iconst dX10_rest_25 ?_
      refine c_istore (ls' := [_, _, _, _, _, _]) dX10_rest_26 (by decide) rfl rfl ?_
      refine lpX10_rest_in hv rh (by omega) 4 0 lf (by omega) (by omega) gl (fun lf' e1 e2 e3 => ?_) (fun r hr => zone_i ?_)
      · refine c_iinc (ls' := [_, _, _, _, _, _]) dX10_rest_68 rfl (by decide) rfl rfl ?_
        refine a_goto (tgt := 19) dX10_rest_71 (by decide) ?_
        simp only [rtO]
        rw [e1]
        exact ih _ _ (by omega) (by omega) ⟨e2, e3⟩
      · simp only [rtO]
        generalize rtI (rsC M t h b) b 4 0 lf = p at hr
        obtain ⟨p1, p2⟩ := p
        simp only at hr
        subst hr
        rfl

set_option maxRecDepth 100000 in
set_option maxHeartbeats 4000000 in
theorem m_X10_rest {G : zG} {l : Launch} {L : Nat} {P : zP} {M : zM} {t : Nat} {h k0 : Int} (hv : CV L P M t) (rh : inR h) (rk0 : inR k0) : AM G l yX10_rest mdX10_rest [aR 2, aI h, aI k0] (LAY L) P M (zany (LAY L) P (fun r M' => Cn t M M' ∧ r = if 0 ≤ h ∧ h < M t 2 ∧ 0 ≤ k0 then rtO (rsC M t h) 4 0 k0 else -1)) := by
  obtain ⟨hc, hi, hxt, hnr, hhr⟩ := id hv
  obtain ⟨hP, hTp, hT, ht, hS, ha⟩ := id hc
  have q1 := hi.1.1
  have sg := st_guess L hP
  have sn := st_now L hP
  refine AM.go [some (aR 2), some (aI h), some (aI k0), none, none, none] rfl (Nat.le_of_ble_eq_true rfl) ?_ (by decide) rfl rfl
  refine a_aloadn dX10_rest_0 rfl ?_
  refine a_iloadn dX10_rest_1 rfl ?_
  refine a_oneV (as := [_]) (q := 2) dX10_rest_2 mvX10_121 ⟨by decide, by decide⟩ (L2 L) rfl rfl rfl (Nat.le_of_ble_eq_true rfl) ⟨rfl, rfl⟩ ⟨by decide, by decide⟩ (m_X10_isHouse hv (h := h) rh) (fun x2 hx2 => ?_)
  refine a_if_eq (tgt := 12) dX10_rest_5 (by decide) ⟨by omega, by omega⟩ (fun hb5 => ?_) (fun hb5 => ?_)
  · refine a_iconst dX10_rest_12 ?_
    exact a_ireturn dX10_rest_13 rfl rfl rfl (zany_i ⟨Cn.rf hv, by rw [if_neg (by omega)]⟩)
  · refine a_iloadn dX10_rest_8 rfl ?_
    refine a_if_ge (tgt := 14) dX10_rest_9 (by decide) ⟨by omega, by omega⟩ (fun hb9 => ?_) (fun hb9 => ?_)
    · refine a_iloadn dX10_rest_14 rfl ?_
      refine c_istoren (ls' := [_, _, _, _, _, _]) dX10_rest_15 (by decide) rfl rfl ?_
      refine a_iconst dX10_rest_16 ?_
      refine c_istore (ls' := [_, _, _, _, _, _]) dX10_rest_17 (by decide) rfl rfl ?_
      refine AW.mono2 (lpX10_rest hv rh 4 0 k0 (by omega) (by omega) (by omega)) ?_
      rintro r lay P' M' ⟨z1, z2, rfl, x, z3, z4⟩
      exact ⟨z1, z2, x, z3, Cn.rf hv, by rw [if_pos (by omega)]; exact z4⟩
    · refine a_iconst dX10_rest_12 ?_
      exact a_ireturn dX10_rest_13 rfl rfl rfl (zany_i ⟨Cn.rf hv, by rw [if_neg (by omega)]⟩)

set_option maxRecDepth 100000 in
set_option maxHeartbeats 4000000 in
theorem m_X10_note {G : zG} {l : Launch} {L : Nat} {P : zP} {M : zM} {t : Nat} {x k b : Int} (hv : CV L P M t) (hn : NI M) (rx : inR x) (rk : inR k) (rb : b = 0 ∨ b = 1) : AM G l yX10_note mdX10_note [aR 2, aI x, aI k, aI b] (LAY L) P M (zany (LAY L) P (fun r M' => ((¬ (0 ≤ x ∧ x ≤ 99 ∧ 0 ≤ k ∧ k ≤ 9)) ∧ r = -1 ∧ M' = M) ∨ (¬ (¬ (0 ≤ x ∧ x ≤ 99 ∧ 0 ≤ k ∧ k ≤ 9)) ∧ ((24 ≤ M 201 6 ∧ r = -1 ∧ M' = M) ∨ (M 201 6 < 24 ∧ r = M 201 6 ∧ M' = naM M 0 x k 0 b))))) := by
  obtain ⟨hc, hi, hxt, hnr, hhr⟩ := id hv
  obtain ⟨hP, hTp, hT, ht, hS, ha⟩ := id hc
  have q1 := hi.1.1
  have sg := st_guess L hP
  have sn := st_now L hP
  refine AM.go [some (aR 2), some (aI x), some (aI k), some (aI b)] rfl (Nat.le_of_ble_eq_true rfl) ?_ (by decide) rfl rfl
  refine a_iloadn dX10_note_0 rfl ?_
  refine a_iconst dX10_note_1 ?_
  refine a_bipush (w := 99) dX10_note_2 (by decide) ?_
  refine a_oneS (as := [_, _, _]) dX10_note_4 mvX10_167 ⟨by decide, by decide⟩ rfl rfl (Nat.le_of_ble_eq_true rfl) ⟨rfl, rfl⟩ ⟨by decide, by decide⟩ (m_X10_isWithin ⟨by omega, by omega⟩ ⟨by omega, by omega⟩ ⟨by omega, by omega⟩) (fun x4 hx4 => ?_)
  refine a_if_eq (tgt := 20) dX10_note_7 (by decide) ⟨by omega, by omega⟩ (fun hb7 => ?_) (fun hb7 => ?_)
  · refine a_iconst dX10_note_20 ?_
    exact a_ireturn dX10_note_21 rfl rfl rfl (zany_i (Or.inl ⟨by omega, rfl, rfl⟩))
  · refine a_iloadn dX10_note_10 rfl ?_
    refine a_iconst dX10_note_11 ?_
    refine a_bipush (w := 9) dX10_note_12 (by decide) ?_
    refine a_oneS (as := [_, _, _]) dX10_note_14 mvX10_167 ⟨by decide, by decide⟩ rfl rfl (Nat.le_of_ble_eq_true rfl) ⟨rfl, rfl⟩ ⟨by decide, by decide⟩ (m_X10_isWithin ⟨by omega, by omega⟩ ⟨by omega, by omega⟩ ⟨by omega, by omega⟩) (fun x14 hx14 => ?_)
    refine a_if_ne (tgt := 22) dX10_note_17 (by decide) ⟨by omega, by omega⟩ (fun hb17 => ?_) (fun hb17 => ?_)
    · refine a_aloadn dX10_note_22 rfl ?_
      refine a_getR (j' := 12) (y := 201) dX10_note_23 flX10_71 rfl rfl (L2 L) (p2_12 hP) ?_
      refine a_iconst dX10_note_26 ?_
      refine a_iloadn dX10_note_27 rfl ?_
      refine a_iloadn dX10_note_28 rfl ?_
      refine a_iconst dX10_note_29 ?_
      refine a_iloadn dX10_note_30 rfl ?_
      refine a_anyV (as := [_, _, _, _, _]) (q := 201) dX10_note_31 mvX10_317 ⟨by decide, by decide⟩ (L201 L) rfl rfl rfl (Nat.le_of_ble_eq_true rfl) ⟨rfl, rfl⟩ ⟨by decide, by decide⟩ (m_X2_add hP hn ⟨by omega, by omega⟩ ⟨by omega, by omega⟩ ⟨by omega, by omega⟩ ⟨by omega, by omega⟩ rb) (fun x9 M1 hM1 => ?_)
      exact a_ireturn dX10_note_34 rfl rfl rfl (zany_i (Or.inr ⟨by omega, hM1⟩))
    · refine a_iconst dX10_note_20 ?_
      exact a_ireturn dX10_note_21 rfl rfl rfl (zany_i (Or.inl ⟨by omega, rfl, rfl⟩))

set_option maxRecDepth 100000 in
set_option maxHeartbeats 4000000 in
theorem m_X10_see {G : zG} {l : Launch} {L : Nat} {P : zP} {M : zM} {t : Nat} {x h o b : Int} (hv : CV L P M t) (hn : NI M) (rx : inR x) (rh : inR h) (ro : inR o) (rb : b = 0 ∨ b = 1) : AM G l yX10_see mdX10_see [aR 2, aI x, aI h, aI o, aI b] (LAY L) P M (zany (LAY L) P (fun r M' => ((¬ (1 ≤ x ∧ x ≤ 60 ∧ two (M t 2) h o)) ∧ r = -1 ∧ M' = M) ∨ (¬ (¬ (1 ≤ x ∧ x ≤ 60 ∧ two (M t 2) h o)) ∧ ((24 ≤ M 201 6 ∧ r = -1 ∧ M' = M) ∨ (M 201 6 < 24 ∧ r = M 201 6 ∧ M' = naM M 1 x h o b))))) := by
  obtain ⟨hc, hi, hxt, hnr, hhr⟩ := id hv
  obtain ⟨hP, hTp, hT, ht, hS, ha⟩ := id hc
  have q1 := hi.1.1
  have sg := st_guess L hP
  have sn := st_now L hP
  refine AM.go [some (aR 2), some (aI x), some (aI h), some (aI o), some (aI b)] rfl (Nat.le_of_ble_eq_true rfl) ?_ (by decide) rfl rfl
  refine a_iloadn dX10_see_0 rfl ?_
  refine a_iconst dX10_see_1 ?_
  refine a_bipush (w := 60) dX10_see_2 (by decide) ?_
  refine a_oneS (as := [_, _, _]) dX10_see_4 mvX10_167 ⟨by decide, by decide⟩ rfl rfl (Nat.le_of_ble_eq_true rfl) ⟨rfl, rfl⟩ ⟨by decide, by decide⟩ (m_X10_isWithin ⟨by omega, by omega⟩ ⟨by omega, by omega⟩ ⟨by omega, by omega⟩) (fun x4 hx4 => ?_)
  refine a_if_eq (tgt := 19) dX10_see_7 (by decide) ⟨by omega, by omega⟩ (fun hb7 => ?_) (fun hb7 => ?_)
  · refine a_iconst dX10_see_19 ?_
    exact a_ireturn dX10_see_20 rfl rfl rfl (zany_i (Or.inl ⟨by omega, rfl, rfl⟩))
  · refine a_aloadn dX10_see_10 rfl ?_
    refine a_iloadn dX10_see_11 rfl ?_
    refine a_iloadn dX10_see_12 rfl ?_
    refine a_oneV (as := [_, _]) (q := 2) dX10_see_13 mvX10_159 ⟨by decide, by decide⟩ (L2 L) rfl rfl rfl (Nat.le_of_ble_eq_true rfl) ⟨rfl, rfl⟩ ⟨by decide, by decide⟩ (m_X10_areTwo hv (h := h) (o := o) rh ro) (fun x13 hx13 => ?_)
    refine a_if_ne (tgt := 21) dX10_see_16 (by decide) ⟨by omega, by omega⟩ (fun hb16 => ?_) (fun hb16 => ?_)
    · refine a_aloadn dX10_see_21 rfl ?_
      refine a_getR (j' := 12) (y := 201) dX10_see_22 flX10_71 rfl rfl (L2 L) (p2_12 hP) ?_
      refine a_iconst dX10_see_25 ?_
      refine a_iloadn dX10_see_26 rfl ?_
      refine a_iloadn dX10_see_27 rfl ?_
      refine a_iloadn dX10_see_28 rfl ?_
      refine a_iload dX10_see_29 rfl ?_
      refine a_anyV (as := [_, _, _, _, _]) (q := 201) dX10_see_31 mvX10_317 ⟨by decide, by decide⟩ (L201 L) rfl rfl rfl (Nat.le_of_ble_eq_true rfl) ⟨rfl, rfl⟩ ⟨by decide, by decide⟩ (m_X2_add hP hn ⟨by omega, by omega⟩ ⟨by omega, by omega⟩ ⟨by omega, by omega⟩ ⟨by omega, by omega⟩ rb) (fun x9 M1 hM1 => ?_)
      exact a_ireturn dX10_see_34 rfl rfl rfl (zany_i (Or.inr ⟨by omega, hM1⟩))
    · refine a_iconst dX10_see_19 ?_
      exact a_ireturn dX10_see_20 rfl rfl rfl (zany_i (Or.inl ⟨by omega, rfl, rfl⟩))

set_option maxRecDepth 100000 in
set_option maxHeartbeats 4000000 in
theorem m_X10_strike {G : zG} {l : Launch} {L : Nat} {P : zP} {M : zM} {t : Nat} {x : Int} (hv : CV L P M t) (hn : NI M) (rx : inR x) : AM G l yX10_strike mdX10_strike [aR 2, aI x] (LAY L) P M (zany (LAY L) P (fun r M' => ((¬ (0 ≤ x ∧ x < M 201 6)) ∧ r = -1 ∧ M' = M) ∨ (¬ (¬ (0 ≤ x ∧ x < M 201 6)) ∧ ((24 ≤ M 201 6 ∧ r = -1 ∧ M' = M) ∨ (M 201 6 < 24 ∧ r = M 201 6 ∧ M' = naM M 2 x 0 0 1))))) := by
  obtain ⟨hc, hi, hxt, hnr, hhr⟩ := id hv
  obtain ⟨hP, hTp, hT, ht, hS, ha⟩ := id hc
  have q1 := hi.1.1
  have sg := st_guess L hP
  have sn := st_now L hP
  have qn := hn.1
  refine AM.go [some (aR 2), some (aI x)] rfl (Nat.le_of_ble_eq_true rfl) ?_ (by decide) rfl rfl
  refine a_iloadn dX10_strike_0 rfl ?_
  refine a_iconst dX10_strike_1 ?_
  refine a_aloadn dX10_strike_2 rfl ?_
  refine a_getR (j' := 12) (y := 201) dX10_strike_3 flX10_71 rfl rfl (L2 L) (p2_12 hP) ?_
  refine b_getI (j' := 6) dX10_strike_6 flX10_208 rfl rfl (L201 L) (fun hr6 => ?_)
  refine a_iconst dX10_strike_9 ?_
  refine a_isub dX10_strike_10 ?_
  refine a_oneS (as := [_, _, _]) dX10_strike_11 mvX10_167 ⟨by decide, by decide⟩ rfl rfl (Nat.le_of_ble_eq_true rfl) ⟨rfl, rfl⟩ ⟨by decide, by decide⟩ (m_X10_isWithin ⟨by omega, by omega⟩ ⟨by omega, by omega⟩ ⟨by omega, by omega⟩) (fun x11 hx11 => ?_)
  refine a_if_ne (tgt := 19) dX10_strike_14 (by decide) ⟨by omega, by omega⟩ (fun hb14 => ?_) (fun hb14 => ?_)
  · refine a_aloadn dX10_strike_19 rfl ?_
    refine a_getR (j' := 12) (y := 201) dX10_strike_20 flX10_71 rfl rfl (L2 L) (p2_12 hP) ?_
    refine a_iconst dX10_strike_23 ?_
    refine a_iloadn dX10_strike_24 rfl ?_
    refine a_iconst dX10_strike_25 ?_
    refine a_iconst dX10_strike_26 ?_
    refine a_iconst dX10_strike_27 ?_
    refine a_anyV (as := [_, _, _, _, _]) (q := 201) dX10_strike_28 mvX10_317 ⟨by decide, by decide⟩ (L201 L) rfl rfl rfl (Nat.le_of_ble_eq_true rfl) ⟨rfl, rfl⟩ ⟨by decide, by decide⟩ (m_X2_add hP hn ⟨by omega, by omega⟩ ⟨by omega, by omega⟩ ⟨by omega, by omega⟩ ⟨by omega, by omega⟩ (Or.inr rfl)) (fun x9 M1 hM1 => ?_)
    exact a_ireturn dX10_strike_31 rfl rfl rfl (zany_i (Or.inr ⟨by omega, hM1⟩))
  · refine a_iconst dX10_strike_17 ?_
    exact a_ireturn dX10_strike_18 rfl rfl rfl (zany_i (Or.inl ⟨by omega, rfl, rfl⟩))

set_option maxRecDepth 100000 in
set_option maxHeartbeats 4000000 in
theorem m_X10_known {G : zG} {l : Launch} {L : Nat} {P : zP} {M : zM} {t : Nat} {x : Int} (hv : CV L P M t) (hn : NI M) (rx : inR x) : AM G l yX10_known mdX10_known [aR 2, aI x] (LAY L) P M (zany (LAY L) P (fun r M' => (¬ (-1 ≤ x ∧ x ≤ M 201 6) ∧ r = 0 ∧ M' = M) ∨ ((-1 ≤ x ∧ x ≤ M 201 6) ∧ r = 1 ∧ M' = sm M 201 7 x))) := by
  obtain ⟨hc, hi, hxt, hnr, hhr⟩ := id hv
  obtain ⟨hP, hTp, hT, ht, hS, ha⟩ := id hc
  have q1 := hi.1.1
  have sg := st_guess L hP
  have sn := st_now L hP
  have qn := hn.1
  refine AM.go [some (aR 2), some (aI x)] rfl (Nat.le_of_ble_eq_true rfl) ?_ (by decide) rfl rfl
  refine a_iloadn dX10_known_0 rfl ?_
  refine a_iconst dX10_known_1 ?_
  refine a_aloadn dX10_known_2 rfl ?_
  refine a_getR (j' := 12) (y := 201) dX10_known_3 flX10_71 rfl rfl (L2 L) (p2_12 hP) ?_
  refine b_getI (j' := 6) dX10_known_6 flX10_208 rfl rfl (L201 L) (fun hr6 => ?_)
  refine a_oneS (as := [_, _, _]) dX10_known_9 mvX10_167 ⟨by decide, by decide⟩ rfl rfl (Nat.le_of_ble_eq_true rfl) ⟨rfl, rfl⟩ ⟨by decide, by decide⟩ (m_X10_isWithin ⟨by omega, by omega⟩ ⟨by omega, by omega⟩ ⟨by omega, by omega⟩) (fun x9 hx9 => ?_)
  refine a_if_ne (tgt := 17) dX10_known_12 (by decide) ⟨by omega, by omega⟩ (fun hb12 => ?_) (fun hb12 => ?_)
  · refine a_aloadn dX10_known_17 rfl ?_
    refine a_getR (j' := 12) (y := 201) dX10_known_18 flX10_71 rfl rfl (L2 L) (p2_12 hP) ?_
    refine a_iloadn dX10_known_21 rfl ?_
    refine a_putI (j' := 7) dX10_known_22 flX10_321 rfl rfl (L201 L) (by decide) rfl ⟨by omega, by omega⟩ ?_
    refine a_iconst dX10_known_25 ?_
    exact a_zreturn dX10_known_26 rfl rfl rfl (by omega) (zany_i (Or.inr ⟨by omega, rfl, rfl⟩))
  · refine a_iconst dX10_known_15 ?_
    exact a_zreturn dX10_known_16 rfl rfl rfl (by omega) (zany_i (Or.inl ⟨by omega, rfl, rfl⟩))
