theorem AW.mono2 {G : zG} {l : Launch} {md : zMd} {Z Z' : zZ} {pc : Nat} {ls : List (Option av)} {st : List av} {lay : List zKd} {P : zP} {M : zM} {k n : Nat} (h : AW G l md Z pc ls st lay P M k n) (hz : ∀ r lay P M, Z r lay P M → Z' r lay P M) : AW G l md Z' pc ls st lay P M k n := by
  intro hG p e s m args below meth c H locs lsA hC hl hH hS
  intro T0 hT X
  obtain ⟨t2, a1, o, b1, b2, ⟨r, lay', P', M', e1, e2, e3⟩, b4⟩ := h hG p e s m args below meth c H locs lsA hC hl hH hS T0 hT X
  exact ⟨t2, a1, o, b1, b2, ⟨r, lay', P', M', e1, hz _ _ _ _ e2, e3⟩, b4⟩

set_option maxRecDepth 100000 in
set_option maxHeartbeats 4000000 in
theorem m_X10_guessAsItGoes {G : zG} {l : Launch} {L : Nat} {P : zP} {M : zM} {t : Nat} (hv : CV L P M t) : AM G l yX10_guessAsItGoes mdX10_guessAsItGoes [aR 2] (LAY L) P M (zrel none (LAY L) P (GsR t M)) := by
  obtain ⟨hc, hi, hxt, hnr, hhr⟩ := id hv
  obtain ⟨hP, hTp, hT, ht, hS, ha⟩ := id hc
  have q1 := hi.1.1
  have sg := st_guess L hP
  have sn := st_now L hP
  refine AM.go [some (aR 2)] rfl (Nat.le_of_ble_eq_true rfl) ?_ (by decide) rfl rfl
  refine a_aloadn dX10_guessAsItGoes_0 rfl ?_
  refine a_getR (j' := 8) (y := 67) dX10_guessAsItGoes_1 flX10_55 rfl rfl (L2 L) (p2_8 hP) ?_
  refine a_aloadn dX10_guessAsItGoes_4 rfl ?_
  refine a_getR (j' := 7) (y := 61) dX10_guessAsItGoes_5 flX10_51 rfl rfl (L2 L) (p2_7 hP) ?_
  refine a_relVv (as := [_]) (q := 67) dX10_guessAsItGoes_8 mvX10_235 ⟨by decide, by decide⟩ (L67 L) rfl rfl rfl (Nat.le_of_ble_eq_true rfl) ⟨rfl, rfl⟩ ⟨by decide, by decide⟩ (m_X5_copy sg sn (by omega)) (fun M1 hM1 => ?_)
  refine a_aloadn dX10_guessAsItGoes_11 rfl ?_
  refine a_getR (j' := 5) (y := 50) dX10_guessAsItGoes_12 flX10_35 rfl rfl (L2 L) (p2_5 hP) ?_
  have hc1 := hM1.cv hv
  refine a_callVv (as := []) (q := 50) dX10_guessAsItGoes_15 mvX10_78 ⟨by decide, by decide⟩ (L50 L) rfl rfl rfl (Nat.le_of_ble_eq_true rfl) ⟨rfl, rfl⟩ ⟨by decide, by decide⟩ (m_X0_asItGoes hP hTp hT ht hc1.2.2.1.1) ?_
  exact a_return dX10_guessAsItGoes_18 rfl rfl rfl (zrel_V ⟨M1, hM1, rfl⟩)

set_option maxRecDepth 100000 in
set_option maxHeartbeats 4000000 in
theorem m_X10_ahead {G : zG} {l : Launch} {L : Nat} {P : zP} {M : zM} {t : Nat} {n w h : Int} (hv : CV L P M t) (rn : inR n) (rw : inR w) (rh : inR h) : AM G l yX10_ahead mdX10_ahead [aR 2, aI n, aI w, aI h] (LAY L) P M (zany (LAY L) P (fun r M' => Cn t M M' ∧ ((¬ (0 ≤ n ∧ n ≤ 99 ∧ 0 ≤ w ∧ w ≤ 3 ∧ (w < 2 ∨ (0 ≤ h ∧ h < M t 2)))) ∧ r = -1 ∨ ¬ (¬ (0 ≤ n ∧ n ≤ 99 ∧ 0 ≤ w ∧ w ≤ 3 ∧ (w < 2 ∨ (0 ≤ h ∧ h < M t 2)))) ∧ ∃ Mg, GsR t M Mg ∧ r = ahv M (passM t 67 n.toNat Mg) w h))) := by
  obtain ⟨hc, hi, hxt, hnr, hhr⟩ := id hv
  obtain ⟨hP, hTp, hT, ht, hS, ha⟩ := id hc
  have q1 := hi.1.1
  have sg := st_guess L hP
  have sn := st_now L hP
  refine AM.go [some (aR 2), some (aI n), some (aI w), some (aI h)] rfl (Nat.le_of_ble_eq_true rfl) ?_ (by decide) rfl rfl
  refine a_iloadn dX10_ahead_0 rfl ?_
  refine a_iconst dX10_ahead_1 ?_
  refine a_bipush (w := 99) dX10_ahead_2 (by decide) ?_
  refine a_oneS (as := [_, _, _]) dX10_ahead_4 mvX10_167 ⟨by decide, by decide⟩ rfl rfl (Nat.le_of_ble_eq_true rfl) ⟨rfl, rfl⟩ ⟨by decide, by decide⟩ (m_X10_isWithin ⟨by omega, by omega⟩ ⟨by omega, by omega⟩ ⟨by omega, by omega⟩) (fun x4 hx4 => ?_)
  refine a_if_eq (tgt := 32) dX10_ahead_7 (by decide) ⟨by omega, by omega⟩ (fun hb7 => ?_) (fun hb7 => ?_)
  · refine a_iconst dX10_ahead_32 ?_
    exact a_ireturn dX10_ahead_33 rfl rfl rfl (zany_i ⟨Cn.rf hv, Or.inl ⟨by omega, rfl⟩⟩)
  · refine a_iloadn dX10_ahead_10 rfl ?_
    refine a_iconst dX10_ahead_11 ?_
    refine a_iconst dX10_ahead_12 ?_
    refine a_oneS (as := [_, _, _]) dX10_ahead_13 mvX10_167 ⟨by decide, by decide⟩ rfl rfl (Nat.le_of_ble_eq_true rfl) ⟨rfl, rfl⟩ ⟨by decide, by decide⟩ (m_X10_isWithin ⟨by omega, by omega⟩ ⟨by omega, by omega⟩ ⟨by omega, by omega⟩) (fun x13 hx13 => ?_)
    refine a_if_eq (tgt := 32) dX10_ahead_16 (by decide) ⟨by omega, by omega⟩ (fun hb16 => ?_) (fun hb16 => ?_)
    · refine a_iconst dX10_ahead_32 ?_
      exact a_ireturn dX10_ahead_33 rfl rfl rfl (zany_i ⟨Cn.rf hv, Or.inl ⟨by omega, rfl⟩⟩)
    · refine a_iloadn dX10_ahead_19 rfl ?_
      refine a_iconst dX10_ahead_20 ?_
      refine a_icmp_lt (tgt := 34) dX10_ahead_21 (by decide) ⟨by omega, by omega⟩ ⟨by omega, by omega⟩ (fun hb21 => ?_) (fun hb21 => ?_)
      · refine a_aloadn dX10_ahead_34 rfl ?_
        refine a_relVv (as := []) (q := 2) dX10_ahead_35 mvX10_238 ⟨by decide, by decide⟩ (L2 L) rfl rfl rfl (Nat.le_of_ble_eq_true rfl) ⟨rfl, rfl⟩ ⟨by decide, by decide⟩ (m_X10_guessAsItGoes hv) (fun Mg hMg => ?_)
        have hga := hMg.all hv
        refine a_aloadn dX10_ahead_38 rfl ?_
        refine a_getR (j' := 5) (y := 50) dX10_ahead_39 flX10_35 rfl rfl (L2 L) (p2_5 hP) ?_
        refine a_aloadn dX10_ahead_42 rfl ?_
        refine a_getR (j' := 8) (y := 67) dX10_ahead_43 flX10_55 rfl rfl (L2 L) (p2_8 hP) ?_
        refine a_iloadn dX10_ahead_46 rfl ?_
        refine a_relVv (as := [_, _]) (q := 50) dX10_ahead_47 mvX10_227 ⟨by decide, by decide⟩ (L50 L) rfl rfl rfl (Nat.le_of_ble_eq_true rfl) ⟨rfl, rfl⟩ ⟨by decide, by decide⟩ (m_X0_pass hga.1 (Ec.rf Mg) hga.2.1 ⟨by omega, by omega⟩ (by omega)) (fun M2 hM2 => ?_)
        obtain ⟨d1, d2, d3, d4⟩ := gp_all hv hMg hM2 (by omega)
        refine a_iloadn dX10_ahead_50 rfl ?_
        rcases (show w = 0 ∨ w = 1 ∨ w = 2 ∨ (w < 0 ∨ 2 < w) by omega) with e51 | e51 | e51 | e51
        · refine c_tabIn (tgt := 76) (off := 25) e51 dX10_ahead_51 ⟨by decide, by decide⟩ (by decide) (by decide) rfl (by decide) ?_
          refine a_aloadn dX10_ahead_76 rfl ?_
          refine a_getR (j' := 8) (y := 67) dX10_ahead_77 flX10_55 rfl rfl (L2 L) (p2_8 hP) ?_
          refine a_callV (as := []) (q := 67) dX10_ahead_80 mvX10_198 ⟨by decide, by decide⟩ (L67 L) rfl rfl rfl (Nat.le_of_ble_eq_true rfl) ⟨rfl, rfl⟩ ⟨by decide, by decide⟩ (m_X5_pairs sg) ?_
          refine a_aloadn dX10_ahead_83 rfl ?_
          refine a_getR (j' := 7) (y := 61) dX10_ahead_84 flX10_51 rfl rfl (L2 L) (p2_7 hP) ?_
          refine a_callV (as := []) (q := 61) dX10_ahead_87 mvX10_198 ⟨by decide, by decide⟩ (L61 L) rfl rfl rfl (Nat.le_of_ble_eq_true rfl) ⟨rfl, rfl⟩ ⟨by decide, by decide⟩ (m_X5_pairs sn) ?_
          refine a_isub dX10_ahead_90 ?_
          exact a_ireturn dX10_ahead_91 rfl rfl rfl (zany_i ⟨d3, Or.inr ⟨by omega, Mg, hMg, by unfold ahv pairsC; rw [if_pos (by omega), hM2.row (k := 67 + 3) (by decide) (by decide) (by decide), d3.1 (61 + 3) (by omega)]⟩⟩)
        · refine c_tabIn (tgt := 92) (off := 41) e51 dX10_ahead_51 ⟨by decide, by decide⟩ (by decide) (by decide) rfl (by decide) ?_
          refine a_aloadn dX10_ahead_92 rfl ?_
          refine a_getR (j' := 8) (y := 67) dX10_ahead_93 flX10_55 rfl rfl (L2 L) (p2_8 hP) ?_
          refine a_callV (as := []) (q := 67) dX10_ahead_96 mvX10_202 ⟨by decide, by decide⟩ (L67 L) rfl rfl rfl (Nat.le_of_ble_eq_true rfl) ⟨rfl, rfl⟩ ⟨by decide, by decide⟩ (m_X5_heardInAll sg) ?_
          refine a_aloadn dX10_ahead_99 rfl ?_
          refine a_getR (j' := 7) (y := 61) dX10_ahead_100 flX10_51 rfl rfl (L2 L) (p2_7 hP) ?_
          refine a_callV (as := []) (q := 61) dX10_ahead_103 mvX10_202 ⟨by decide, by decide⟩ (L61 L) rfl rfl rfl (Nat.le_of_ble_eq_true rfl) ⟨rfl, rfl⟩ ⟨by decide, by decide⟩ (m_X5_heardInAll sn) ?_
          refine a_isub dX10_ahead_106 ?_
          exact a_ireturn dX10_ahead_107 rfl rfl rfl (zany_i ⟨d3, Or.inr ⟨by omega, Mg, hMg, by unfold ahv heardC; rw [if_neg (by omega), if_pos (by omega), hM2.row (k := 67 + 5) (by decide) (by decide) (by decide), d3.1 (61 + 5) (by omega)]⟩⟩)
        · refine c_tabIn (tgt := 108) (off := 57) e51 dX10_ahead_51 ⟨by decide, by decide⟩ (by decide) (by decide) rfl (by decide) ?_
          refine a_aloadn dX10_ahead_108 rfl ?_
          refine a_getR (j' := 8) (y := 67) dX10_ahead_109 flX10_55 rfl rfl (L2 L) (p2_8 hP) ?_
          refine a_getR (j' := 0) (y := 68) dX10_ahead_112 flX10_132 rfl rfl (L67 L) (p67_0 hP) ?_
          refine a_iloadn dX10_ahead_115 rfl ?_
          refine b_iald (N := 6) dX10_ahead_116 (L68 L) (by decide) (by omega) (by omega) (fun hr116 => ?_)
          exact a_ireturn dX10_ahead_117 rfl rfl rfl (zany_i ⟨d3, Or.inr ⟨by omega, Mg, hMg, by unfold ahv; rw [if_neg (by omega), if_neg (by omega), if_pos (by omega), hM2.row (k := 68) (by decide) (by decide) (by decide)]⟩⟩)
        · refine c_tabOut (tgt := 118) e51 dX10_ahead_51 ⟨by omega, by omega⟩ (by decide) ?_
          refine a_aloadn dX10_ahead_118 rfl ?_
          refine a_getR (j' := 8) (y := 67) dX10_ahead_119 flX10_55 rfl rfl (L2 L) (p2_8 hP) ?_
          refine a_getR (j' := 1) (y := 69) dX10_ahead_122 flX10_135 rfl rfl (L67 L) (p67_1 hP) ?_
          refine a_iloadn dX10_ahead_125 rfl ?_
          refine b_iald (N := 6) dX10_ahead_126 (L69 L) (by decide) (by omega) (by omega) (fun hr126 => ?_)
          exact a_ireturn dX10_ahead_127 rfl rfl rfl (zany_i ⟨d3, Or.inr ⟨by omega, Mg, hMg, by unfold ahv; rw [if_neg (by omega), if_neg (by omega), if_neg (by omega), hM2.row (k := 69) (by decide) (by decide) (by decide)]⟩⟩)
      · refine a_aloadn dX10_ahead_24 rfl ?_
        refine a_iloadn dX10_ahead_25 rfl ?_
        refine a_oneV (as := [_]) (q := 2) dX10_ahead_26 mvX10_121 ⟨by decide, by decide⟩ (L2 L) rfl rfl rfl (Nat.le_of_ble_eq_true rfl) ⟨rfl, rfl⟩ ⟨by decide, by decide⟩ (m_X10_isHouse hv (h := h) rh) (fun x26 hx26 => ?_)
        refine a_if_ne (tgt := 34) dX10_ahead_29 (by decide) ⟨by omega, by omega⟩ (fun hb29 => ?_) (fun hb29 => ?_)
        · refine a_aloadn dX10_ahead_34 rfl ?_
          refine a_relVv (as := []) (q := 2) dX10_ahead_35 mvX10_238 ⟨by decide, by decide⟩ (L2 L) rfl rfl rfl (Nat.le_of_ble_eq_true rfl) ⟨rfl, rfl⟩ ⟨by decide, by decide⟩ (m_X10_guessAsItGoes hv) (fun Mg hMg => ?_)
          have hga := hMg.all hv
          refine a_aloadn dX10_ahead_38 rfl ?_
          refine a_getR (j' := 5) (y := 50) dX10_ahead_39 flX10_35 rfl rfl (L2 L) (p2_5 hP) ?_
          refine a_aloadn dX10_ahead_42 rfl ?_
          refine a_getR (j' := 8) (y := 67) dX10_ahead_43 flX10_55 rfl rfl (L2 L) (p2_8 hP) ?_
          refine a_iloadn dX10_ahead_46 rfl ?_
          refine a_relVv (as := [_, _]) (q := 50) dX10_ahead_47 mvX10_227 ⟨by decide, by decide⟩ (L50 L) rfl rfl rfl (Nat.le_of_ble_eq_true rfl) ⟨rfl, rfl⟩ ⟨by decide, by decide⟩ (m_X0_pass hga.1 (Ec.rf Mg) hga.2.1 ⟨by omega, by omega⟩ (by omega)) (fun M2 hM2 => ?_)
          obtain ⟨d1, d2, d3, d4⟩ := gp_all hv hMg hM2 (by omega)
          refine a_iloadn dX10_ahead_50 rfl ?_
          rcases (show w = 0 ∨ w = 1 ∨ w = 2 ∨ (w < 0 ∨ 2 < w) by omega) with e51 | e51 | e51 | e51
          · refine c_tabIn (tgt := 76) (off := 25) e51 dX10_ahead_51 ⟨by decide, by decide⟩ (by decide) (by decide) rfl (by decide) ?_
            refine a_aloadn dX10_ahead_76 rfl ?_
            refine a_getR (j' := 8) (y := 67) dX10_ahead_77 flX10_55 rfl rfl (L2 L) (p2_8 hP) ?_
            refine a_callV (as := []) (q := 67) dX10_ahead_80 mvX10_198 ⟨by decide, by decide⟩ (L67 L) rfl rfl rfl (Nat.le_of_ble_eq_true rfl) ⟨rfl, rfl⟩ ⟨by decide, by decide⟩ (m_X5_pairs sg) ?_
            refine a_aloadn dX10_ahead_83 rfl ?_
            refine a_getR (j' := 7) (y := 61) dX10_ahead_84 flX10_51 rfl rfl (L2 L) (p2_7 hP) ?_
            refine a_callV (as := []) (q := 61) dX10_ahead_87 mvX10_198 ⟨by decide, by decide⟩ (L61 L) rfl rfl rfl (Nat.le_of_ble_eq_true rfl) ⟨rfl, rfl⟩ ⟨by decide, by decide⟩ (m_X5_pairs sn) ?_
            refine a_isub dX10_ahead_90 ?_
            exact a_ireturn dX10_ahead_91 rfl rfl rfl (zany_i ⟨d3, Or.inr ⟨by omega, Mg, hMg, by unfold ahv pairsC; rw [if_pos (by omega), hM2.row (k := 67 + 3) (by decide) (by decide) (by decide), d3.1 (61 + 3) (by omega)]⟩⟩)
          · refine c_tabIn (tgt := 92) (off := 41) e51 dX10_ahead_51 ⟨by decide, by decide⟩ (by decide) (by decide) rfl (by decide) ?_
            refine a_aloadn dX10_ahead_92 rfl ?_
            refine a_getR (j' := 8) (y := 67) dX10_ahead_93 flX10_55 rfl rfl (L2 L) (p2_8 hP) ?_
            refine a_callV (as := []) (q := 67) dX10_ahead_96 mvX10_202 ⟨by decide, by decide⟩ (L67 L) rfl rfl rfl (Nat.le_of_ble_eq_true rfl) ⟨rfl, rfl⟩ ⟨by decide, by decide⟩ (m_X5_heardInAll sg) ?_
            refine a_aloadn dX10_ahead_99 rfl ?_
            refine a_getR (j' := 7) (y := 61) dX10_ahead_100 flX10_51 rfl rfl (L2 L) (p2_7 hP) ?_
            refine a_callV (as := []) (q := 61) dX10_ahead_103 mvX10_202 ⟨by decide, by decide⟩ (L61 L) rfl rfl rfl (Nat.le_of_ble_eq_true rfl) ⟨rfl, rfl⟩ ⟨by decide, by decide⟩ (m_X5_heardInAll sn) ?_
            refine a_isub dX10_ahead_106 ?_
            exact a_ireturn dX10_ahead_107 rfl rfl rfl (zany_i ⟨d3, Or.inr ⟨by omega, Mg, hMg, by unfold ahv heardC; rw [if_neg (by omega), if_pos (by omega), hM2.row (k := 67 + 5) (by decide) (by decide) (by decide), d3.1 (61 + 5) (by omega)]⟩⟩)
          · refine c_tabIn (tgt := 108) (off := 57) e51 dX10_ahead_51 ⟨by decide, by decide⟩ (by decide) (by decide) rfl (by decide) ?_
            refine a_aloadn dX10_ahead_108 rfl ?_
            refine a_getR (j' := 8) (y := 67) dX10_ahead_109 flX10_55 rfl rfl (L2 L) (p2_8 hP) ?_
            refine a_getR (j' := 0) (y := 68) dX10_ahead_112 flX10_132 rfl rfl (L67 L) (p67_0 hP) ?_
            refine a_iloadn dX10_ahead_115 rfl ?_
            refine b_iald (N := 6) dX10_ahead_116 (L68 L) (by decide) (by omega) (by omega) (fun hr116 => ?_)
            exact a_ireturn dX10_ahead_117 rfl rfl rfl (zany_i ⟨d3, Or.inr ⟨by omega, Mg, hMg, by unfold ahv; rw [if_neg (by omega), if_neg (by omega), if_pos (by omega), hM2.row (k := 68) (by decide) (by decide) (by decide)]⟩⟩)
          · refine c_tabOut (tgt := 118) e51 dX10_ahead_51 ⟨by omega, by omega⟩ (by decide) ?_
            refine a_aloadn dX10_ahead_118 rfl ?_
            refine a_getR (j' := 8) (y := 67) dX10_ahead_119 flX10_55 rfl rfl (L2 L) (p2_8 hP) ?_
            refine a_getR (j' := 1) (y := 69) dX10_ahead_122 flX10_135 rfl rfl (L67 L) (p67_1 hP) ?_
            refine a_iloadn dX10_ahead_125 rfl ?_
            refine b_iald (N := 6) dX10_ahead_126 (L69 L) (by decide) (by omega) (by omega) (fun hr126 => ?_)
            exact a_ireturn dX10_ahead_127 rfl rfl rfl (zany_i ⟨d3, Or.inr ⟨by omega, Mg, hMg, by unfold ahv; rw [if_neg (by omega), if_neg (by omega), if_neg (by omega), hM2.row (k := 69) (by decide) (by decide) (by decide)]⟩⟩)
        · refine a_iconst dX10_ahead_32 ?_
          exact a_ireturn dX10_ahead_33 rfl rfl rfl (zany_i ⟨Cn.rf hv, Or.inl ⟨by omega, rfl⟩⟩)

set_option maxRecDepth 100000 in
set_option maxHeartbeats 4000000 in
theorem lpX10_first {G : zG} {l : Launch} {L : Nat} {P : zP} {M0 : zM} {t : Nat} {w : Int} (hv : CV L P M0 t) (hw : 0 ≤ w ∧ w ≤ 1) : ∀ (n : Nat) (k tw : Int) (M Mp : zM) (g0 : 0 ≤ k) (g1 : k + n = 99) (hE : Ec Mp M) (hI : CI Mp t 67) (hh : Mp 67 5 + n ≤ 9999) (hq : Cn t M0 M) (htw : tw = ftC Mp t) (e2 : Mp t 2 = M0 t 2), AW G l mdX10_first (zany (LAY L) P (fun r M' => Cn t M0 M' ∧ r = fsR w (fsF t n k Mp))) 32 [some (aR 2), some (aI w), some (aI tw), some (aI k)] [] (LAY L) P M 0 0 := by
  intro n
  induction n with
  | zero =>
    intro k tw M Mp g0 g1 hE hI hh hq htw e2
    obtain ⟨hc, hi, hxt, hnr, hhr⟩ := id hv
    obtain ⟨hP, hTp, hT, ht, hS, ha⟩ := id hc
    have q1 := hi.1.1
    have sg := st_guess L hP
    have sn := st_now L hP
    have qt := z2out_in (Mp (67 + 3)) (N := Mp t 2) hI.1.1.2 (Mp t 2).toNat 0 (by omega) (by have := hI.1.1; omega)
    have qt2 : -1 ≤ tw ∧ tw ≤ 55 := by rw [htw]; exact qt
    refine a_iloadn dX10_first_32 rfl ?_
    refine a_iconst dX10_first_33 ?_
    refine a_icmp_ne (tgt := 76) dX10_first_34 (by decide) ⟨by omega, by omega⟩ ⟨by omega, by omega⟩ (fun hb34 => ?_) (fun hb34 => ?_)
    · refine a_iloadn dX10_first_76 rfl ?_
      refine a_iconst dX10_first_77 ?_
      refine a_icmp_ne (tgt := 84) dX10_first_78 (by decide) ⟨by omega, by omega⟩ ⟨by omega, by omega⟩ (fun hb78 => ?_) (fun hb78 => ?_)
      · refine a_iloadn dX10_first_84 rfl ?_
        refine a_if_ne (tgt := 92) dX10_first_85 (by decide) ⟨by omega, by omega⟩ (fun hb85 => ?_) (fun hb85 => ?_)
        · refine a_iloadn dX10_first_92 rfl ?_
          exact a_ireturn dX10_first_93 rfl rfl rfl (zany_i ⟨hq, by
      first
      | (show _ = fsR w (k, ftC Mp t); rw [← htw]; unfold fsR; first | (rw [if_pos (by omega)]; done) | (rw [if_neg (by omega), if_pos (by omega)]; done) | (rw [if_neg (by omega), if_neg (by omega)]; done))
      | (simp only [fsF]; rw [if_neg (by omega), ← htw]; unfold fsR; first | (rw [if_pos (by omega)]; done) | (rw [if_neg (by omega), if_pos (by omega)]; done) | (rw [if_neg (by omega), if_neg (by omega)]; done))⟩)
        · refine a_iloadn dX10_first_88 rfl ?_
          refine a_goto (tgt := 93) dX10_first_89 (by decide) ?_
          exact a_ireturn dX10_first_93 rfl rfl rfl (zany_i ⟨hq, by
      first
      | (show _ = fsR w (k, ftC Mp t); rw [← htw]; unfold fsR; first | (rw [if_pos (by omega)]; done) | (rw [if_neg (by omega), if_pos (by omega)]; done) | (rw [if_neg (by omega), if_neg (by omega)]; done))
      | (simp only [fsF]; rw [if_neg (by omega), ← htw]; unfold fsR; first | (rw [if_pos (by omega)]; done) | (rw [if_neg (by omega), if_pos (by omega)]; done) | (rw [if_neg (by omega), if_neg (by omega)]; done))⟩)
      · refine a_bipush (w := (-2)) dX10_first_81 (by decide) ?_
        exact a_ireturn dX10_first_83 rfl rfl rfl (zany_i ⟨hq, by
      first
      | (show _ = fsR w (k, ftC Mp t); rw [← htw]; unfold fsR; first | (rw [if_pos (by omega)]; done) | (rw [if_neg (by omega), if_pos (by omega)]; done) | (rw [if_neg (by omega), if_neg (by omega)]; done))
      | (simp only [fsF]; rw [if_neg (by omega), ← htw]; unfold fsR; first | (rw [if_pos (by omega)]; done) | (rw [if_neg (by omega), if_pos (by omega)]; done) | (rw [if_neg (by omega), if_neg (by omega)]; done))⟩)
    · refine a_iloadn dX10_first_37 rfl ?_
      refine a_bipush (w := 99) dX10_first_38 (by decide) ?_
      refine a_icmp_ge (tgt := 76) dX10_first_40 (by decide) ⟨by omega, by omega⟩ ⟨by omega, by omega⟩ (fun hb40 => ?_) (fun hb40 => ?_)
      · refine a_iloadn dX10_first_76 rfl ?_
        refine a_iconst dX10_first_77 ?_
        refine a_icmp_ne (tgt := 84) dX10_first_78 (by decide) ⟨by omega, by omega⟩ ⟨by omega, by omega⟩ (fun hb78 => ?_) (fun hb78 => ?_)
        · refine a_iloadn dX10_first_84 rfl ?_
          refine a_if_ne (tgt := 92) dX10_first_85 (by decide) ⟨by omega, by omega⟩ (fun hb85 => ?_) (fun hb85 => ?_)
          · refine a_iloadn dX10_first_92 rfl ?_
            exact a_ireturn dX10_first_93 rfl rfl rfl (zany_i ⟨hq, by
      first
      | (show _ = fsR w (k, ftC Mp t); rw [← htw]; unfold fsR; first | (rw [if_pos (by omega)]; done) | (rw [if_neg (by omega), if_pos (by omega)]; done) | (rw [if_neg (by omega), if_neg (by omega)]; done))
      | (simp only [fsF]; rw [if_neg (by omega), ← htw]; unfold fsR; first | (rw [if_pos (by omega)]; done) | (rw [if_neg (by omega), if_pos (by omega)]; done) | (rw [if_neg (by omega), if_neg (by omega)]; done))⟩)
          · refine a_iloadn dX10_first_88 rfl ?_
            refine a_goto (tgt := 93) dX10_first_89 (by decide) ?_
            exact a_ireturn dX10_first_93 rfl rfl rfl (zany_i ⟨hq, by
      first
      | (show _ = fsR w (k, ftC Mp t); rw [← htw]; unfold fsR; first | (rw [if_pos (by omega)]; done) | (rw [if_neg (by omega), if_pos (by omega)]; done) | (rw [if_neg (by omega), if_neg (by omega)]; done))
      | (simp only [fsF]; rw [if_neg (by omega), ← htw]; unfold fsR; first | (rw [if_pos (by omega)]; done) | (rw [if_neg (by omega), if_pos (by omega)]; done) | (rw [if_neg (by omega), if_neg (by omega)]; done))⟩)
        · refine a_bipush (w := (-2)) dX10_first_81 (by decide) ?_
          exact a_ireturn dX10_first_83 rfl rfl rfl (zany_i ⟨hq, by
      first
      | (show _ = fsR w (k, ftC Mp t); rw [← htw]; unfold fsR; first | (rw [if_pos (by omega)]; done) | (rw [if_neg (by omega), if_pos (by omega)]; done) | (rw [if_neg (by omega), if_neg (by omega)]; done))
      | (simp only [fsF]; rw [if_neg (by omega), ← htw]; unfold fsR; first | (rw [if_pos (by omega)]; done) | (rw [if_neg (by omega), if_pos (by omega)]; done) | (rw [if_neg (by omega), if_neg (by omega)]; done))⟩)
      · exfalso; omega
  | succ n ih =>
    intro k tw M Mp g0 g1 hE hI hh hq htw e2
    obtain ⟨hc, hi, hxt, hnr, hhr⟩ := id hv
    obtain ⟨hP, hTp, hT, ht, hS, ha⟩ := id hc
    have q1 := hi.1.1
    have sg := st_guess L hP
    have sn := st_now L hP
    have qt := z2out_in (Mp (67 + 3)) (N := Mp t 2) hI.1.1.2 (Mp t 2).toNat 0 (by omega) (by have := hI.1.1; omega)
    have qt2 : -1 ≤ tw ∧ tw ≤ 55 := by rw [htw]; exact qt
    refine a_iloadn dX10_first_32 rfl ?_
    refine a_iconst dX10_first_33 ?_
    refine a_icmp_ne (tgt := 76) dX10_first_34 (by decide) ⟨by omega, by omega⟩ ⟨by omega, by omega⟩ (fun hb34 => ?_) (fun hb34 => ?_)
    · refine a_iloadn dX10_first_76 rfl ?_
      refine a_iconst dX10_first_77 ?_
      refine a_icmp_ne (tgt := 84) dX10_first_78 (by decide) ⟨by omega, by omega⟩ ⟨by omega, by omega⟩ (fun hb78 => ?_) (fun hb78 => ?_)
      · refine a_iloadn dX10_first_84 rfl ?_
        refine a_if_ne (tgt := 92) dX10_first_85 (by decide) ⟨by omega, by omega⟩ (fun hb85 => ?_) (fun hb85 => ?_)
        · refine a_iloadn dX10_first_92 rfl ?_
          exact a_ireturn dX10_first_93 rfl rfl rfl (zany_i ⟨hq, by
      first
      | (show _ = fsR w (k, ftC Mp t); rw [← htw]; unfold fsR; first | (rw [if_pos (by omega)]; done) | (rw [if_neg (by omega), if_pos (by omega)]; done) | (rw [if_neg (by omega), if_neg (by omega)]; done))
      | (simp only [fsF]; rw [if_neg (by omega), ← htw]; unfold fsR; first | (rw [if_pos (by omega)]; done) | (rw [if_neg (by omega), if_pos (by omega)]; done) | (rw [if_neg (by omega), if_neg (by omega)]; done))⟩)
        · refine a_iloadn dX10_first_88 rfl ?_
          refine a_goto (tgt := 93) dX10_first_89 (by decide) ?_
          exact a_ireturn dX10_first_93 rfl rfl rfl (zany_i ⟨hq, by
      first
      | (show _ = fsR w (k, ftC Mp t); rw [← htw]; unfold fsR; first | (rw [if_pos (by omega)]; done) | (rw [if_neg (by omega), if_pos (by omega)]; done) | (rw [if_neg (by omega), if_neg (by omega)]; done))
      | (simp only [fsF]; rw [if_neg (by omega), ← htw]; unfold fsR; first | (rw [if_pos (by omega)]; done) | (rw [if_neg (by omega), if_pos (by omega)]; done) | (rw [if_neg (by omega), if_neg (by omega)]; done))⟩)
      · refine a_bipush (w := (-2)) dX10_first_81 (by decide) ?_
        exact a_ireturn dX10_first_83 rfl rfl rfl (zany_i ⟨hq, by
      first
      | (show _ = fsR w (k, ftC Mp t); rw [← htw]; unfold fsR; first | (rw [if_pos (by omega)]; done) | (rw [if_neg (by omega), if_pos (by omega)]; done) | (rw [if_neg (by omega), if_neg (by omega)]; done))
      | (simp only [fsF]; rw [if_neg (by omega), ← htw]; unfold fsR; first | (rw [if_pos (by omega)]; done) | (rw [if_neg (by omega), if_pos (by omega)]; done) | (rw [if_neg (by omega), if_neg (by omega)]; done))⟩)
    · refine a_iloadn dX10_first_37 rfl ?_
      refine a_bipush (w := 99) dX10_first_38 (by decide) ?_
      refine a_icmp_ge (tgt := 76) dX10_first_40 (by decide) ⟨by omega, by omega⟩ ⟨by omega, by omega⟩ (fun hb40 => ?_) (fun hb40 => ?_)
      · exfalso; omega
      · refine a_aloadn dX10_first_43 rfl ?_
        refine a_getR (j' := 5) (y := 50) dX10_first_44 flX10_35 rfl rfl (L2 L) (p2_5 hP) ?_
        refine a_aloadn dX10_first_47 rfl ?_
        refine a_getR (j' := 8) (y := 67) dX10_first_48 flX10_55 rfl rfl (L2 L) (p2_8 hP) ?_
        refine a_iconst dX10_first_51 ?_
        refine a_relVv (as := [_, _]) (q := 50) dX10_first_52 mvX10_227 ⟨by decide, by decide⟩ (L50 L) rfl rfl rfl (Nat.le_of_ble_eq_true rfl) ⟨rfl, rfl⟩ ⟨by decide, by decide⟩ (m_X0_pass hc.sw hE hI ⟨by omega, by omega⟩ (by omega)) (fun M1 hM1 => ?_)
        have hM1 : Ec (hourM t 67 Mp) M1 := hM1
        have hq2 : Cn t M0 M1 := ⟨hq.1.tr (fun q hq9 => by rw [hM1.row (by omega) (by omega) (by omega), hourM_Fa t 67 Mp q (by omega), hE.row (by omega) (by omega) (by omega)]), by rw [hM1 50 1 (by decide) (by decide) (by omega), hourM_Fa t 67 Mp 50 (by omega), ← hE 50 1 (by decide) (by decide) (by omega)]; exact hq.2⟩
        refine c_iinc (ls' := [_, _, _, _]) dX10_first_55 rfl (by decide) rfl rfl ?_
        refine a_aloadn dX10_first_58 rfl ?_
        refine a_getR (j' := 8) (y := 67) dX10_first_59 flX10_55 rfl rfl (L2 L) (p2_8 hP) ?_
        refine a_aloadn dX10_first_62 rfl ?_
        refine a_getR (j' := 2) (y := t) dX10_first_63 flX10_16 rfl rfl (L2 L) hxt ?_
        refine b_getI (j' := 2) dX10_first_66 flX10_118 rfl rfl hT.1.2.1 (fun hr66 => ?_)
        have e66 : M1 t 2 = M0 t 2 := by rw [hq2.1 t (by omega)]
        rw [e66] at hr66
        rw [e66]
        refine a_callV (as := [_]) (q := 67) dX10_first_69 mvX10_241 ⟨by decide, by decide⟩ (L67 L) rfl rfl rfl (Nat.le_of_ble_eq_true rfl) ⟨rfl, rfl⟩ ⟨by decide, by decide⟩ (m_X5_firstTwo sg (by omega)) ?_
        refine c_istoren (ls' := [_, _, _, _]) dX10_first_72 (by decide) rfl rfl ?_
        refine a_goto (tgt := 32) dX10_first_73 (by decide) ?_
        simp only [fsF]
        rw [if_pos (by omega)]
        have hI2 := hourM_I (t := t) (a := 67) (by omega) (by omega) hI (by omega)
        have e3 : M1 (67 + 3) = hourM t 67 Mp (67 + 3) := hM1.row (by decide) (by decide) (by decide)
        refine ih _ _ _ (hourM t 67 Mp) (by omega) (by omega) hM1 hI2 (by rw [hourM_h]; omega) hq2 ?_ (by rw [hourM_Fa t 67 Mp t (by omega)]; exact e2)
        unfold ftC
        rw [e3, hourM_Fa t 67 Mp t (by omega), e2]

set_option maxRecDepth 100000 in
set_option maxHeartbeats 4000000 in
theorem m_X10_first {G : zG} {l : Launch} {L : Nat} {P : zP} {M : zM} {t : Nat} {w : Int} (hv : CV L P M t) (rw : inR w) : AM G l yX10_first mdX10_first [aR 2, aI w] (LAY L) P M (zany (LAY L) P (fun r M' => Cn t M M' ∧ ((¬ (0 ≤ w ∧ w ≤ 1)) ∧ r = -1 ∨ ¬ (¬ (0 ≤ w ∧ w ≤ 1)) ∧ ∃ Mg, GsR t M Mg ∧ r = fsR w (fsF t 99 0 Mg)))) := by
  obtain ⟨hc, hi, hxt, hnr, hhr⟩ := id hv
  obtain ⟨hP, hTp, hT, ht, hS, ha⟩ := id hc
  have q1 := hi.1.1
  have sg := st_guess L hP
  have sn := st_now L hP
  refine AM.go [some (aR 2), some (aI w), none, none] rfl (Nat.le_of_ble_eq_true rfl) ?_ (by decide) rfl rfl
  refine a_iloadn dX10_first_0 rfl ?_
  refine a_iconst dX10_first_1 ?_
  refine a_iconst dX10_first_2 ?_
  refine a_oneS (as := [_, _, _]) dX10_first_3 mvX10_167 ⟨by decide, by decide⟩ rfl rfl (Nat.le_of_ble_eq_true rfl) ⟨rfl, rfl⟩ ⟨by decide, by decide⟩ (m_X10_isWithin ⟨by omega, by omega⟩ ⟨by omega, by omega⟩ ⟨by omega, by omega⟩) (fun x3 hx3 => ?_)
  refine a_if_ne (tgt := 11) dX10_first_6 (by decide) ⟨by omega, by omega⟩ (fun hb6 => ?_) (fun hb6 => ?_)
  · refine a_aloadn dX10_first_11 rfl ?_
    refine a_relVv (as := []) (q := 2) dX10_first_12 mvX10_238 ⟨by decide, by decide⟩ (L2 L) rfl rfl rfl (Nat.le_of_ble_eq_true rfl) ⟨rfl, rfl⟩ ⟨by decide, by decide⟩ (m_X10_guessAsItGoes hv) (fun Mg hMg => ?_)
    have hga := hMg.all hv
    refine a_aloadn dX10_first_15 rfl ?_
    refine a_getR (j' := 8) (y := 67) dX10_first_16 flX10_55 rfl rfl (L2 L) (p2_8 hP) ?_
    refine a_aloadn dX10_first_19 rfl ?_
    refine a_getR (j' := 2) (y := t) dX10_first_20 flX10_16 rfl rfl (L2 L) hxt ?_
    refine b_getI (j' := 2) dX10_first_23 flX10_118 rfl rfl hT.1.2.1 (fun hr23 => ?_)
    have e23 : Mg t 2 = M t 2 := by rw [hga.2.2.1.1 t (by omega)]
    rw [e23] at hr23
    rw [e23]
    refine a_callV (as := [_]) (q := 67) dX10_first_26 mvX10_241 ⟨by decide, by decide⟩ (L67 L) rfl rfl rfl (Nat.le_of_ble_eq_true rfl) ⟨rfl, rfl⟩ ⟨by decide, by decide⟩ (m_X5_firstTwo sg (by omega)) ?_
    refine c_istoren (ls' := [_, _, _, _]) dX10_first_29 (by decide) rfl rfl ?_
    refine a_iconst dX10_first_30 ?_
    refine c_istoren (ls' := [_, _, _, _]) dX10_first_31 (by decide) rfl rfl ?_
    refine AW.mono2 (lpX10_first hv (w := w) (by omega) 99 0 _ Mg Mg (by omega) (by omega) (Ec.rf Mg) hga.2.1 (by omega) hga.2.2.1 (by unfold ftC; rw [e23]) e23) ?_
    rintro r lay P' M' ⟨h1, h2, x, h3, h4, h5⟩
    exact ⟨h1, h2, x, h3, h4, Or.inr ⟨by omega, Mg, hMg, h5⟩⟩
  · refine a_iconst dX10_first_9 ?_
    exact a_ireturn dX10_first_10 rfl rfl rfl (zany_i ⟨Cn.rf hv, Or.inl ⟨by omega, rfl⟩⟩)

set_option maxRecDepth 100000 in
set_option maxHeartbeats 4000000 in
theorem lpX10_nextHeard {G : zG} {l : Launch} {L : Nat} {P : zP} {M0 : zM} {t : Nat} {h o : Int} (hv : CV L P M0 t) (hw : two (M0 t 2) h o) : ∀ (n : Nat) (k : Int) (M Mp : zM) (g0 : 1 ≤ k) (g1 : k + n = 100) (hE : Ec Mp M) (hI : CI Mp t 67) (hh : Mp 67 5 + n ≤ 9999) (hq : Cn t M0 M), AW G l mdX10_nextHeard (zany (LAY L) P (fun r M' => Cn t M0 M' ∧ r = nhF t (M0 (61 + 5) (h * 6 + o)) (h * 6 + o) n k Mp)) 17 [some (aR 2), some (aI h), some (aI o), some (aI k)] [] (LAY L) P M 0 0 := by
  intro n
  induction n with
  | zero =>
    intro k M Mp g0 g1 hE hI hh hq
    obtain ⟨hc, hi, hxt, hnr, hhr⟩ := id hv
    obtain ⟨hP, hTp, hT, ht, hS, ha⟩ := id hc
    have q1 := hi.1.1
    have sg := st_guess L hP
    have sn := st_now L hP
    unfold two at hw
    refine a_iloadn dX10_nextHeard_17 rfl ?_
    refine a_bipush (w := 99) dX10_nextHeard_18 (by decide) ?_
    refine a_icmp_gt (tgt := 64) dX10_nextHeard_20 (by decide) ⟨by omega, by omega⟩ ⟨by omega, by omega⟩ (fun hb20 => ?_) (fun hb20 => ?_)
    · refine a_bipush (w := (-2)) dX10_nextHeard_64 (by decide) ?_
      exact a_ireturn dX10_nextHeard_66 rfl rfl rfl (zany_i ⟨hq, rfl⟩)
    · exfalso; omega
  | succ n ih =>
    intro k M Mp g0 g1 hE hI hh hq
    obtain ⟨hc, hi, hxt, hnr, hhr⟩ := id hv
    obtain ⟨hP, hTp, hT, ht, hS, ha⟩ := id hc
    have q1 := hi.1.1
    have sg := st_guess L hP
    have sn := st_now L hP
    unfold two at hw
    refine a_iloadn dX10_nextHeard_17 rfl ?_
    refine a_bipush (w := 99) dX10_nextHeard_18 (by decide) ?_
    refine a_icmp_gt (tgt := 64) dX10_nextHeard_20 (by decide) ⟨by omega, by omega⟩ ⟨by omega, by omega⟩ (fun hb20 => ?_) (fun hb20 => ?_)
    · exfalso; omega
    · refine a_aloadn dX10_nextHeard_23 rfl ?_
      refine a_getR (j' := 5) (y := 50) dX10_nextHeard_24 flX10_35 rfl rfl (L2 L) (p2_5 hP) ?_
      refine a_aloadn dX10_nextHeard_27 rfl ?_
      refine a_getR (j' := 8) (y := 67) dX10_nextHeard_28 flX10_55 rfl rfl (L2 L) (p2_8 hP) ?_
      refine a_iconst dX10_nextHeard_31 ?_
      refine a_relVv (as := [_, _]) (q := 50) dX10_nextHeard_32 mvX10_227 ⟨by decide, by decide⟩ (L50 L) rfl rfl rfl (Nat.le_of_ble_eq_true rfl) ⟨rfl, rfl⟩ ⟨by decide, by decide⟩ (m_X0_pass hc.sw hE hI ⟨by omega, by omega⟩ (by omega)) (fun M1 hM1 => ?_)
      have hM1 : Ec (hourM t 67 Mp) M1 := hM1
      have hI2 := hourM_I (t := t) (a := 67) (by omega) (by omega) hI (by omega)
      have hq2 : Cn t M0 M1 := ⟨hq.1.tr (fun q hq9 => by rw [hM1.row (by omega) (by omega) (by omega), hourM_Fa t 67 Mp q (by omega), hE.row (by omega) (by omega) (by omega)]), by rw [hM1 50 1 (by decide) (by decide) (by omega), hourM_Fa t 67 Mp 50 (by omega), ← hE 50 1 (by decide) (by decide) (by omega)]; exact hq.2⟩
      refine a_aloadn dX10_nextHeard_35 rfl ?_
      refine a_getR (j' := 8) (y := 67) dX10_nextHeard_36 flX10_55 rfl rfl (L2 L) (p2_8 hP) ?_
      refine a_iloadn dX10_nextHeard_39 rfl ?_
      refine a_iloadn dX10_nextHeard_40 rfl ?_
      refine a_callV (as := [_, _]) (q := 67) dX10_nextHeard_41 mvX10_163 ⟨by decide, by decide⟩ (L67 L) rfl rfl rfl (Nat.le_of_ble_eq_true rfl) ⟨rfl, rfl⟩ ⟨by decide, by decide⟩ (m_X5_timesHeard sg (by omega) (by omega) (by omega) (by omega)) ?_
      refine a_aloadn dX10_nextHeard_44 rfl ?_
      refine a_getR (j' := 7) (y := 61) dX10_nextHeard_45 flX10_51 rfl rfl (L2 L) (p2_7 hP) ?_
      refine a_iloadn dX10_nextHeard_48 rfl ?_
      refine a_iloadn dX10_nextHeard_49 rfl ?_
      refine a_callV (as := [_, _]) (q := 61) dX10_nextHeard_50 mvX10_163 ⟨by decide, by decide⟩ (L61 L) rfl rfl rfl (Nat.le_of_ble_eq_true rfl) ⟨rfl, rfl⟩ ⟨by decide, by decide⟩ (m_X5_timesHeard sn (by omega) (by omega) (by omega) (by omega)) ?_
      have e5 : M1 (67 + 5) (h * 6 + o) = hourM t 67 Mp (67 + 5) (h * 6 + o) := by rw [hM1.row (k := 67 + 5) (by decide) (by decide) (by decide)]
      have e6 : M1 (61 + 5) (h * 6 + o) = M0 (61 + 5) (h * 6 + o) := by rw [hq2.1 (61 + 5) (by omega)]
      rw [e5, e6]
      have q7 := hI2.2.2.1.2.2.2.2.1 (h * 6 + o) (by omega) (by omega)
      have q8 := hi.2.2.1.2.2.2.2.1 (h * 6 + o) (by omega) (by omega)
      refine a_icmp_le (tgt := 58) dX10_nextHeard_53 (by decide) ⟨by omega, by omega⟩ ⟨by omega, by omega⟩ (fun hb53 => ?_) (fun hb53 => ?_)
      · refine c_iinc (ls' := [_, _, _, _]) dX10_nextHeard_58 rfl (by decide) rfl rfl ?_
        refine a_goto (tgt := 17) dX10_nextHeard_61 (by decide) ?_
        simp only [nhF]
        rw [if_neg (by omega)]
        exact ih _ _ (hourM t 67 Mp) (by omega) (by omega) hM1 hI2 (by rw [hourM_h]; omega) hq2
      · refine a_iloadn dX10_nextHeard_56 rfl ?_
        exact a_ireturn dX10_nextHeard_57 rfl rfl rfl (zany_i ⟨hq2, by simp only [nhF]; rw [if_pos (by omega)]⟩)

set_option maxRecDepth 100000 in
set_option maxHeartbeats 4000000 in
theorem m_X10_nextHeard {G : zG} {l : Launch} {L : Nat} {P : zP} {M : zM} {t : Nat} {h o : Int} (hv : CV L P M t) (rh : inR h) (ro : inR o) : AM G l yX10_nextHeard mdX10_nextHeard [aR 2, aI h, aI o] (LAY L) P M (zany (LAY L) P (fun r M' => Cn t M M' ∧ ((¬ two (M t 2) h o) ∧ r = -1 ∨ ¬ (¬ two (M t 2) h o) ∧ ∃ Mg, GsR t M Mg ∧ r = nhF t (M (61 + 5) (h * 6 + o)) (h * 6 + o) 99 1 Mg))) := by
  obtain ⟨hc, hi, hxt, hnr, hhr⟩ := id hv
  obtain ⟨hP, hTp, hT, ht, hS, ha⟩ := id hc
  have q1 := hi.1.1
  have sg := st_guess L hP
  have sn := st_now L hP
  refine AM.go [some (aR 2), some (aI h), some (aI o), none] rfl (Nat.le_of_ble_eq_true rfl) ?_ (by decide) rfl rfl
  refine a_aloadn dX10_nextHeard_0 rfl ?_
  refine a_iloadn dX10_nextHeard_1 rfl ?_
  refine a_iloadn dX10_nextHeard_2 rfl ?_
  refine a_oneV (as := [_, _]) (q := 2) dX10_nextHeard_3 mvX10_159 ⟨by decide, by decide⟩ (L2 L) rfl rfl rfl (Nat.le_of_ble_eq_true rfl) ⟨rfl, rfl⟩ ⟨by decide, by decide⟩ (m_X10_areTwo hv (h := h) (o := o) rh ro) (fun x3 hx3 => ?_)
  refine a_if_ne (tgt := 11) dX10_nextHeard_6 (by decide) ⟨by omega, by omega⟩ (fun hb6 => ?_) (fun hb6 => ?_)
  · refine a_aloadn dX10_nextHeard_11 rfl ?_
    refine a_relVv (as := []) (q := 2) dX10_nextHeard_12 mvX10_238 ⟨by decide, by decide⟩ (L2 L) rfl rfl rfl (Nat.le_of_ble_eq_true rfl) ⟨rfl, rfl⟩ ⟨by decide, by decide⟩ (m_X10_guessAsItGoes hv) (fun Mg hMg => ?_)
    have hga := hMg.all hv
    refine a_iconst dX10_nextHeard_15 ?_
    refine c_istoren (ls' := [_, _, _, _]) dX10_nextHeard_16 (by decide) rfl rfl ?_
    refine AW.mono2 (lpX10_nextHeard hv (h := h) (o := o) (by omega) 99 1 Mg Mg (by omega) (by omega) (Ec.rf Mg) hga.2.1 (by omega) hga.2.2.1) ?_
    rintro r lay P' M' ⟨h1, h2, x, h3, h4, h5⟩
    exact ⟨h1, h2, x, h3, h4, Or.inr ⟨by omega, Mg, hMg, h5⟩⟩
  · refine a_iconst dX10_nextHeard_9 ?_
    exact a_ireturn dX10_nextHeard_10 rfl rfl rfl (zany_i ⟨Cn.rf hv, Or.inl ⟨by omega, rfl⟩⟩)
