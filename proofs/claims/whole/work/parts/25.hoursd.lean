set_option maxRecDepth 100000 in
set_option maxHeartbeats 4000000 in
theorem lpX0_pass {G : zG} {l : Launch} {L : Nat} {P : zP} {t a : Nat} {nn : Int} (hc : CS L P t a) (hn : 0 ≤ nn ∧ nn ≤ 1000) : ∀ (n : Nat) (i : Int) (M Ma : zM) (g0 : 0 ≤ i) (g1 : i + n = nn) (hE : Ec Ma M) (hI2 : CI Ma t a) (hh : Ma a 5 + n ≤ 9999), AW G l mdX0_pass (zrel none (LAY L) P (fun M' => Ec (passM t a n Ma) M')) 2 [some (aR 50), some (aR a), some (aI nn), some (aI i)] [] (LAY L) P M 0 0 := by
  intro n
  induction n with
  | zero =>
    intro i M Ma g0 g1 hE hI2 hh
    obtain ⟨hP, hTp, hT, ht, hS, ha⟩ := id hc
    refine a_iloadn dX0_pass_2 rfl ?_
    refine a_iloadn dX0_pass_3 rfl ?_
    refine a_icmp_ge (tgt := 81) dX0_pass_4 (by decide) ⟨by omega, by omega⟩ ⟨by omega, by omega⟩ (fun hb4 => ?_) (fun hb4 => ?_)
    · exact a_return dX0_pass_81 rfl rfl rfl (zrel_V hE)
    · exfalso; omega
  | succ n ih =>
    intro i M Ma g0 g1 hE hI2 hh
    obtain ⟨hP, hTp, hT, ht, hS, ha⟩ := id hc
    refine a_iloadn dX0_pass_2 rfl ?_
    refine a_iloadn dX0_pass_3 rfl ?_
    refine a_icmp_ge (tgt := 81) dX0_pass_4 (by decide) ⟨by omega, by omega⟩ ⟨by omega, by omega⟩ (fun hb4 => ?_) (fun hb4 => ?_)
    · exfalso; omega
    · refine a_aloadn dX0_pass_7 rfl ?_
      refine b_getI (j' := 5) dX0_pass_8 flX0_48 rfl rfl hS.2.1 (fun hr8 => ?_)
      have e8 : M a 5 = Ma a 5 := hE _ _ (by omega) (by omega) (by omega)
      rw [e8] at hr8
      rw [e8]
      refine a_bipush (w := 99) dX0_pass_11 (by decide) ?_
      refine a_icmp_gt (tgt := 26) dX0_pass_13 (by decide) ⟨by omega, by omega⟩ ⟨by omega, by omega⟩ (fun hb13 => ?_) (fun hb13 => ?_)
      · first
        | (have hE1 : Ec (hourM1 t a Ma) M2 := by
             rw [hourM1_eq, if_pos (by omega)]
             exact e10 ▸ hM2
           generalize M2 = Mx at hE1 ⊢)
        | (have hE1 : Ec (hourM1 t a Ma) M := by
             rw [hourM1_eq, if_neg (by omega)]
             exact hE
           generalize M = Mx at hE1 ⊢)
        have hI3 := hourM1_I (by omega) (by omega) hI2
        refine a_aloadn dX0_pass_26 rfl ?_
        refine b_getZ (j' := 3) dX0_pass_27 flX0_32 rfl rfl (L50 L) (fun hr27 => ?_)
        have e27 : Mx 50 3 = Ma 50 3 := by rw [hE1 _ _ (by omega) (by omega) (by omega), hourM1_Fa t a Ma 50 (by omega)]
        rw [e27] at hr27
        rw [e27]
        refine a_if_eq (tgt := 53) dX0_pass_30 (by decide) (by rcases hr27 with z | z <;> exact ⟨by omega, by omega⟩) (fun hb30 => ?_) (fun hb30 => ?_)
        · have f1 : hourM1 t a Ma t 2 = Ma t 2 := by rw [hourM1_Fa t a Ma t (by omega)]
          first
          | (have hE2 : Ec (hourM2 t a Ma) M3 := by
               unfold hourM2
               rw [if_pos ⟨by omega, by omega⟩]
               exact f1 ▸ hM3
             generalize M3 = My at hE2 ⊢)
          | (have hE2 : Ec (hourM2 t a Ma) Mx := by
               unfold hourM2
               rw [if_neg (fun z => by omega)]
               exact hE1
             generalize Mx = My at hE2 ⊢)
          have hI4 := hourM2_I (by omega) (by omega) hI2
          refine a_aloadn dX0_pass_53 rfl ?_
          refine b_getI (j' := 2) dX0_pass_54 flX0_45 rfl rfl (L50 L) (fun hr54 => ?_)
          have e54 : My 50 2 = Ma 50 2 := by rw [hE2 _ _ (by omega) (by omega) (by omega), hourM2_Fa t a Ma 50 (by omega)]
          rw [e54] at hr54
          rw [e54]
          refine a_if_eq (tgt := 65) dX0_pass_57 (by decide) ⟨by omega, by omega⟩ (fun hb57 => ?_) (fun hb57 => ?_)
          · have f2 : hourM2 t a Ma t 2 = Ma t 2 := by rw [hourM2_Fa t a Ma t (by omega)]
            first
            | (have hE3 : Ec (hourM3 t a Ma) M4 := by
                 unfold hourM3
                 rw [if_pos (by omega)]
                 exact f2 ▸ hM4
               generalize M4 = Mz at hE3 ⊢)
            | (have hE3 : Ec (hourM3 t a Ma) My := by
                 unfold hourM3
                 rw [if_neg (by omega)]
                 exact hE2
               generalize My = Mz at hE3 ⊢)
            refine a_aloadn dX0_pass_65 rfl ?_
            refine a_dupR dX0_pass_66 ?_
            refine b_getI (j' := 5) dX0_pass_67 flX0_48 rfl rfl hS.2.1 (fun hr67 => ?_)
            have e67 : Mz a 5 = Ma a 5 := by rw [hE3 _ _ (by omega) (by omega) (by omega), hourM3_h]
            rw [e67] at hr67
            rw [e67]
            refine a_iconst dX0_pass_70 ?_
            refine a_iadd dX0_pass_71 ?_
            refine a_putI (j' := 5) dX0_pass_72 flX0_48 rfl rfl hS.2.1 hS.1 rfl ⟨by omega, by omega⟩ ?_
            refine c_iinc (ls' := [_, _, _, _]) dX0_pass_75 rfl (by decide) rfl rfl ?_
            refine a_goto (tgt := 2) dX0_pass_78 (by decide) ?_
            exact ih _ _ (hourM t a Ma) (by omega) (by omega) (by unfold hourM; rw [← e67]; exact e67 ▸ hE3.sm2 _ _ _) (hourM_I (by omega) (by omega) hI2 (by omega)) (by rw [hourM_h]; omega)
          · refine a_aloadn dX0_pass_60 rfl ?_
            refine a_aloadn dX0_pass_61 rfl ?_
            refine a_relVv (as := [_]) (q := 50) dX0_pass_62 mvX0_72 ⟨by decide, by decide⟩ (L50 L) rfl rfl rfl (Nat.le_of_ble_eq_true rfl) ⟨rfl, rfl⟩ ⟨by decide, by decide⟩ (m_fadeValves2 hc hE2 hI4) (fun M4 hM4 => ?_)
            have f2 : hourM2 t a Ma t 2 = Ma t 2 := by rw [hourM2_Fa t a Ma t (by omega)]
            first
            | (have hE3 : Ec (hourM3 t a Ma) M4 := by
                 unfold hourM3
                 rw [if_pos (by omega)]
                 exact f2 ▸ hM4
               generalize M4 = Mz at hE3 ⊢)
            | (have hE3 : Ec (hourM3 t a Ma) My := by
                 unfold hourM3
                 rw [if_neg (by omega)]
                 exact hE2
               generalize My = Mz at hE3 ⊢)
            refine a_aloadn dX0_pass_65 rfl ?_
            refine a_dupR dX0_pass_66 ?_
            refine b_getI (j' := 5) dX0_pass_67 flX0_48 rfl rfl hS.2.1 (fun hr67 => ?_)
            have e67 : Mz a 5 = Ma a 5 := by rw [hE3 _ _ (by omega) (by omega) (by omega), hourM3_h]
            rw [e67] at hr67
            rw [e67]
            refine a_iconst dX0_pass_70 ?_
            refine a_iadd dX0_pass_71 ?_
            refine a_putI (j' := 5) dX0_pass_72 flX0_48 rfl rfl hS.2.1 hS.1 rfl ⟨by omega, by omega⟩ ?_
            refine c_iinc (ls' := [_, _, _, _]) dX0_pass_75 rfl (by decide) rfl rfl ?_
            refine a_goto (tgt := 2) dX0_pass_78 (by decide) ?_
            exact ih _ _ (hourM t a Ma) (by omega) (by omega) (by unfold hourM; rw [← e67]; exact e67 ▸ hE3.sm2 _ _ _) (hourM_I (by omega) (by omega) hI2 (by omega)) (by rw [hourM_h]; omega)
        · refine a_aloadn dX0_pass_33 rfl ?_
          refine a_getR (j' := 0) (y := t) dX0_pass_34 flX0_18 rfl rfl (L50 L) hTp ?_
          refine a_getR (j' := 16) (y := (t + 12)) dX0_pass_37 flX0_60 rfl rfl hT.1.2.1 hT.1.2.2.2.2.2.2.2.2.2.2.2.2.2.2 ?_
          refine a_iconst dX0_pass_40 ?_
          refine a_aald3 (N := 3) (y := (t + 17)) dX0_pass_41 hT.1.2.2.2.2.2.2.2.2.2.2.2.2.2.1 (by decide) (by omega) (by omega) hT.2.2.2.1 ?_
          refine b_getI (j' := 1) dX0_pass_42 flX0_64 rfl rfl hT.2.2.2.2.2.1 (fun hr42 => ?_)
          have e42 : Mx (t + 17) 1 = Ma (t + 17) 1 := by rw [hE1 _ _ (by omega) (by omega) (by omega), hourM1_Fa t a Ma (t + 17) (by omega)]
          rw [e42] at hr42
          rw [e42]
          refine a_if_le (tgt := 53) dX0_pass_45 (by decide) ⟨by omega, by omega⟩ (fun hb45 => ?_) (fun hb45 => ?_)
          · have f1 : hourM1 t a Ma t 2 = Ma t 2 := by rw [hourM1_Fa t a Ma t (by omega)]
            first
            | (have hE2 : Ec (hourM2 t a Ma) M3 := by
                 unfold hourM2
                 rw [if_pos ⟨by omega, by omega⟩]
                 exact f1 ▸ hM3
               generalize M3 = My at hE2 ⊢)
            | (have hE2 : Ec (hourM2 t a Ma) Mx := by
                 unfold hourM2
                 rw [if_neg (fun z => by omega)]
                 exact hE1
               generalize Mx = My at hE2 ⊢)
            have hI4 := hourM2_I (by omega) (by omega) hI2
            refine a_aloadn dX0_pass_53 rfl ?_
            refine b_getI (j' := 2) dX0_pass_54 flX0_45 rfl rfl (L50 L) (fun hr54 => ?_)
            have e54 : My 50 2 = Ma 50 2 := by rw [hE2 _ _ (by omega) (by omega) (by omega), hourM2_Fa t a Ma 50 (by omega)]
            rw [e54] at hr54
            rw [e54]
            refine a_if_eq (tgt := 65) dX0_pass_57 (by decide) ⟨by omega, by omega⟩ (fun hb57 => ?_) (fun hb57 => ?_)
            · have f2 : hourM2 t a Ma t 2 = Ma t 2 := by rw [hourM2_Fa t a Ma t (by omega)]
              first
              | (have hE3 : Ec (hourM3 t a Ma) M4 := by
                   unfold hourM3
                   rw [if_pos (by omega)]
                   exact f2 ▸ hM4
                 generalize M4 = Mz at hE3 ⊢)
              | (have hE3 : Ec (hourM3 t a Ma) My := by
                   unfold hourM3
                   rw [if_neg (by omega)]
                   exact hE2
                 generalize My = Mz at hE3 ⊢)
              refine a_aloadn dX0_pass_65 rfl ?_
              refine a_dupR dX0_pass_66 ?_
              refine b_getI (j' := 5) dX0_pass_67 flX0_48 rfl rfl hS.2.1 (fun hr67 => ?_)
              have e67 : Mz a 5 = Ma a 5 := by rw [hE3 _ _ (by omega) (by omega) (by omega), hourM3_h]
              rw [e67] at hr67
              rw [e67]
              refine a_iconst dX0_pass_70 ?_
              refine a_iadd dX0_pass_71 ?_
              refine a_putI (j' := 5) dX0_pass_72 flX0_48 rfl rfl hS.2.1 hS.1 rfl ⟨by omega, by omega⟩ ?_
              refine c_iinc (ls' := [_, _, _, _]) dX0_pass_75 rfl (by decide) rfl rfl ?_
              refine a_goto (tgt := 2) dX0_pass_78 (by decide) ?_
              exact ih _ _ (hourM t a Ma) (by omega) (by omega) (by unfold hourM; rw [← e67]; exact e67 ▸ hE3.sm2 _ _ _) (hourM_I (by omega) (by omega) hI2 (by omega)) (by rw [hourM_h]; omega)
            · refine a_aloadn dX0_pass_60 rfl ?_
              refine a_aloadn dX0_pass_61 rfl ?_
              refine a_relVv (as := [_]) (q := 50) dX0_pass_62 mvX0_72 ⟨by decide, by decide⟩ (L50 L) rfl rfl rfl (Nat.le_of_ble_eq_true rfl) ⟨rfl, rfl⟩ ⟨by decide, by decide⟩ (m_fadeValves2 hc hE2 hI4) (fun M4 hM4 => ?_)
              have f2 : hourM2 t a Ma t 2 = Ma t 2 := by rw [hourM2_Fa t a Ma t (by omega)]
              first
              | (have hE3 : Ec (hourM3 t a Ma) M4 := by
                   unfold hourM3
                   rw [if_pos (by omega)]
                   exact f2 ▸ hM4
                 generalize M4 = Mz at hE3 ⊢)
              | (have hE3 : Ec (hourM3 t a Ma) My := by
                   unfold hourM3
                   rw [if_neg (by omega)]
                   exact hE2
                 generalize My = Mz at hE3 ⊢)
              refine a_aloadn dX0_pass_65 rfl ?_
              refine a_dupR dX0_pass_66 ?_
              refine b_getI (j' := 5) dX0_pass_67 flX0_48 rfl rfl hS.2.1 (fun hr67 => ?_)
              have e67 : Mz a 5 = Ma a 5 := by rw [hE3 _ _ (by omega) (by omega) (by omega), hourM3_h]
              rw [e67] at hr67
              rw [e67]
              refine a_iconst dX0_pass_70 ?_
              refine a_iadd dX0_pass_71 ?_
              refine a_putI (j' := 5) dX0_pass_72 flX0_48 rfl rfl hS.2.1 hS.1 rfl ⟨by omega, by omega⟩ ?_
              refine c_iinc (ls' := [_, _, _, _]) dX0_pass_75 rfl (by decide) rfl rfl ?_
              refine a_goto (tgt := 2) dX0_pass_78 (by decide) ?_
              exact ih _ _ (hourM t a Ma) (by omega) (by omega) (by unfold hourM; rw [← e67]; exact e67 ▸ hE3.sm2 _ _ _) (hourM_I (by omega) (by omega) hI2 (by omega)) (by rw [hourM_h]; omega)
          · refine a_aloadn dX0_pass_48 rfl ?_
            refine a_aloadn dX0_pass_49 rfl ?_
            refine a_relVv (as := [_]) (q := 50) dX0_pass_50 mvX0_69 ⟨by decide, by decide⟩ (L50 L) rfl rfl rfl (Nat.le_of_ble_eq_true rfl) ⟨rfl, rfl⟩ ⟨by decide, by decide⟩ (m_driftDials2 hc hE1 hI3) (fun M3 hM3 => ?_)
            have f1 : hourM1 t a Ma t 2 = Ma t 2 := by rw [hourM1_Fa t a Ma t (by omega)]
            first
            | (have hE2 : Ec (hourM2 t a Ma) M3 := by
                 unfold hourM2
                 rw [if_pos ⟨by omega, by omega⟩]
                 exact f1 ▸ hM3
               generalize M3 = My at hE2 ⊢)
            | (have hE2 : Ec (hourM2 t a Ma) Mx := by
                 unfold hourM2
                 rw [if_neg (fun z => by omega)]
                 exact hE1
               generalize Mx = My at hE2 ⊢)
            have hI4 := hourM2_I (by omega) (by omega) hI2
            refine a_aloadn dX0_pass_53 rfl ?_
            refine b_getI (j' := 2) dX0_pass_54 flX0_45 rfl rfl (L50 L) (fun hr54 => ?_)
            have e54 : My 50 2 = Ma 50 2 := by rw [hE2 _ _ (by omega) (by omega) (by omega), hourM2_Fa t a Ma 50 (by omega)]
            rw [e54] at hr54
            rw [e54]
            refine a_if_eq (tgt := 65) dX0_pass_57 (by decide) ⟨by omega, by omega⟩ (fun hb57 => ?_) (fun hb57 => ?_)
            · have f2 : hourM2 t a Ma t 2 = Ma t 2 := by rw [hourM2_Fa t a Ma t (by omega)]
              first
              | (have hE3 : Ec (hourM3 t a Ma) M4 := by
                   unfold hourM3
                   rw [if_pos (by omega)]
                   exact f2 ▸ hM4
                 generalize M4 = Mz at hE3 ⊢)
              | (have hE3 : Ec (hourM3 t a Ma) My := by
                   unfold hourM3
                   rw [if_neg (by omega)]
                   exact hE2
                 generalize My = Mz at hE3 ⊢)
              refine a_aloadn dX0_pass_65 rfl ?_
              refine a_dupR dX0_pass_66 ?_
              refine b_getI (j' := 5) dX0_pass_67 flX0_48 rfl rfl hS.2.1 (fun hr67 => ?_)
              have e67 : Mz a 5 = Ma a 5 := by rw [hE3 _ _ (by omega) (by omega) (by omega), hourM3_h]
              rw [e67] at hr67
              rw [e67]
              refine a_iconst dX0_pass_70 ?_
              refine a_iadd dX0_pass_71 ?_
              refine a_putI (j' := 5) dX0_pass_72 flX0_48 rfl rfl hS.2.1 hS.1 rfl ⟨by omega, by omega⟩ ?_
              refine c_iinc (ls' := [_, _, _, _]) dX0_pass_75 rfl (by decide) rfl rfl ?_
              refine a_goto (tgt := 2) dX0_pass_78 (by decide) ?_
              exact ih _ _ (hourM t a Ma) (by omega) (by omega) (by unfold hourM; rw [← e67]; exact e67 ▸ hE3.sm2 _ _ _) (hourM_I (by omega) (by omega) hI2 (by omega)) (by rw [hourM_h]; omega)
            · refine a_aloadn dX0_pass_60 rfl ?_
              refine a_aloadn dX0_pass_61 rfl ?_
              refine a_relVv (as := [_]) (q := 50) dX0_pass_62 mvX0_72 ⟨by decide, by decide⟩ (L50 L) rfl rfl rfl (Nat.le_of_ble_eq_true rfl) ⟨rfl, rfl⟩ ⟨by decide, by decide⟩ (m_fadeValves2 hc hE2 hI4) (fun M4 hM4 => ?_)
              have f2 : hourM2 t a Ma t 2 = Ma t 2 := by rw [hourM2_Fa t a Ma t (by omega)]
              first
              | (have hE3 : Ec (hourM3 t a Ma) M4 := by
                   unfold hourM3
                   rw [if_pos (by omega)]
                   exact f2 ▸ hM4
                 generalize M4 = Mz at hE3 ⊢)
              | (have hE3 : Ec (hourM3 t a Ma) My := by
                   unfold hourM3
                   rw [if_neg (by omega)]
                   exact hE2
                 generalize My = Mz at hE3 ⊢)
              refine a_aloadn dX0_pass_65 rfl ?_
              refine a_dupR dX0_pass_66 ?_
              refine b_getI (j' := 5) dX0_pass_67 flX0_48 rfl rfl hS.2.1 (fun hr67 => ?_)
              have e67 : Mz a 5 = Ma a 5 := by rw [hE3 _ _ (by omega) (by omega) (by omega), hourM3_h]
              rw [e67] at hr67
              rw [e67]
              refine a_iconst dX0_pass_70 ?_
              refine a_iadd dX0_pass_71 ?_
              refine a_putI (j' := 5) dX0_pass_72 flX0_48 rfl rfl hS.2.1 hS.1 rfl ⟨by omega, by omega⟩ ?_
              refine c_iinc (ls' := [_, _, _, _]) dX0_pass_75 rfl (by decide) rfl rfl ?_
              refine a_goto (tgt := 2) dX0_pass_78 (by decide) ?_
              exact ih _ _ (hourM t a Ma) (by omega) (by omega) (by unfold hourM; rw [← e67]; exact e67 ▸ hE3.sm2 _ _ _) (hourM_I (by omega) (by omega) hI2 (by omega)) (by rw [hourM_h]; omega)
      · refine a_aloadn dX0_pass_16 rfl ?_
        refine a_aloadn dX0_pass_17 rfl ?_
        refine a_relVv (as := [_]) (q := 50) dX0_pass_18 mvX0_53 ⟨by decide, by decide⟩ (L50 L) rfl rfl rfl (Nat.le_of_ble_eq_true rfl) ⟨rfl, rfl⟩ ⟨by decide, by decide⟩ (m_turnDials2 hc hE hI2) (fun M1 hM1 => ?_)
        have e10 : tnM t a Ma t 10 = Ma t 10 := by rw [tnM_Fa t a Ma t (by omega)]
        have hIt := (tnM_Fa t a Ma).ci (by omega) (by omega) hI2 (tnM_I (by omega) (by omega) hI2)
        refine a_aloadn dX0_pass_21 rfl ?_
        refine a_aloadn dX0_pass_22 rfl ?_
        refine a_relVv (as := [_]) (q := 50) dX0_pass_23 mvX0_57 ⟨by decide, by decide⟩ (L50 L) rfl rfl rfl (Nat.le_of_ble_eq_true rfl) ⟨rfl, rfl⟩ ⟨by decide, by decide⟩ (m_soundInRooms2 hc hM1 hIt) (fun M2 hM2 => ?_)
        first
        | (have hE1 : Ec (hourM1 t a Ma) M2 := by
             rw [hourM1_eq, if_pos (by omega)]
             exact e10 ▸ hM2
           generalize M2 = Mx at hE1 ⊢)
        | (have hE1 : Ec (hourM1 t a Ma) M := by
             rw [hourM1_eq, if_neg (by omega)]
             exact hE
           generalize M = Mx at hE1 ⊢)
        have hI3 := hourM1_I (by omega) (by omega) hI2
        refine a_aloadn dX0_pass_26 rfl ?_
        refine b_getZ (j' := 3) dX0_pass_27 flX0_32 rfl rfl (L50 L) (fun hr27 => ?_)
        have e27 : Mx 50 3 = Ma 50 3 := by rw [hE1 _ _ (by omega) (by omega) (by omega), hourM1_Fa t a Ma 50 (by omega)]
        rw [e27] at hr27
        rw [e27]
        refine a_if_eq (tgt := 53) dX0_pass_30 (by decide) (by rcases hr27 with z | z <;> exact ⟨by omega, by omega⟩) (fun hb30 => ?_) (fun hb30 => ?_)
        · have f1 : hourM1 t a Ma t 2 = Ma t 2 := by rw [hourM1_Fa t a Ma t (by omega)]
          first
          | (have hE2 : Ec (hourM2 t a Ma) M3 := by
               unfold hourM2
               rw [if_pos ⟨by omega, by omega⟩]
               exact f1 ▸ hM3
             generalize M3 = My at hE2 ⊢)
          | (have hE2 : Ec (hourM2 t a Ma) Mx := by
               unfold hourM2
               rw [if_neg (fun z => by omega)]
               exact hE1
             generalize Mx = My at hE2 ⊢)
          have hI4 := hourM2_I (by omega) (by omega) hI2
          refine a_aloadn dX0_pass_53 rfl ?_
          refine b_getI (j' := 2) dX0_pass_54 flX0_45 rfl rfl (L50 L) (fun hr54 => ?_)
          have e54 : My 50 2 = Ma 50 2 := by rw [hE2 _ _ (by omega) (by omega) (by omega), hourM2_Fa t a Ma 50 (by omega)]
          rw [e54] at hr54
          rw [e54]
          refine a_if_eq (tgt := 65) dX0_pass_57 (by decide) ⟨by omega, by omega⟩ (fun hb57 => ?_) (fun hb57 => ?_)
          · have f2 : hourM2 t a Ma t 2 = Ma t 2 := by rw [hourM2_Fa t a Ma t (by omega)]
            first
            | (have hE3 : Ec (hourM3 t a Ma) M4 := by
                 unfold hourM3
                 rw [if_pos (by omega)]
                 exact f2 ▸ hM4
               generalize M4 = Mz at hE3 ⊢)
            | (have hE3 : Ec (hourM3 t a Ma) My := by
                 unfold hourM3
                 rw [if_neg (by omega)]
                 exact hE2
               generalize My = Mz at hE3 ⊢)
            refine a_aloadn dX0_pass_65 rfl ?_
            refine a_dupR dX0_pass_66 ?_
            refine b_getI (j' := 5) dX0_pass_67 flX0_48 rfl rfl hS.2.1 (fun hr67 => ?_)
            have e67 : Mz a 5 = Ma a 5 := by rw [hE3 _ _ (by omega) (by omega) (by omega), hourM3_h]
            rw [e67] at hr67
            rw [e67]
            refine a_iconst dX0_pass_70 ?_
            refine a_iadd dX0_pass_71 ?_
            refine a_putI (j' := 5) dX0_pass_72 flX0_48 rfl rfl hS.2.1 hS.1 rfl ⟨by omega, by omega⟩ ?_
            refine c_iinc (ls' := [_, _, _, _]) dX0_pass_75 rfl (by decide) rfl rfl ?_
            refine a_goto (tgt := 2) dX0_pass_78 (by decide) ?_
            exact ih _ _ (hourM t a Ma) (by omega) (by omega) (by unfold hourM; rw [← e67]; exact e67 ▸ hE3.sm2 _ _ _) (hourM_I (by omega) (by omega) hI2 (by omega)) (by rw [hourM_h]; omega)
          · refine a_aloadn dX0_pass_60 rfl ?_
            refine a_aloadn dX0_pass_61 rfl ?_
            refine a_relVv (as := [_]) (q := 50) dX0_pass_62 mvX0_72 ⟨by decide, by decide⟩ (L50 L) rfl rfl rfl (Nat.le_of_ble_eq_true rfl) ⟨rfl, rfl⟩ ⟨by decide, by decide⟩ (m_fadeValves2 hc hE2 hI4) (fun M4 hM4 => ?_)
            have f2 : hourM2 t a Ma t 2 = Ma t 2 := by rw [hourM2_Fa t a Ma t (by omega)]
            first
            | (have hE3 : Ec (hourM3 t a Ma) M4 := by
                 unfold hourM3
                 rw [if_pos (by omega)]
                 exact f2 ▸ hM4
               generalize M4 = Mz at hE3 ⊢)
            | (have hE3 : Ec (hourM3 t a Ma) My := by
                 unfold hourM3
                 rw [if_neg (by omega)]
                 exact hE2
               generalize My = Mz at hE3 ⊢)
            refine a_aloadn dX0_pass_65 rfl ?_
            refine a_dupR dX0_pass_66 ?_
            refine b_getI (j' := 5) dX0_pass_67 flX0_48 rfl rfl hS.2.1 (fun hr67 => ?_)
            have e67 : Mz a 5 = Ma a 5 := by rw [hE3 _ _ (by omega) (by omega) (by omega), hourM3_h]
            rw [e67] at hr67
            rw [e67]
            refine a_iconst dX0_pass_70 ?_
            refine a_iadd dX0_pass_71 ?_
            refine a_putI (j' := 5) dX0_pass_72 flX0_48 rfl rfl hS.2.1 hS.1 rfl ⟨by omega, by omega⟩ ?_
            refine c_iinc (ls' := [_, _, _, _]) dX0_pass_75 rfl (by decide) rfl rfl ?_
            refine a_goto (tgt := 2) dX0_pass_78 (by decide) ?_
            exact ih _ _ (hourM t a Ma) (by omega) (by omega) (by unfold hourM; rw [← e67]; exact e67 ▸ hE3.sm2 _ _ _) (hourM_I (by omega) (by omega) hI2 (by omega)) (by rw [hourM_h]; omega)
        · refine a_aloadn dX0_pass_33 rfl ?_
          refine a_getR (j' := 0) (y := t) dX0_pass_34 flX0_18 rfl rfl (L50 L) hTp ?_
          refine a_getR (j' := 16) (y := (t + 12)) dX0_pass_37 flX0_60 rfl rfl hT.1.2.1 hT.1.2.2.2.2.2.2.2.2.2.2.2.2.2.2 ?_
          refine a_iconst dX0_pass_40 ?_
          refine a_aald3 (N := 3) (y := (t + 17)) dX0_pass_41 hT.1.2.2.2.2.2.2.2.2.2.2.2.2.2.1 (by decide) (by omega) (by omega) hT.2.2.2.1 ?_
          refine b_getI (j' := 1) dX0_pass_42 flX0_64 rfl rfl hT.2.2.2.2.2.1 (fun hr42 => ?_)
          have e42 : Mx (t + 17) 1 = Ma (t + 17) 1 := by rw [hE1 _ _ (by omega) (by omega) (by omega), hourM1_Fa t a Ma (t + 17) (by omega)]
          rw [e42] at hr42
          rw [e42]
          refine a_if_le (tgt := 53) dX0_pass_45 (by decide) ⟨by omega, by omega⟩ (fun hb45 => ?_) (fun hb45 => ?_)
          · have f1 : hourM1 t a Ma t 2 = Ma t 2 := by rw [hourM1_Fa t a Ma t (by omega)]
            first
            | (have hE2 : Ec (hourM2 t a Ma) M3 := by
                 unfold hourM2
                 rw [if_pos ⟨by omega, by omega⟩]
                 exact f1 ▸ hM3
               generalize M3 = My at hE2 ⊢)
            | (have hE2 : Ec (hourM2 t a Ma) Mx := by
                 unfold hourM2
                 rw [if_neg (fun z => by omega)]
                 exact hE1
               generalize Mx = My at hE2 ⊢)
            have hI4 := hourM2_I (by omega) (by omega) hI2
            refine a_aloadn dX0_pass_53 rfl ?_
            refine b_getI (j' := 2) dX0_pass_54 flX0_45 rfl rfl (L50 L) (fun hr54 => ?_)
            have e54 : My 50 2 = Ma 50 2 := by rw [hE2 _ _ (by omega) (by omega) (by omega), hourM2_Fa t a Ma 50 (by omega)]
            rw [e54] at hr54
            rw [e54]
            refine a_if_eq (tgt := 65) dX0_pass_57 (by decide) ⟨by omega, by omega⟩ (fun hb57 => ?_) (fun hb57 => ?_)
            · have f2 : hourM2 t a Ma t 2 = Ma t 2 := by rw [hourM2_Fa t a Ma t (by omega)]
              first
              | (have hE3 : Ec (hourM3 t a Ma) M4 := by
                   unfold hourM3
                   rw [if_pos (by omega)]
                   exact f2 ▸ hM4
                 generalize M4 = Mz at hE3 ⊢)
              | (have hE3 : Ec (hourM3 t a Ma) My := by
                   unfold hourM3
                   rw [if_neg (by omega)]
                   exact hE2
                 generalize My = Mz at hE3 ⊢)
              refine a_aloadn dX0_pass_65 rfl ?_
              refine a_dupR dX0_pass_66 ?_
              refine b_getI (j' := 5) dX0_pass_67 flX0_48 rfl rfl hS.2.1 (fun hr67 => ?_)
              have e67 : Mz a 5 = Ma a 5 := by rw [hE3 _ _ (by omega) (by omega) (by omega), hourM3_h]
              rw [e67] at hr67
              rw [e67]
              refine a_iconst dX0_pass_70 ?_
              refine a_iadd dX0_pass_71 ?_
              refine a_putI (j' := 5) dX0_pass_72 flX0_48 rfl rfl hS.2.1 hS.1 rfl ⟨by omega, by omega⟩ ?_
              refine c_iinc (ls' := [_, _, _, _]) dX0_pass_75 rfl (by decide) rfl rfl ?_
              refine a_goto (tgt := 2) dX0_pass_78 (by decide) ?_
              exact ih _ _ (hourM t a Ma) (by omega) (by omega) (by unfold hourM; rw [← e67]; exact e67 ▸ hE3.sm2 _ _ _) (hourM_I (by omega) (by omega) hI2 (by omega)) (by rw [hourM_h]; omega)
            · refine a_aloadn dX0_pass_60 rfl ?_
              refine a_aloadn dX0_pass_61 rfl ?_
              refine a_relVv (as := [_]) (q := 50) dX0_pass_62 mvX0_72 ⟨by decide, by decide⟩ (L50 L) rfl rfl rfl (Nat.le_of_ble_eq_true rfl) ⟨rfl, rfl⟩ ⟨by decide, by decide⟩ (m_fadeValves2 hc hE2 hI4) (fun M4 hM4 => ?_)
              have f2 : hourM2 t a Ma t 2 = Ma t 2 := by rw [hourM2_Fa t a Ma t (by omega)]
              first
              | (have hE3 : Ec (hourM3 t a Ma) M4 := by
                   unfold hourM3
                   rw [if_pos (by omega)]
                   exact f2 ▸ hM4
                 generalize M4 = Mz at hE3 ⊢)
              | (have hE3 : Ec (hourM3 t a Ma) My := by
                   unfold hourM3
                   rw [if_neg (by omega)]
                   exact hE2
                 generalize My = Mz at hE3 ⊢)
              refine a_aloadn dX0_pass_65 rfl ?_
              refine a_dupR dX0_pass_66 ?_
              refine b_getI (j' := 5) dX0_pass_67 flX0_48 rfl rfl hS.2.1 (fun hr67 => ?_)
              have e67 : Mz a 5 = Ma a 5 := by rw [hE3 _ _ (by omega) (by omega) (by omega), hourM3_h]
              rw [e67] at hr67
              rw [e67]
              refine a_iconst dX0_pass_70 ?_
              refine a_iadd dX0_pass_71 ?_
              refine a_putI (j' := 5) dX0_pass_72 flX0_48 rfl rfl hS.2.1 hS.1 rfl ⟨by omega, by omega⟩ ?_
              refine c_iinc (ls' := [_, _, _, _]) dX0_pass_75 rfl (by decide) rfl rfl ?_
              refine a_goto (tgt := 2) dX0_pass_78 (by decide) ?_
              exact ih _ _ (hourM t a Ma) (by omega) (by omega) (by unfold hourM; rw [← e67]; exact e67 ▸ hE3.sm2 _ _ _) (hourM_I (by omega) (by omega) hI2 (by omega)) (by rw [hourM_h]; omega)
          · refine a_aloadn dX0_pass_48 rfl ?_
            refine a_aloadn dX0_pass_49 rfl ?_
            refine a_relVv (as := [_]) (q := 50) dX0_pass_50 mvX0_69 ⟨by decide, by decide⟩ (L50 L) rfl rfl rfl (Nat.le_of_ble_eq_true rfl) ⟨rfl, rfl⟩ ⟨by decide, by decide⟩ (m_driftDials2 hc hE1 hI3) (fun M3 hM3 => ?_)
            have f1 : hourM1 t a Ma t 2 = Ma t 2 := by rw [hourM1_Fa t a Ma t (by omega)]
            first
            | (have hE2 : Ec (hourM2 t a Ma) M3 := by
                 unfold hourM2
                 rw [if_pos ⟨by omega, by omega⟩]
                 exact f1 ▸ hM3
               generalize M3 = My at hE2 ⊢)
            | (have hE2 : Ec (hourM2 t a Ma) Mx := by
                 unfold hourM2
                 rw [if_neg (fun z => by omega)]
                 exact hE1
               generalize Mx = My at hE2 ⊢)
            have hI4 := hourM2_I (by omega) (by omega) hI2
            refine a_aloadn dX0_pass_53 rfl ?_
            refine b_getI (j' := 2) dX0_pass_54 flX0_45 rfl rfl (L50 L) (fun hr54 => ?_)
            have e54 : My 50 2 = Ma 50 2 := by rw [hE2 _ _ (by omega) (by omega) (by omega), hourM2_Fa t a Ma 50 (by omega)]
            rw [e54] at hr54
            rw [e54]
            refine a_if_eq (tgt := 65) dX0_pass_57 (by decide) ⟨by omega, by omega⟩ (fun hb57 => ?_) (fun hb57 => ?_)
            · have f2 : hourM2 t a Ma t 2 = Ma t 2 := by rw [hourM2_Fa t a Ma t (by omega)]
              first
              | (have hE3 : Ec (hourM3 t a Ma) M4 := by
                   unfold hourM3
                   rw [if_pos (by omega)]
                   exact f2 ▸ hM4
                 generalize M4 = Mz at hE3 ⊢)
              | (have hE3 : Ec (hourM3 t a Ma) My := by
                   unfold hourM3
                   rw [if_neg (by omega)]
                   exact hE2
                 generalize My = Mz at hE3 ⊢)
              refine a_aloadn dX0_pass_65 rfl ?_
              refine a_dupR dX0_pass_66 ?_
              refine b_getI (j' := 5) dX0_pass_67 flX0_48 rfl rfl hS.2.1 (fun hr67 => ?_)
              have e67 : Mz a 5 = Ma a 5 := by rw [hE3 _ _ (by omega) (by omega) (by omega), hourM3_h]
              rw [e67] at hr67
              rw [e67]
              refine a_iconst dX0_pass_70 ?_
              refine a_iadd dX0_pass_71 ?_
              refine a_putI (j' := 5) dX0_pass_72 flX0_48 rfl rfl hS.2.1 hS.1 rfl ⟨by omega, by omega⟩ ?_
              refine c_iinc (ls' := [_, _, _, _]) dX0_pass_75 rfl (by decide) rfl rfl ?_
              refine a_goto (tgt := 2) dX0_pass_78 (by decide) ?_
              exact ih _ _ (hourM t a Ma) (by omega) (by omega) (by unfold hourM; rw [← e67]; exact e67 ▸ hE3.sm2 _ _ _) (hourM_I (by omega) (by omega) hI2 (by omega)) (by rw [hourM_h]; omega)
            · refine a_aloadn dX0_pass_60 rfl ?_
              refine a_aloadn dX0_pass_61 rfl ?_
              refine a_relVv (as := [_]) (q := 50) dX0_pass_62 mvX0_72 ⟨by decide, by decide⟩ (L50 L) rfl rfl rfl (Nat.le_of_ble_eq_true rfl) ⟨rfl, rfl⟩ ⟨by decide, by decide⟩ (m_fadeValves2 hc hE2 hI4) (fun M4 hM4 => ?_)
              have f2 : hourM2 t a Ma t 2 = Ma t 2 := by rw [hourM2_Fa t a Ma t (by omega)]
              first
              | (have hE3 : Ec (hourM3 t a Ma) M4 := by
                   unfold hourM3
                   rw [if_pos (by omega)]
                   exact f2 ▸ hM4
                 generalize M4 = Mz at hE3 ⊢)
              | (have hE3 : Ec (hourM3 t a Ma) My := by
                   unfold hourM3
                   rw [if_neg (by omega)]
                   exact hE2
                 generalize My = Mz at hE3 ⊢)
              refine a_aloadn dX0_pass_65 rfl ?_
              refine a_dupR dX0_pass_66 ?_
              refine b_getI (j' := 5) dX0_pass_67 flX0_48 rfl rfl hS.2.1 (fun hr67 => ?_)
              have e67 : Mz a 5 = Ma a 5 := by rw [hE3 _ _ (by omega) (by omega) (by omega), hourM3_h]
              rw [e67] at hr67
              rw [e67]
              refine a_iconst dX0_pass_70 ?_
              refine a_iadd dX0_pass_71 ?_
              refine a_putI (j' := 5) dX0_pass_72 flX0_48 rfl rfl hS.2.1 hS.1 rfl ⟨by omega, by omega⟩ ?_
              refine c_iinc (ls' := [_, _, _, _]) dX0_pass_75 rfl (by decide) rfl rfl ?_
              refine a_goto (tgt := 2) dX0_pass_78 (by decide) ?_
              exact ih _ _ (hourM t a Ma) (by omega) (by omega) (by unfold hourM; rw [← e67]; exact e67 ▸ hE3.sm2 _ _ _) (hourM_I (by omega) (by omega) hI2 (by omega)) (by rw [hourM_h]; omega)

set_option maxRecDepth 100000 in
set_option maxHeartbeats 4000000 in
theorem m_X0_pass {G : zG} {l : Launch} {L : Nat} {P : zP} {M : zM} {Ma : zM} {t a : Nat} {nn : Int} (hc : CS L P t a) (hE : Ec Ma M) (hi : CI Ma t a) (hn : 0 ≤ nn ∧ nn ≤ 1000) (hh : Ma a 5 + nn ≤ 9999) : AM G l yX0_pass mdX0_pass [aR 50, aR a, aI nn] (LAY L) P M (zrel none (LAY L) P (fun M' => Ec (passM t a nn.toNat Ma) M')) := by
  refine AM.go [some (aR 50), some (aR a), some (aI nn), none] rfl (Nat.le_of_ble_eq_true rfl) ?_ (by decide) rfl rfl
  refine a_iconst dX0_pass_0 ?_
  refine c_istoren (ls' := [_, _, _, _]) dX0_pass_1 (by decide) rfl rfl ?_
  exact lpX0_pass hc hn nn.toNat 0 M Ma (by omega) (by omega) hE hi (by omega)
