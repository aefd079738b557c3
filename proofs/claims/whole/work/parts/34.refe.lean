set_option maxRecDepth 100000 in
set_option maxHeartbeats 4000000 in
theorem m_X11_hears {G : zG} {l : Launch} {L : Nat} {P : zP} {M : zM} {b h o : Int} (hP : PFok P) (hb : b = 0 ∨ b = 1) (hi : RI M b) (h0 : 0 ≤ h) (h1 : h < 6) (o0 : 0 ≤ o) (o1 : o < 6) : AM G l yX11_hears mdX11_hears [aR 209, aI b, aI h, aI o] (LAY L) P M (zany (LAY L) P (fun x M' => Es M M' ∧ x = hrR M b h o)) := by
  have q1 := hi.2.2.1.1 h h0 h1
  have q3 := hi.2.2.1.2.1 h h0 h1
  have q6 := kmM_in hi.1 b h
  have q7 := hi.2.2.1.2.2.2
  have q2 := hi.2.2.1.1 o o0 o1
  have q4 := hi.2.2.1.2.2.1 (6 * h + o) (by omega) (by omega)
  rw [show 36 * b + (6 * h + o) = 36 * b + 6 * h + o by omega] at q4
  have q8 := iabs_99 q1 q2
  have q9 := hi.2.2.2
  refine AM.go [some (aR 209), some (aI b), some (aI h), some (aI o)] rfl (Nat.le_of_ble_eq_true rfl) ?_ (by decide) rfl rfl
  refine a_iloadn dX11_hears_0 rfl ?_
  refine a_iloadn dX11_hears_1 rfl ?_
  refine a_icmp_ne (tgt := 7) dX11_hears_2 (by decide) ⟨by omega, by omega⟩ ⟨by omega, by omega⟩ (fun hb2 => ?_) (fun hb2 => ?_)
  · refine a_aloadn dX11_hears_7 rfl ?_
    refine a_iloadn dX11_hears_8 rfl ?_
    refine a_iloadn dX11_hears_9 rfl ?_
    refine a_iloadn dX11_hears_10 rfl ?_
    refine a_iconst dX11_hears_11 ?_
    refine a_relVv (as := [_, _, _, _]) (q := 209) dX11_hears_12 mvX11_368 ⟨by decide, by decide⟩ (L209 L) rfl rfl rfl (Nat.le_of_ble_eq_true rfl) ⟨rfl, rfl⟩ ⟨by decide, by decide⟩ (m_layNames hP hb hi h0 h1 o0 o1 ⟨by omega, by omega⟩) (fun M1 hM1 => ?_)
    have hE1 : Es M M1 := fun k i a1 _ _ => hM1.1 k i a1
    have hrl : rlf M1 0 (M1 231) = rlf M 0 (nmf (M 233 (6 * b + h)) (M 234 (6 * b + h)) (iabs (M 233 (6 * b + h) - M 233 (6 * b + o))) 0 (M 236 (36 * b + 6 * h + o)) (kmM M b h) (M 238 b)) := by
      rw [hE1.rlq]
      exact rlf_cong hi.2.1.1 hM1.2
    refine a_aloadn dX11_hears_15 rfl ?_
    refine a_getR (j' := 48) (y := 233) dX11_hears_16 flX11_85 rfl rfl (L209 L) (p209_48 hP) ?_
    refine a_bipush (w := 6) dX11_hears_19 (by decide) ?_
    refine a_iloadn dX11_hears_21 rfl ?_
    refine a_imul dX11_hears_22 ?_
    refine a_iloadn dX11_hears_23 rfl ?_
    refine a_iadd dX11_hears_24 ?_
    refine b_iald (N := 12) dX11_hears_25 (L233 L) (by decide) (by omega) (by omega) (fun hr25 => ?_)
    have e25 : M1 233 (6 * b + h) = M 233 (6 * b + h) := hM1.1 _ _ (by decide)
    rw [e25] at hr25
    rw [e25]
    refine a_aloadn dX11_hears_26 rfl ?_
    refine a_getR (j' := 48) (y := 233) dX11_hears_27 flX11_85 rfl rfl (L209 L) (p209_48 hP) ?_
    refine a_bipush (w := 6) dX11_hears_30 (by decide) ?_
    refine a_iloadn dX11_hears_32 rfl ?_
    refine a_imul dX11_hears_33 ?_
    refine a_iloadn dX11_hears_34 rfl ?_
    refine a_iadd dX11_hears_35 ?_
    refine b_iald (N := 12) dX11_hears_36 (L233 L) (by decide) (by omega) (by omega) (fun hr36 => ?_)
    have e36 : M1 233 (6 * b + o) = M 233 (6 * b + o) := hM1.1 _ _ (by decide)
    rw [e36] at hr36
    rw [e36]
    refine a_callS (as := [_, _]) dX11_hears_37 mvX11_355 ⟨by decide, by decide⟩ rfl rfl (Nat.le_of_ble_eq_true rfl) ⟨rfl, rfl⟩ ⟨by decide, by decide⟩ (m_X11_apart ⟨by omega, by omega⟩ ⟨by omega, by omega⟩) ?_
    refine a_aloadn dX11_hears_40 rfl ?_
    refine a_iconst dX11_hears_41 ?_
    refine a_aloadn dX11_hears_42 rfl ?_
    refine b_getI (j' := 60) dX11_hears_43 flX11_349 rfl rfl (L209 L) (fun hr43 => ?_)
    have e43 : M1 209 60 = M 209 60 := hM1.1 _ _ (by decide)
    rw [e43] at hr43
    rw [e43]
    refine a_aloadn dX11_hears_46 rfl ?_
    refine a_getR (j' := 49) (y := 234) dX11_hears_47 flX11_88 rfl rfl (L209 L) (p209_49 hP) ?_
    refine a_bipush (w := 6) dX11_hears_50 (by decide) ?_
    refine a_iloadn dX11_hears_52 rfl ?_
    refine a_imul dX11_hears_53 ?_
    refine a_iloadn dX11_hears_54 rfl ?_
    refine a_iadd dX11_hears_55 ?_
    refine b_iald (N := 12) dX11_hears_56 (L234 L) (by decide) (by omega) (by omega) (fun hr56 => ?_)
    have e56 : M1 234 (6 * b + h) = M 234 (6 * b + h) := hM1.1 _ _ (by decide)
    rw [e56] at hr56
    rw [e56]
    refine a_iadd dX11_hears_57 ?_
    refine a_iconst dX11_hears_58 ?_
    refine a_bipush (w := 99) dX11_hears_59 (by decide) ?_
    refine a_anyV (as := [_, _, _, _]) (q := 209) dX11_hears_61 mvX11_372 ⟨by decide, by decide⟩ (L209 L) rfl rfl rfl (Nat.le_of_ble_eq_true rfl) ⟨rfl, rfl⟩ ⟨by decide, by decide⟩ (m_X11_boundLaw hP ⟨by decide, by decide⟩ (hE1.lri hi.2.1.1) (nmf_lim3 hM1.2 q1 q3 q8 ⟨by omega, by omega⟩ q4 q6 q7) ⟨by decide, by decide⟩ ⟨by decide, by decide⟩) (fun x9 M2 hM2 => ?_)
    have hx := hM2.2
    rw [hrl] at hx
    have qx := lawE_in (r := rlf M 0 (nmf (M 233 (6 * b + h)) (M 234 (6 * b + h)) (iabs (M 233 (6 * b + h) - M 233 (6 * b + o))) 0 (M 236 (36 * b + 6 * h + o)) (kmM M b h) (M 238 b))) (w := M 209 60 + M 234 (6 * b + h)) (lo := 0) (hi := 99) (by decide)
    refine a_icmp_gt (tgt := 71) dX11_hears_64 (by decide) ⟨by omega, by omega⟩ ⟨by omega, by omega⟩ (fun hb64 => ?_) (fun hb64 => ?_)
    · refine a_iconst dX11_hears_71 ?_
      exact a_zreturn dX11_hears_72 rfl rfl rfl (by omega) (zany_i ⟨hE1.tr hM2.1.es, by unfold hrR; rw [if_neg hb2]; unfold hrv; rw [← hx]; first | (rw [if_pos (Int.not_lt.mp hb64)]; done) | (rw [if_neg (Int.not_le.mpr hb64)]; done)⟩)
    · refine a_iconst dX11_hears_67 ?_
      refine a_goto (tgt := 72) dX11_hears_68 (by decide) ?_
      exact a_zreturn dX11_hears_72 rfl rfl rfl (by omega) (zany_i ⟨hE1.tr hM2.1.es, by unfold hrR; rw [if_neg hb2]; unfold hrv; rw [← hx]; first | (rw [if_pos (Int.not_lt.mp hb64)]; done) | (rw [if_neg (Int.not_le.mpr hb64)]; done)⟩)
  · refine a_iconst dX11_hears_5 ?_
    exact a_zreturn dX11_hears_6 rfl rfl rfl (by omega) (zany_i ⟨Es.rf M, by unfold hrR; rw [if_pos hb2]⟩)

set_option maxRecDepth 100000 in
set_option maxHeartbeats 4000000 in
theorem m_X11_number1 {G : zG} {l : Launch} {L : Nat} {P : zP} {M : zM}  (hd : 0 ≤ M 209 54 ∧ M 209 54 ≤ 2147483647) : AM G l yX11_number1 mdX11_number1 [aR 209, aI 100] (LAY L) P M (zdet (some (aI (((nxL (M 209 54)).tdiv 65536).tmod 100))) (LAY L) P (sm M 209 54 (nxL (M 209 54)))) := by
  refine AM.go [some (aR 209), some (aI 100)] rfl (Nat.le_of_ble_eq_true rfl) ?_ (by decide) rfl rfl
  refine a_aloadn dX11_number1_0 rfl ?_
  refine a_aloadn dX11_number1_1 rfl ?_
  refine b_getL (j' := 54) dX11_number1_2 flX11_318 rfl rfl (L209 L) (fun hr2 => ?_)
  refine a_ldc2 (w := 1103515245) dX11_number1_5 knX11_376 (by decide) ?_
  refine a_lmul dX11_number1_8 ?_
  refine a_ldc2 (w := 12345) dX11_number1_9 knX11_378 (by decide) ?_
  refine a_ladd dX11_number1_12 ?_
  refine a_ldc2 (w := 2147483647) dX11_number1_13 knX11_380 (by decide) ?_
  refine a_land dX11_number1_16 ?_
  refine a_putL (j' := 54) dX11_number1_17 flX11_318 rfl rfl (L209 L) (by decide) rfl (by have := nxL_in (M 209 54); exact ⟨by unfold nxL at this; omega, by unfold nxL at this; omega⟩) ?_
  refine a_aloadn dX11_number1_20 rfl ?_
  refine b_getL (j' := 54) dX11_number1_21 flX11_318 rfl rfl (L209 L) (fun hr21 => ?_)
  have qn := nxL_in (M 209 54)
  rw [show sm M 209 54 (b_land (M 209 54 * 1103515245 + 12345) 2147483647) 209 54 = nxL (M 209 54) from by rw [sm_s]; rfl] at hr21
  rw [show sm M 209 54 (b_land (M 209 54 * 1103515245 + 12345) 2147483647) 209 54 = nxL (M 209 54) from by rw [sm_s]; rfl]
  refine a_ldc2 (w := 65536) dX11_number1_24 knX11_382 (by decide) ?_
  refine a_ldiv dX11_number1_27 ⟨by omega, by omega⟩ ⟨by omega, by omega⟩ (by omega) (by omega) ?_
  have qd : 0 ≤ (nxL (M 209 54)).tdiv 65536 ∧ (nxL (M 209 54)).tdiv 65536 ≤ 2147483647 := by rw [Int.tdiv_eq_ediv_of_nonneg qn.1]; omega
  refine a_iloadn dX11_number1_28 rfl ?_
  refine a_i2l dX11_number1_29 ⟨by omega, by omega⟩ ?_
  refine a_lrem dX11_number1_30 ⟨by omega, by omega⟩ ⟨by omega, by omega⟩ (by omega) (by omega) ?_
  refine a_l2i dX11_number1_31 ?_
  exact a_ireturn dX11_number1_32 rfl rfl rfl (zdet_I (by first | rfl | omega) rfl)

set_option maxRecDepth 100000 in
set_option maxHeartbeats 4000000 in
theorem m_X11_isFading {G : zG} {l : Launch} {L : Nat} {P : zP} {M : zM}  (hP : PFok P) (hd : 0 ≤ M 209 54 ∧ M 209 54 ≤ 2147483647) : AM G l yX11_isFading mdX11_isFading [aR 209] (LAY L) P M (zdet (some (aI (fcR M))) (LAY L) P (fmR M)) := by
  refine AM.go [some (aR 209)] rfl (Nat.le_of_ble_eq_true rfl) ?_ (by decide) rfl rfl
  refine a_aloadn dX11_isFading_0 rfl ?_
  refine b_getZ (j' := 56) dX11_isFading_1 flX11_337 rfl rfl (L209 L) (fun hr1 => ?_)
  refine a_if_ne (tgt := 16) dX11_isFading_4 (by decide) (by rcases hr1 with z | z <;> exact ⟨by omega, by omega⟩) (fun hb4 => ?_) (fun hb4 => ?_)
  · refine a_iconst dX11_isFading_16 ?_
    exact a_zreturn dX11_isFading_17 rfl rfl rfl (by omega) (zdet_I (by unfold fcR; first | (exfalso; omega) | (rw [if_pos (by omega)]; done) | (rw [if_neg (by omega), if_pos (by omega)]; done) | (rw [if_neg (by omega), if_neg (by omega), if_pos (by omega), if_pos (by omega)]; done) | (rw [if_neg (by omega), if_neg (by omega), if_pos (by omega), if_neg (by omega)]; done) | (rw [if_neg (by omega), if_neg (by omega), if_neg (by omega), if_pos (by omega)]; done) | (rw [if_neg (by omega), if_neg (by omega), if_neg (by omega), if_neg (by omega)]; done)) (by unfold fmR; first | (rw [if_pos ⟨by omega, by omega, by omega, by omega⟩]; done) | (rw [if_neg (fun z => by omega)]; done)))
  · refine a_aloadn dX11_isFading_7 rfl ?_
    refine a_getR (j' := 21) (y := 213) dX11_isFading_8 flX11_24 rfl rfl (L209 L) (p209_21 hP) ?_
    refine a_iconst dX11_isFading_11 ?_
    refine b_iald (N := 8) dX11_isFading_12 (L213 L) (by decide) (by omega) (by omega) (fun hr12 => ?_)
    refine a_if_ne (tgt := 18) dX11_isFading_13 (by decide) ⟨by omega, by omega⟩ (fun hb13 => ?_) (fun hb13 => ?_)
    · refine a_aloadn dX11_isFading_18 rfl ?_
      refine a_getR (j' := 21) (y := 213) dX11_isFading_19 flX11_24 rfl rfl (L209 L) (p209_21 hP) ?_
      refine a_iconst dX11_isFading_22 ?_
      refine b_iald (N := 8) dX11_isFading_23 (L213 L) (by decide) (by omega) (by omega) (fun hr23 => ?_)
      refine a_bipush (w := 100) dX11_isFading_24 (by decide) ?_
      refine a_icmp_ne (tgt := 31) dX11_isFading_26 (by decide) ⟨by omega, by omega⟩ ⟨by omega, by omega⟩ (fun hb26 => ?_) (fun hb26 => ?_)
      · refine a_aloadn dX11_isFading_31 rfl ?_
        refine b_getZ (j' := 55) dX11_isFading_32 flX11_334 rfl rfl (L209 L) (fun hr32 => ?_)
        refine a_if_eq (tgt := 61) dX11_isFading_35 (by decide) (by rcases hr32 with z | z <;> exact ⟨by omega, by omega⟩) (fun hb35 => ?_) (fun hb35 => ?_)
        · refine a_aloadn dX11_isFading_61 rfl ?_
          refine a_getR (j' := 21) (y := 213) dX11_isFading_62 flX11_24 rfl rfl (L209 L) (p209_21 hP) ?_
          refine a_iconst dX11_isFading_65 ?_
          refine b_iald (N := 8) dX11_isFading_66 (L213 L) (by decide) (by omega) (by omega) (fun hr66 => ?_)
          refine a_bipush (w := 50) dX11_isFading_67 (by decide) ?_
          refine a_icmp_lt (tgt := 76) dX11_isFading_69 (by decide) ⟨by omega, by omega⟩ ⟨by omega, by omega⟩ (fun hb69 => ?_) (fun hb69 => ?_)
          · refine a_iconst dX11_isFading_76 ?_
            exact a_zreturn dX11_isFading_77 rfl rfl rfl (by omega) (zdet_I (by unfold fcR; first | (exfalso; omega) | (rw [if_pos (by omega)]; done) | (rw [if_neg (by omega), if_pos (by omega)]; done) | (rw [if_neg (by omega), if_neg (by omega), if_pos (by omega), if_pos (by omega)]; done) | (rw [if_neg (by omega), if_neg (by omega), if_pos (by omega), if_neg (by omega)]; done) | (rw [if_neg (by omega), if_neg (by omega), if_neg (by omega), if_pos (by omega)]; done) | (rw [if_neg (by omega), if_neg (by omega), if_neg (by omega), if_neg (by omega)]; done)) (by unfold fmR; first | (rw [if_pos ⟨by omega, by omega, by omega, by omega⟩]; done) | (rw [if_neg (fun z => by omega)]; done)))
          · refine a_iconst dX11_isFading_72 ?_
            refine a_goto (tgt := 77) dX11_isFading_73 (by decide) ?_
            exact a_zreturn dX11_isFading_77 rfl rfl rfl (by omega) (zdet_I (by unfold fcR; first | (exfalso; omega) | (rw [if_pos (by omega)]; done) | (rw [if_neg (by omega), if_pos (by omega)]; done) | (rw [if_neg (by omega), if_neg (by omega), if_pos (by omega), if_pos (by omega)]; done) | (rw [if_neg (by omega), if_neg (by omega), if_pos (by omega), if_neg (by omega)]; done) | (rw [if_neg (by omega), if_neg (by omega), if_neg (by omega), if_pos (by omega)]; done) | (rw [if_neg (by omega), if_neg (by omega), if_neg (by omega), if_neg (by omega)]; done)) (by unfold fmR; first | (rw [if_pos ⟨by omega, by omega, by omega, by omega⟩]; done) | (rw [if_neg (fun z => by omega)]; done)))
        · refine a_aloadn dX11_isFading_38 rfl ?_
          refine a_bipush (w := 100) dX11_isFading_39 (by decide) ?_
          refine a_callV (as := [_]) (q := 209) dX11_isFading_41 mvX11_384 ⟨by decide, by decide⟩ (L209 L) rfl rfl rfl (Nat.le_of_ble_eq_true rfl) ⟨rfl, rfl⟩ ⟨by decide, by decide⟩ (m_X11_number1 hd) ?_
          refine a_aloadn dX11_isFading_44 rfl ?_
          refine a_getR (j' := 21) (y := 213) dX11_isFading_45 flX11_24 rfl rfl (L209 L) (p209_21 hP) ?_
          refine a_iconst dX11_isFading_48 ?_
          refine b_iald (N := 8) dX11_isFading_49 (L213 L) (by decide) (by omega) (by omega) (fun hr49 => ?_)
          have e49 : sm M 209 54 (nxL (M 209 54)) 213 2 = M 213 2 := by rw [sm_n (by decide)]
          rw [e49] at hr49
          rw [e49]
          refine a_icmp_ge (tgt := 57) dX11_isFading_50 (by decide) (nxL_r _) hr49 (fun hb50 => ?_) (fun hb50 => ?_)
          · refine a_iconst dX11_isFading_57 ?_
            refine a_goto (tgt := 77) dX11_isFading_58 (by decide) ?_
            exact a_zreturn dX11_isFading_77 rfl rfl rfl (by omega) (zdet_I (by unfold fcR; first | (exfalso; omega) | (rw [if_pos (by omega)]; done) | (rw [if_neg (by omega), if_pos (by omega)]; done) | (rw [if_neg (by omega), if_neg (by omega), if_pos (by omega), if_pos (by omega)]; done) | (rw [if_neg (by omega), if_neg (by omega), if_pos (by omega), if_neg (by omega)]; done) | (rw [if_neg (by omega), if_neg (by omega), if_neg (by omega), if_pos (by omega)]; done) | (rw [if_neg (by omega), if_neg (by omega), if_neg (by omega), if_neg (by omega)]; done)) (by unfold fmR; first | (rw [if_pos ⟨by omega, by omega, by omega, by omega⟩]; done) | (rw [if_neg (fun z => by omega)]; done)))
          · refine a_iconst dX11_isFading_53 ?_
            refine a_goto (tgt := 77) dX11_isFading_54 (by decide) ?_
            exact a_zreturn dX11_isFading_77 rfl rfl rfl (by omega) (zdet_I (by unfold fcR; first | (exfalso; omega) | (rw [if_pos (by omega)]; done) | (rw [if_neg (by omega), if_pos (by omega)]; done) | (rw [if_neg (by omega), if_neg (by omega), if_pos (by omega), if_pos (by omega)]; done) | (rw [if_neg (by omega), if_neg (by omega), if_pos (by omega), if_neg (by omega)]; done) | (rw [if_neg (by omega), if_neg (by omega), if_neg (by omega), if_pos (by omega)]; done) | (rw [if_neg (by omega), if_neg (by omega), if_neg (by omega), if_neg (by omega)]; done)) (by unfold fmR; first | (rw [if_pos ⟨by omega, by omega, by omega, by omega⟩]; done) | (rw [if_neg (fun z => by omega)]; done)))
      · refine a_iconst dX11_isFading_29 ?_
        exact a_zreturn dX11_isFading_30 rfl rfl rfl (by omega) (zdet_I (by unfold fcR; first | (exfalso; omega) | (rw [if_pos (by omega)]; done) | (rw [if_neg (by omega), if_pos (by omega)]; done) | (rw [if_neg (by omega), if_neg (by omega), if_pos (by omega), if_pos (by omega)]; done) | (rw [if_neg (by omega), if_neg (by omega), if_pos (by omega), if_neg (by omega)]; done) | (rw [if_neg (by omega), if_neg (by omega), if_neg (by omega), if_pos (by omega)]; done) | (rw [if_neg (by omega), if_neg (by omega), if_neg (by omega), if_neg (by omega)]; done)) (by unfold fmR; first | (rw [if_pos ⟨by omega, by omega, by omega, by omega⟩]; done) | (rw [if_neg (fun z => by omega)]; done)))
    · refine a_iconst dX11_isFading_16 ?_
      exact a_zreturn dX11_isFading_17 rfl rfl rfl (by omega) (zdet_I (by unfold fcR; first | (exfalso; omega) | (rw [if_pos (by omega)]; done) | (rw [if_neg (by omega), if_pos (by omega)]; done) | (rw [if_neg (by omega), if_neg (by omega), if_pos (by omega), if_pos (by omega)]; done) | (rw [if_neg (by omega), if_neg (by omega), if_pos (by omega), if_neg (by omega)]; done) | (rw [if_neg (by omega), if_neg (by omega), if_neg (by omega), if_pos (by omega)]; done) | (rw [if_neg (by omega), if_neg (by omega), if_neg (by omega), if_neg (by omega)]; done)) (by unfold fmR; first | (rw [if_pos ⟨by omega, by omega, by omega, by omega⟩]; done) | (rw [if_neg (fun z => by omega)]; done)))

set_option maxRecDepth 100000 in
set_option maxHeartbeats 4000000 in
theorem lpX11_makes {G : zG} {l : Launch} {L : Nat} {P : zP} {b y kd : Int} (hP : PFok P) (hb : b = 0 ∨ b = 1) (y0 : 0 ≤ y) (y1 : y < 6) (hk : 0 ≤ kd ∧ kd ≤ 9) : ∀ (n : Nat) (i acc : Int) (M Ma : zM) (g0 : 0 ≤ i) (g1 : i + n = Ma 209 12) (hE : Es Ma M) (hI2 : RI Ma b), AW G l mdX11_makes (zany (LAY L) P (fun x M' => Es (sdR b y kd n i Ma acc).1 M' ∧ x = (sdR b y kd n i Ma acc).2)) 6 [some (aR 209), some (aI b), some (aI y), some (aI kd), some (aI acc), some (aI i), none] [] (LAY L) P M 0 0 := by
  intro n
  induction n with
  | zero =>
    intro i acc M Ma g0 g1 hE hI2
    have q1 := hI2.1.1
    refine a_iload dX11_makes_6 rfl ?_
    refine a_aloadn dX11_makes_8 rfl ?_
    refine b_getI (j' := 12) dX11_makes_9 flX11_201 rfl rfl (L209 L) (fun hr9 => ?_)
    have e9 : M 209 12 = Ma 209 12 := hE _ _ (by decide) (by decide) (by omega)
    rw [e9] at hr9
    rw [e9]
    refine a_icmp_ge (tgt := 147) dX11_makes_12 (by decide) ⟨by omega, by omega⟩ ⟨by omega, by omega⟩ (fun hb12 => ?_) (fun hb12 => ?_)
    · refine a_iload dX11_makes_147 rfl ?_
      exact a_ireturn dX11_makes_149 rfl rfl rfl (zany_i ⟨hE, rfl⟩)
    · exfalso; omega
  | succ n ih =>
    intro i acc M Ma g0 g1 hE hI2
    have q1 := hI2.1.1
    refine a_iload dX11_makes_6 rfl ?_
    refine a_aloadn dX11_makes_8 rfl ?_
    refine b_getI (j' := 12) dX11_makes_9 flX11_201 rfl rfl (L209 L) (fun hr9 => ?_)
    have e9 : M 209 12 = Ma 209 12 := hE _ _ (by decide) (by decide) (by omega)
    rw [e9] at hr9
    rw [e9]
    refine a_icmp_ge (tgt := 147) dX11_makes_12 (by decide) ⟨by omega, by omega⟩ ⟨by omega, by omega⟩ (fun hb12 => ?_) (fun hb12 => ?_)
    · exfalso; omega
    · refine a_aloadn dX11_makes_15 rfl ?_
      refine a_iloadn dX11_makes_16 rfl ?_
      refine a_iload dX11_makes_17 rfl ?_
      refine a_iloadn dX11_makes_19 rfl ?_
      refine a_anyV (as := [_, _, _]) (q := 209) dX11_makes_20 mvX11_387 ⟨by decide, by decide⟩ (L209 L) rfl rfl rfl (Nat.le_of_ble_eq_true rfl) ⟨rfl, rfl⟩ ⟨by decide, by decide⟩ (m_X11_hears hP hb (hE.ri hI2) (by omega) (by omega) y0 y1) (fun x9 M1 hM1 => ?_)
      have hE2 := hE.tr hM1.1
      have hx0 := hM1.2
      rw [hE.hrr] at hx0
      have h01 := hrR01 Ma b i y
      refine a_if_ne (tgt := 29) dX11_makes_23 (by decide) ⟨by omega, by omega⟩ (fun hb23 => ?_) (fun hb23 => ?_)
      · have hI3 := hE2.ri hI2
        have qh := hI3.2.2.1.2.2.1 (6 * i + y) (by omega) (by omega)
        rw [show 36 * b + (6 * i + y) = 36 * b + 6 * i + y by omega] at qh
        refine a_iload dX11_makes_29 rfl ?_
        refine a_iconst dX11_makes_31 ?_
        refine a_iload dX11_makes_32 rfl ?_
        refine a_ishl dX11_makes_34 ?_
        refine a_ior dX11_makes_35 ?_
        refine c_istore (ls' := [_, _, _, _, _, _, _]) dX11_makes_36 (by decide) rfl rfl ?_
        refine a_bipush (w := 36) dX11_makes_38 (by decide) ?_
        refine a_iloadn dX11_makes_40 rfl ?_
        refine a_imul dX11_makes_41 ?_
        refine a_bipush (w := 6) dX11_makes_42 (by decide) ?_
        refine a_iload dX11_makes_44 rfl ?_
        refine a_imul dX11_makes_46 ?_
        refine a_iadd dX11_makes_47 ?_
        refine a_iloadn dX11_makes_48 rfl ?_
        refine a_iadd dX11_makes_49 ?_
        refine c_istore (ls' := [_, _, _, _, _, _, _]) dX11_makes_50 (by decide) rfl rfl ?_
        refine a_aloadn dX11_makes_52 rfl ?_
        refine a_getR (j' := 51) (y := 236) dX11_makes_53 flX11_94 rfl rfl (L209 L) (p209_51 hP) ?_
        refine a_iload dX11_makes_56 rfl ?_
        refine a_aloadn dX11_makes_58 rfl ?_
        refine a_getR (j' := 51) (y := 236) dX11_makes_59 flX11_94 rfl rfl (L209 L) (p209_51 hP) ?_
        refine a_iload dX11_makes_62 rfl ?_
        refine b_iald (N := 72) dX11_makes_64 (L236 L) (by decide) (by omega) (by omega) (fun hr64 => ?_)
        refine a_sipush (w := 999) dX11_makes_65 (by decide) ?_
        refine a_icmp_ge (tgt := 83) dX11_makes_68 (by decide) ⟨by omega, by omega⟩ ⟨by omega, by omega⟩ (fun hb68 => ?_) (fun hb68 => ?_)
        · refine a_sipush (w := 999) dX11_makes_83 (by decide) ?_
          refine a_iast (N := 72) dX11_makes_86 (L236 L) (by decide) (by decide) (by omega) (by omega) ⟨by omega, by omega⟩ ?_
          refine a_aloadn dX11_makes_87 rfl ?_
          refine a_getR (j' := 50) (y := 235) dX11_makes_88 flX11_91 rfl rfl (L209 L) (p209_50 hP) ?_
          refine a_bipush (w := 6) dX11_makes_91 (by decide) ?_
          refine a_iloadn dX11_makes_93 rfl ?_
          refine a_imul dX11_makes_94 ?_
          refine a_iload dX11_makes_95 rfl ?_
          refine a_iadd dX11_makes_97 ?_
          refine a_iloadn dX11_makes_98 rfl ?_
          refine a_iast (N := 12) dX11_makes_99 (L235 L) (by decide) (by decide) (by omega) (by omega) ⟨by omega, by omega⟩ ?_
          first
          | (have ehr : hearR M1 b i y kd = sm (sm M1 236 (36 * b + 6 * i + y) (M1 236 (36 * b + 6 * i + y) + 1)) 235 (6 * b + i) kd := by unfold hearR; rw [if_pos (by omega)]
             rw [← ehr])
          | (have ehr : hearR M1 b i y kd = sm (sm M1 236 (36 * b + 6 * i + y) 999) 235 (6 * b + i) kd := by unfold hearR; rw [if_neg (by omega)]
             rw [← ehr])
          have hE3 : Es (hearR Ma b i y kd) (hearR M1 b i y kd) := hE2.hear b i y kd
          have hI4 : RI (hearR Ma b i y kd) b := (hearR_Fb Ma kd ⟨by omega, by omega⟩ ⟨y0, y1⟩).ri hI2 (hearR_I hI2.2.2.1 ⟨by omega, by omega⟩ ⟨y0, y1⟩)
          have hI5 := hE3.ri hI4
          refine a_aloadn dX11_makes_100 rfl ?_
          refine a_iloadn dX11_makes_101 rfl ?_
          refine a_iload dX11_makes_102 rfl ?_
          refine a_iloadn dX11_makes_104 rfl ?_
          refine a_iloadn dX11_makes_105 rfl ?_
          refine a_relVv (as := [_, _, _, _]) (q := 209) dX11_makes_106 mvX11_368 ⟨by decide, by decide⟩ (L209 L) rfl rfl rfl (Nat.le_of_ble_eq_true rfl) ⟨rfl, rfl⟩ ⟨by decide, by decide⟩ (m_layNames hP hb hI5 (by omega) (by omega) y0 y1 hk) (fun M2 hM2 => ?_)
          have hE4 : Es (hearR M1 b i y kd) M2 := fun k j a1 _ _ => hM2.1 k j a1
          have w1 := hI5.2.2.1.1 i (by omega) (by omega)
          have w2 := hI5.2.2.1.1 y y0 y1
          have w3 := hI5.2.2.1.2.1 i (by omega) (by omega)
          have w4 := hI5.2.2.1.2.2.1 (6 * i + y) (by omega) (by omega)
          rw [show 36 * b + (6 * i + y) = 36 * b + 6 * i + y by omega] at w4
          have w6 := kmM_in hI5.1 b i
          have w7 := hI5.2.2.1.2.2.2
          have w8 := iabs_99 w1 w2
          have hrl : rlf M2 1 (M2 231) = rlf (hearR M1 b i y kd) 1 (nmf (hearR M1 b i y kd 233 (6 * b + i)) (hearR M1 b i y kd 234 (6 * b + i)) (iabs (hearR M1 b i y kd 233 (6 * b + i) - hearR M1 b i y kd 233 (6 * b + y))) kd (hearR M1 b i y kd 236 (36 * b + 6 * i + y)) (kmM (hearR M1 b i y kd) b i) (hearR M1 b i y kd 238 b)) := by
            rw [hE4.rlq]
            exact rlf_cong hI5.2.1.2.1 hM2.2
          refine a_aloadn dX11_makes_109 rfl ?_
          refine a_getR (j' := 51) (y := 236) dX11_makes_110 flX11_94 rfl rfl (L209 L) (p209_51 hP) ?_
          refine a_iload dX11_makes_113 rfl ?_
          refine b_iald (N := 72) dX11_makes_115 (L236 L) (by decide) (by omega) (by omega) (fun hr115 => ?_)
          have e115 : M2 236 (36 * b + 6 * i + y) = hearR Ma b i y kd 236 (36 * b + 6 * i + y) := by rw [hM2.1 _ _ (by decide), hE3 _ _ (by decide) (by decide) (by omega)]
          rw [e115] at hr115
          rw [e115]
          refine a_aloadn dX11_makes_116 rfl ?_
          refine a_iconst dX11_makes_117 ?_
          refine a_aloadn dX11_makes_118 rfl ?_
          refine a_getR (j' := 21) (y := 213) dX11_makes_119 flX11_24 rfl rfl (L209 L) (p209_21 hP) ?_
          refine a_iconst dX11_makes_122 ?_
          refine b_iald (N := 8) dX11_makes_123 (L213 L) (by decide) (by omega) (by omega) (fun hr123 => ?_)
          have e123 : M2 213 1 = hearR M1 b i y kd 213 1 := hM2.1 _ _ (by decide)
          rw [e123] at hr123
          rw [e123]
          refine a_iconst dX11_makes_124 ?_
          refine a_bipush (w := 99) dX11_makes_125 (by decide) ?_
          refine a_anyV (as := [_, _, _, _]) (q := 209) dX11_makes_127 mvX11_372 ⟨by decide, by decide⟩ (L209 L) rfl rfl rfl (Nat.le_of_ble_eq_true rfl) ⟨rfl, rfl⟩ ⟨by decide, by decide⟩ (m_X11_boundLaw hP ⟨by decide, by decide⟩ (hE4.lri hI5.2.1.2.1) (nmf_lim3 hM2.2 w1 w3 w8 hk w4 w6 w7) ⟨by decide, by decide⟩ ⟨by decide, by decide⟩) (fun x8 M3 hM3 => ?_)
          have hx := hM3.2
          rw [hrl] at hx
          have hnd : x8 = ndR (hearR Ma b i y kd) b i y kd := by rw [hx]; exact hE3.ndr b i y kd
          have hE5 : Es (hearR Ma b i y kd) M3 := (hE3.tr hE4).tr hM3.1.es
          have qw := hI5.1.2.2.2.2.2.2.2.2.1
          have qx := lawE_in (r := rlf (hearR M1 b i y kd) 1 (nmf (hearR M1 b i y kd 233 (6 * b + i)) (hearR M1 b i y kd 234 (6 * b + i)) (iabs (hearR M1 b i y kd 233 (6 * b + i) - hearR M1 b i y kd 233 (6 * b + y))) kd (hearR M1 b i y kd 236 (36 * b + 6 * i + y)) (kmM (hearR M1 b i y kd) b i) (hearR M1 b i y kd 238 b))) (w := hearR M1 b i y kd 213 1) (lo := 1) (hi := 99) (by decide)
          refine a_icmp_lt (tgt := 141) dX11_makes_130 (by decide) ⟨by omega, by omega⟩ ⟨by omega, by omega⟩ (fun hb130 => ?_) (fun hb130 => ?_)
          · refine c_iinc (ls' := [_, _, _, _, _, _, _]) dX11_makes_141 rfl (by decide) rfl rfl ?_
            refine a_goto (tgt := 6) dX11_makes_144 (by decide) ?_
            refine a_forget [6] (ls' := [_, _, _, _, _, _, none]) rfl ?_
            simp only [sdR]
            rw [if_neg (by omega)]
            have qf : learnR Ma b i y kd 209 12 = Ma 209 12 := (learnR_Fb (b := b) Ma kd ⟨by omega, by omega⟩ ⟨y0, y1⟩).c (by decide)
            refine ih _ _ _ (learnR Ma b i y kd) (by omega) (by omega) ?_ ((learnR_Fb Ma kd ⟨by omega, by omega⟩ ⟨y0, y1⟩).ri hI2 (learnR_I hI2.2.2.1 ⟨by omega, by omega⟩ ⟨y0, y1⟩))
            unfold learnR
            first
            | (rw [if_neg (by omega)]; exact hE5)
            | (rw [if_pos (by omega)]; exact hE5.sm2 _ _ _)
          · refine a_aloadn dX11_makes_133 rfl ?_
            refine a_getR (j' := 52) (y := 237) dX11_makes_134 flX11_97 rfl rfl (L209 L) (p209_52 hP) ?_
            refine a_iload dX11_makes_137 rfl ?_
            refine a_iconst dX11_makes_139 ?_
            refine a_zast (N := 72) dX11_makes_140 (L237 L) (by decide) (by decide) (by omega) (by omega) (Or.inr rfl) ?_
            refine c_iinc (ls' := [_, _, _, _, _, _, _]) dX11_makes_141 rfl (by decide) rfl rfl ?_
            refine a_goto (tgt := 6) dX11_makes_144 (by decide) ?_
            refine a_forget [6] (ls' := [_, _, _, _, _, _, none]) rfl ?_
            simp only [sdR]
            rw [if_neg (by omega)]
            have qf : learnR Ma b i y kd 209 12 = Ma 209 12 := (learnR_Fb (b := b) Ma kd ⟨by omega, by omega⟩ ⟨y0, y1⟩).c (by decide)
            refine ih _ _ _ (learnR Ma b i y kd) (by omega) (by omega) ?_ ((learnR_Fb Ma kd ⟨by omega, by omega⟩ ⟨y0, y1⟩).ri hI2 (learnR_I hI2.2.2.1 ⟨by omega, by omega⟩ ⟨y0, y1⟩))
            unfold learnR
            first
            | (rw [if_neg (by omega)]; exact hE5)
            | (rw [if_pos (by omega)]; exact hE5.sm2 _ _ _)
        · refine a_aloadn dX11_makes_71 rfl ?_
          refine a_getR (j' := 51) (y := 236) dX11_makes_72 flX11_94 rfl rfl (L209 L) (p209_51 hP) ?_
          refine a_iload dX11_makes_75 rfl ?_
          refine b_iald (N := 72) dX11_makes_77 (L236 L) (by decide) (by omega) (by omega) (fun hr77 => ?_)
          refine a_iconst dX11_makes_78 ?_
          refine a_iadd dX11_makes_79 ?_
          refine a_goto (tgt := 86) dX11_makes_80 (by decide) ?_
          refine a_iast (N := 72) dX11_makes_86 (L236 L) (by decide) (by decide) (by omega) (by omega) ⟨by omega, by omega⟩ ?_
          refine a_aloadn dX11_makes_87 rfl ?_
          refine a_getR (j' := 50) (y := 235) dX11_makes_88 flX11_91 rfl rfl (L209 L) (p209_50 hP) ?_
          refine a_bipush (w := 6) dX11_makes_91 (by decide) ?_
          refine a_iloadn dX11_makes_93 rfl ?_
          refine a_imul dX11_makes_94 ?_
          refine a_iload dX11_makes_95 rfl ?_
          refine a_iadd dX11_makes_97 ?_
          refine a_iloadn dX11_makes_98 rfl ?_
          refine a_iast (N := 12) dX11_makes_99 (L235 L) (by decide) (by decide) (by omega) (by omega) ⟨by omega, by omega⟩ ?_
          first
          | (have ehr : hearR M1 b i y kd = sm (sm M1 236 (36 * b + 6 * i + y) (M1 236 (36 * b + 6 * i + y) + 1)) 235 (6 * b + i) kd := by unfold hearR; rw [if_pos (by omega)]
             rw [← ehr])
          | (have ehr : hearR M1 b i y kd = sm (sm M1 236 (36 * b + 6 * i + y) 999) 235 (6 * b + i) kd := by unfold hearR; rw [if_neg (by omega)]
             rw [← ehr])
          have hE3 : Es (hearR Ma b i y kd) (hearR M1 b i y kd) := hE2.hear b i y kd
          have hI4 : RI (hearR Ma b i y kd) b := (hearR_Fb Ma kd ⟨by omega, by omega⟩ ⟨y0, y1⟩).ri hI2 (hearR_I hI2.2.2.1 ⟨by omega, by omega⟩ ⟨y0, y1⟩)
          have hI5 := hE3.ri hI4
          refine a_aloadn dX11_makes_100 rfl ?_
          refine a_iloadn dX11_makes_101 rfl ?_
          refine a_iload dX11_makes_102 rfl ?_
          refine a_iloadn dX11_makes_104 rfl ?_
          refine a_iloadn dX11_makes_105 rfl ?_
          refine a_relVv (as := [_, _, _, _]) (q := 209) dX11_makes_106 mvX11_368 ⟨by decide, by decide⟩ (L209 L) rfl rfl rfl (Nat.le_of_ble_eq_true rfl) ⟨rfl, rfl⟩ ⟨by decide, by decide⟩ (m_layNames hP hb hI5 (by omega) (by omega) y0 y1 hk) (fun M2 hM2 => ?_)
          have hE4 : Es (hearR M1 b i y kd) M2 := fun k j a1 _ _ => hM2.1 k j a1
          have w1 := hI5.2.2.1.1 i (by omega) (by omega)
          have w2 := hI5.2.2.1.1 y y0 y1
          have w3 := hI5.2.2.1.2.1 i (by omega) (by omega)
          have w4 := hI5.2.2.1.2.2.1 (6 * i + y) (by omega) (by omega)
          rw [show 36 * b + (6 * i + y) = 36 * b + 6 * i + y by omega] at w4
          have w6 := kmM_in hI5.1 b i
          have w7 := hI5.2.2.1.2.2.2
          have w8 := iabs_99 w1 w2
          have hrl : rlf M2 1 (M2 231) = rlf (hearR M1 b i y kd) 1 (nmf (hearR M1 b i y kd 233 (6 * b + i)) (hearR M1 b i y kd 234 (6 * b + i)) (iabs (hearR M1 b i y kd 233 (6 * b + i) - hearR M1 b i y kd 233 (6 * b + y))) kd (hearR M1 b i y kd 236 (36 * b + 6 * i + y)) (kmM (hearR M1 b i y kd) b i) (hearR M1 b i y kd 238 b)) := by
            rw [hE4.rlq]
            exact rlf_cong hI5.2.1.2.1 hM2.2
          refine a_aloadn dX11_makes_109 rfl ?_
          refine a_getR (j' := 51) (y := 236) dX11_makes_110 flX11_94 rfl rfl (L209 L) (p209_51 hP) ?_
          refine a_iload dX11_makes_113 rfl ?_
          refine b_iald (N := 72) dX11_makes_115 (L236 L) (by decide) (by omega) (by omega) (fun hr115 => ?_)
          have e115 : M2 236 (36 * b + 6 * i + y) = hearR Ma b i y kd 236 (36 * b + 6 * i + y) := by rw [hM2.1 _ _ (by decide), hE3 _ _ (by decide) (by decide) (by omega)]
          rw [e115] at hr115
          rw [e115]
          refine a_aloadn dX11_makes_116 rfl ?_
          refine a_iconst dX11_makes_117 ?_
          refine a_aloadn dX11_makes_118 rfl ?_
          refine a_getR (j' := 21) (y := 213) dX11_makes_119 flX11_24 rfl rfl (L209 L) (p209_21 hP) ?_
          refine a_iconst dX11_makes_122 ?_
          refine b_iald (N := 8) dX11_makes_123 (L213 L) (by decide) (by omega) (by omega) (fun hr123 => ?_)
          have e123 : M2 213 1 = hearR M1 b i y kd 213 1 := hM2.1 _ _ (by decide)
          rw [e123] at hr123
          rw [e123]
          refine a_iconst dX11_makes_124 ?_
          refine a_bipush (w := 99) dX11_makes_125 (by decide) ?_
          refine a_anyV (as := [_, _, _, _]) (q := 209) dX11_makes_127 mvX11_372 ⟨by decide, by decide⟩ (L209 L) rfl rfl rfl (Nat.le_of_ble_eq_true rfl) ⟨rfl, rfl⟩ ⟨by decide, by decide⟩ (m_X11_boundLaw hP ⟨by decide, by decide⟩ (hE4.lri hI5.2.1.2.1) (nmf_lim3 hM2.2 w1 w3 w8 hk w4 w6 w7) ⟨by decide, by decide⟩ ⟨by decide, by decide⟩) (fun x8 M3 hM3 => ?_)
          have hx := hM3.2
          rw [hrl] at hx
          have hnd : x8 = ndR (hearR Ma b i y kd) b i y kd := by rw [hx]; exact hE3.ndr b i y kd
          have hE5 : Es (hearR Ma b i y kd) M3 := (hE3.tr hE4).tr hM3.1.es
          have qw := hI5.1.2.2.2.2.2.2.2.2.1
          have qx := lawE_in (r := rlf (hearR M1 b i y kd) 1 (nmf (hearR M1 b i y kd 233 (6 * b + i)) (hearR M1 b i y kd 234 (6 * b + i)) (iabs (hearR M1 b i y kd 233 (6 * b + i) - hearR M1 b i y kd 233 (6 * b + y))) kd (hearR M1 b i y kd 236 (36 * b + 6 * i + y)) (kmM (hearR M1 b i y kd) b i) (hearR M1 b i y kd 238 b))) (w := hearR M1 b i y kd 213 1) (lo := 1) (hi := 99) (by decide)
          refine a_icmp_lt (tgt := 141) dX11_makes_130 (by decide) ⟨by omega, by omega⟩ ⟨by omega, by omega⟩ (fun hb130 => ?_) (fun hb130 => ?_)
          · refine c_iinc (ls' := [_, _, _, _, _, _, _]) dX11_makes_141 rfl (by decide) rfl rfl ?_
            refine a_goto (tgt := 6) dX11_makes_144 (by decide) ?_
            refine a_forget [6] (ls' := [_, _, _, _, _, _, none]) rfl ?_
            simp only [sdR]
            rw [if_neg (by omega)]
            have qf : learnR Ma b i y kd 209 12 = Ma 209 12 := (learnR_Fb (b := b) Ma kd ⟨by omega, by omega⟩ ⟨y0, y1⟩).c (by decide)
            refine ih _ _ _ (learnR Ma b i y kd) (by omega) (by omega) ?_ ((learnR_Fb Ma kd ⟨by omega, by omega⟩ ⟨y0, y1⟩).ri hI2 (learnR_I hI2.2.2.1 ⟨by omega, by omega⟩ ⟨y0, y1⟩))
            unfold learnR
            first
            | (rw [if_neg (by omega)]; exact hE5)
            | (rw [if_pos (by omega)]; exact hE5.sm2 _ _ _)
          · refine a_aloadn dX11_makes_133 rfl ?_
            refine a_getR (j' := 52) (y := 237) dX11_makes_134 flX11_97 rfl rfl (L209 L) (p209_52 hP) ?_
            refine a_iload dX11_makes_137 rfl ?_
            refine a_iconst dX11_makes_139 ?_
            refine a_zast (N := 72) dX11_makes_140 (L237 L) (by decide) (by decide) (by omega) (by omega) (Or.inr rfl) ?_
            refine c_iinc (ls' := [_, _, _, _, _, _, _]) dX11_makes_141 rfl (by decide) rfl rfl ?_
            refine a_goto (tgt := 6) dX11_makes_144 (by decide) ?_
            refine a_forget [6] (ls' := [_, _, _, _, _, _, none]) rfl ?_
            simp only [sdR]
            rw [if_neg (by omega)]
            have qf : learnR Ma b i y kd 209 12 = Ma 209 12 := (learnR_Fb (b := b) Ma kd ⟨by omega, by omega⟩ ⟨y0, y1⟩).c (by decide)
            refine ih _ _ _ (learnR Ma b i y kd) (by omega) (by omega) ?_ ((learnR_Fb Ma kd ⟨by omega, by omega⟩ ⟨y0, y1⟩).ri hI2 (learnR_I hI2.2.2.1 ⟨by omega, by omega⟩ ⟨y0, y1⟩))
            unfold learnR
            first
            | (rw [if_neg (by omega)]; exact hE5)
            | (rw [if_pos (by omega)]; exact hE5.sm2 _ _ _)
      · refine a_goto (tgt := 141) dX11_makes_26 (by decide) ?_
        refine c_iinc (ls' := [_, _, _, _, _, _, _]) dX11_makes_141 rfl (by decide) rfl rfl ?_
        refine a_goto (tgt := 6) dX11_makes_144 (by decide) ?_
        simp only [sdR]
        rw [if_pos (by omega)]
        exact ih _ _ _ _ (by omega) (by omega) hE2 hI2

set_option maxRecDepth 100000 in
set_option maxHeartbeats 4000000 in
theorem m_X11_makes {G : zG} {l : Launch} {L : Nat} {P : zP} {M : zM} {Ma : zM} {b y kd : Int} (hP : PFok P) (hb : b = 0 ∨ b = 1) (hE : Es Ma M) (hi : RI Ma b) (y0 : 0 ≤ y) (y1 : y < 6) (hk : 0 ≤ kd ∧ kd ≤ 9) : AM G l yX11_makes mdX11_makes [aR 209, aI b, aI y, aI kd] (LAY L) P M (zany (LAY L) P (fun x M' => Es (sdR b y kd (Ma 209 12).toNat 0 Ma 0).1 M' ∧ x = (sdR b y kd (Ma 209 12).toNat 0 Ma 0).2)) := by
  refine AM.go [some (aR 209), some (aI b), some (aI y), some (aI kd), none, none, none] rfl (Nat.le_of_ble_eq_true rfl) ?_ (by decide) rfl rfl
  refine a_iconst dX11_makes_0 ?_
  refine c_istore (ls' := [_, _, _, _, _, _, _]) dX11_makes_1 (by decide) rfl rfl ?_
  refine a_iconst dX11_makes_3 ?_
  refine c_istore (ls' := [_, _, _, _, _, _, _]) dX11_makes_4 (by decide) rfl rfl ?_
  have q1 := hi.1.1
  exact lpX11_makes hP hb y0 y1 hk (Ma 209 12).toNat 0 0 M Ma (by omega) (by omega) hE hi
