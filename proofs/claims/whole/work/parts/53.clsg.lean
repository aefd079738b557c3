set_option maxRecDepth 100000 in
set_option maxHeartbeats 4000000 in
theorem lpX10_whose {G : zG} {l : Launch} {L : Nat} {P : zP} {M : zM} {t : Nat} (hv : CV L P M t) (hn : NI M) : ∀ (n : Nat) (i acc : Int) (g0 : 0 ≤ i) (g1 : i + n = M t 2), AW G l mdX10_whose (zone (LAY L) P M (fun r => r = zbits (fun i => zall (nok M t i) (M 201 6).toNat 0) n i acc)) 11 [some (aR 2), some (aI acc), some (aI i)] [] (LAY L) P M 0 0 := by
  intro n
  induction n with
  | zero =>
    intro i acc g0 g1
    obtain ⟨hc, hi, hxt, hnr, hhr⟩ := id hv
    obtain ⟨hP, hTp, hT, ht, hS, ha⟩ := id hc
    have q1 := hi.1.1
    have sg := st_guess L hP
    have sn := st_now L hP
    refine a_iloadn dX10_whose_11 rfl ?_
    refine a_aloadn dX10_whose_12 rfl ?_
    refine a_getR (j' := 2) (y := t) dX10_whose_13 flX10_16 rfl rfl (L2 L) hxt ?_
    refine b_getI (j' := 2) dX10_whose_16 flX10_118 rfl rfl hT.1.2.1 (fun hr16 => ?_)
    refine a_icmp_ge (tgt := 49) dX10_whose_19 (by decide) ⟨by omega, by omega⟩ ⟨by omega, by omega⟩ (fun hb19 => ?_) (fun hb19 => ?_)
    · refine a_iloadn dX10_whose_49 rfl ?_
      exact a_ireturn dX10_whose_50 rfl rfl rfl (zone_i rfl)
    · exfalso; omega
  | succ n ih =>
    intro i acc g0 g1
    obtain ⟨hc, hi, hxt, hnr, hhr⟩ := id hv
    obtain ⟨hP, hTp, hT, ht, hS, ha⟩ := id hc
    have q1 := hi.1.1
    have sg := st_guess L hP
    have sn := st_now L hP
    refine a_iloadn dX10_whose_11 rfl ?_
    refine a_aloadn dX10_whose_12 rfl ?_
    refine a_getR (j' := 2) (y := t) dX10_whose_13 flX10_16 rfl rfl (L2 L) hxt ?_
    refine b_getI (j' := 2) dX10_whose_16 flX10_118 rfl rfl hT.1.2.1 (fun hr16 => ?_)
    refine a_icmp_ge (tgt := 49) dX10_whose_19 (by decide) ⟨by omega, by omega⟩ ⟨by omega, by omega⟩ (fun hb19 => ?_) (fun hb19 => ?_)
    · exfalso; omega
    · refine a_aloadn dX10_whose_22 rfl ?_
      refine a_getR (j' := 12) (y := 201) dX10_whose_23 flX10_71 rfl rfl (L2 L) (p2_12 hP) ?_
      refine a_aloadn dX10_whose_26 rfl ?_
      refine a_getR (j' := 2) (y := t) dX10_whose_27 flX10_16 rfl rfl (L2 L) hxt ?_
      refine a_iloadn dX10_whose_30 rfl ?_
      refine a_oneV (as := [_, _]) (q := 201) dX10_whose_31 mvX10_327 ⟨by decide, by decide⟩ (L201 L) rfl rfl rfl (Nat.le_of_ble_eq_true rfl) ⟨rfl, rfl⟩ ⟨by decide, by decide⟩ (m_X2_mayBe hP hn hT hi.1 ⟨by omega, by omega⟩) (fun x31 hx31 => ?_)
      refine a_if_eq (tgt := 43) dX10_whose_34 (by decide) (by have q9 := zall01 (nok M t i) (M 201 6).toNat 0; exact ⟨by omega, by omega⟩) (fun hb34 => ?_) (fun hb34 => ?_)
      · refine c_iinc (ls' := [_, _, _]) dX10_whose_43 rfl (by decide) rfl rfl ?_
        refine a_goto (tgt := 11) dX10_whose_46 (by decide) ?_
        simp only [zbits]
        first
        | (rw [if_pos (by omega)]; exact ih _ _ (by omega) (by omega))
        | (rw [if_neg (by omega)]; exact ih _ _ (by omega) (by omega))
      · refine a_iloadn dX10_whose_37 rfl ?_
        refine a_iconst dX10_whose_38 ?_
        refine a_iloadn dX10_whose_39 rfl ?_
        refine a_ishl dX10_whose_40 ?_
        refine a_ior dX10_whose_41 ?_
        refine c_istoren (ls' := [_, _, _]) dX10_whose_42 (by decide) rfl rfl ?_
        refine c_iinc (ls' := [_, _, _]) dX10_whose_43 rfl (by decide) rfl rfl ?_
        refine a_goto (tgt := 11) dX10_whose_46 (by decide) ?_
        simp only [zbits]
        first
        | (rw [if_pos (by omega)]; exact ih _ _ (by omega) (by omega))
        | (rw [if_neg (by omega)]; exact ih _ _ (by omega) (by omega))

set_option maxRecDepth 100000 in
set_option maxHeartbeats 4000000 in
theorem m_X10_whose {G : zG} {l : Launch} {L : Nat} {P : zP} {M : zM} {t : Nat} (hv : CV L P M t) (hn : NI M)  : AM G l yX10_whose mdX10_whose [aR 2] (LAY L) P M (zany (LAY L) P (fun r M' => Cn t M M' ∧ r = whC M t)) := by
  obtain ⟨hc, hi, hxt, hnr, hhr⟩ := id hv
  obtain ⟨hP, hTp, hT, ht, hS, ha⟩ := id hc
  have q1 := hi.1.1
  have sg := st_guess L hP
  have sn := st_now L hP
  have qn := hn.1
  refine AM.go [some (aR 2), none, none] rfl (Nat.le_of_ble_eq_true rfl) ?_ (by decide) rfl rfl
  refine a_aloadn dX10_whose_0 rfl ?_
  refine a_getR (j' := 12) (y := 201) dX10_whose_1 flX10_71 rfl rfl (L2 L) (p2_12 hP) ?_
  refine a_relVv (as := []) (q := 201) dX10_whose_4 mvX10_324 ⟨by decide, by decide⟩ (L201 L) rfl rfl rfl (Nat.le_of_ble_eq_true rfl) ⟨rfl, rfl⟩ ⟨by decide, by decide⟩ (m_X2_settle hP hn) (fun M1 hM1 => ?_)
  refine a_iconst dX10_whose_7 ?_
  refine c_istoren (ls' := [_, _, _]) dX10_whose_8 (by decide) rfl rfl ?_
  refine a_iconst dX10_whose_9 ?_
  refine c_istoren (ls' := [_, _, _]) dX10_whose_10 (by decide) rfl rfl ?_
  have hq : Cn t M M1 := ⟨fun k hk => hM1.1 k (by omega), by rw [hM1.1 50 (by decide)]; exact hnr⟩
  have hv1 := hq.cv hv
  refine AW.mono2 (lpX10_whose hv1 (NI_of (fun k _ _ => hM1.1 k (by omega)) hn) (M t 2).toNat 0 0 (by omega) (by rw [hM1.1 t (by omega)]; omega)) ?_
  rintro r lay P' M' ⟨z1, z2, rfl, x, z3, z4⟩
  refine ⟨z1, z2, x, z3, hq, ?_⟩
  rw [z4]
  unfold whC
  rw [hM1.1 201 (by decide)]
  refine zbits_cong _ _ _ (fun j j0 j1 => ?_)
  rw [zall_cong (f := nok M' t j) (g := nokF (cntF M) M t j) (M 201 6).toNat 0 (fun q q0 q1 => by rw [nok_eq (c := cntF M) (by omega) (fun k hk => hM1.1 k (by omega)) (hM1.2 q q0 (by omega))])]

set_option maxRecDepth 100000 in
set_option maxHeartbeats 4000000 in
theorem lpX10_ask {G : zG} {l : Launch} {L : Nat} {P : zP} {M : zM} {t : Nat} {w wh : Int} (hv : CV L P M t) (rw9 : inR w) : ∀ (n : Nat) (x best few : Int) (g0 : 1 ≤ x) (g1 : x + n = 24) (gf : 0 ≤ few ∧ few ≤ 6), AW G l mdX10_ask (zone (LAY L) P M (fun r => r = if w = 0 then (akF (maC M t wh) n x best few).1 else (akF (maC M t wh) n x best few).2)) 32 [some (aR 2), some (aI w), some (aI wh), some (aI best), some (aI few), some (aI x), none] [] (LAY L) P M 0 0 := by
  intro n
  induction n with
  | zero =>
    intro x best few g0 g1 gf
    obtain ⟨hc, hi, hxt, hnr, hhr⟩ := id hv
    obtain ⟨hP, hTp, hT, ht, hS, ha⟩ := id hc
    have q1 := hi.1.1
    have sg := st_guess L hP
    have sn := st_now L hP
    refine a_iload dX10_ask_32 rfl ?_
    refine a_bipush (w := 23) dX10_ask_34 (by decide) ?_
    refine a_icmp_gt (tgt := 71) dX10_ask_36 (by decide) ⟨by omega, by omega⟩ ⟨by omega, by omega⟩ (fun hb36 => ?_) (fun hb36 => ?_)
    · refine a_iloadn dX10_ask_71 rfl ?_
      refine a_if_ne (tgt := 79) dX10_ask_72 (by decide) ⟨by omega, by omega⟩ (fun hb72 => ?_) (fun hb72 => ?_)
      · refine a_iload dX10_ask_79 rfl ?_
        exact a_ireturn dX10_ask_81 rfl rfl rfl (zone_i (by show _ = if w = 0 then best else few; first | (rw [if_pos (by omega)]; done) | (rw [if_neg (by omega)]; done)))
      · refine a_iloadn dX10_ask_75 rfl ?_
        refine a_goto (tgt := 81) dX10_ask_76 (by decide) ?_
        exact a_ireturn dX10_ask_81 rfl rfl rfl (zone_i (by show _ = if w = 0 then best else few; first | (rw [if_pos (by omega)]; done) | (rw [if_neg (by omega)]; done)))
    · exfalso; omega
  | succ n ih =>
    intro x best few g0 g1 gf
    obtain ⟨hc, hi, hxt, hnr, hhr⟩ := id hv
    obtain ⟨hP, hTp, hT, ht, hS, ha⟩ := id hc
    have q1 := hi.1.1
    have sg := st_guess L hP
    have sn := st_now L hP
    refine a_iload dX10_ask_32 rfl ?_
    refine a_bipush (w := 23) dX10_ask_34 (by decide) ?_
    refine a_icmp_gt (tgt := 71) dX10_ask_36 (by decide) ⟨by omega, by omega⟩ ⟨by omega, by omega⟩ (fun hb36 => ?_) (fun hb36 => ?_)
    · exfalso; omega
    · refine a_aloadn dX10_ask_39 rfl ?_
      refine a_getR (j' := 2) (y := t) dX10_ask_40 flX10_16 rfl rfl (L2 L) hxt ?_
      refine a_iloadn dX10_ask_43 rfl ?_
      refine a_iload dX10_ask_44 rfl ?_
      refine a_callV (as := [_, _]) (q := t) dX10_ask_46 mvX10_334 ⟨by decide, by decide⟩ hT.1.2.1 rfl rfl rfl (Nat.le_of_ble_eq_true rfl) ⟨rfl, rfl⟩ ⟨by decide, by decide⟩ (m_X8_mostAlike hT hi.1 ⟨by omega, by omega⟩) ?_
      have q7 := maC_in hi.1 wh x
      refine a_stk (st' := [aI (maC M t wh x)]) rfl ?_
      refine c_istore (ls' := [_, _, _, _, _, _, _]) dX10_ask_49 (by decide) rfl rfl ?_
      refine a_iload dX10_ask_51 rfl ?_
      refine a_iload dX10_ask_53 rfl ?_
      refine a_icmp_ge (tgt := 65) dX10_ask_55 (by decide) ⟨by omega, by omega⟩ ⟨by omega, by omega⟩ (fun hb55 => ?_) (fun hb55 => ?_)
      · refine c_iinc (ls' := [_, _, _, _, _, _, _]) dX10_ask_65 rfl (by decide) rfl rfl ?_
        refine a_goto (tgt := 32) dX10_ask_68 (by decide) ?_
        refine a_forget [6] (ls' := [_, _, _, _, _, _, none]) rfl ?_
        first
        | (have eb : akF (maC M t wh) (n + 1) x best few = akF (maC M t wh) n (x + 1) x (maC M t wh x) := by simp only [akF]; rw [if_pos (by omega)]
           rw [eb]; exact ih _ _ _ (by omega) (by omega) (by omega))
        | (have eb : akF (maC M t wh) (n + 1) x best few = akF (maC M t wh) n (x + 1) best few := by simp only [akF]; rw [if_neg (by omega)]
           rw [eb]; exact ih _ _ _ (by omega) (by omega) gf)
      · refine a_iload dX10_ask_58 rfl ?_
        refine c_istore (ls' := [_, _, _, _, _, _, _]) dX10_ask_60 (by decide) rfl rfl ?_
        refine a_iload dX10_ask_62 rfl ?_
        refine c_istoren (ls' := [_, _, _, _, _, _, _]) dX10_ask_64 (by decide) rfl rfl ?_
        refine c_iinc (ls' := [_, _, _, _, _, _, _]) dX10_ask_65 rfl (by decide) rfl rfl ?_
        refine a_goto (tgt := 32) dX10_ask_68 (by decide) ?_
        refine a_forget [6] (ls' := [_, _, _, _, _, _, none]) rfl ?_
        first
        | (have eb : akF (maC M t wh) (n + 1) x best few = akF (maC M t wh) n (x + 1) x (maC M t wh x) := by simp only [akF]; rw [if_pos (by omega)]
           rw [eb]; exact ih _ _ _ (by omega) (by omega) (by omega))
        | (have eb : akF (maC M t wh) (n + 1) x best few = akF (maC M t wh) n (x + 1) best few := by simp only [akF]; rw [if_neg (by omega)]
           rw [eb]; exact ih _ _ _ (by omega) (by omega) gf)

set_option maxRecDepth 100000 in
set_option maxHeartbeats 4000000 in
theorem m_X10_ask {G : zG} {l : Launch} {L : Nat} {P : zP} {M : zM} {t : Nat} {w : Int} (hv : CV L P M t) (hn : NI M) (rw : inR w) : AM G l yX10_ask mdX10_ask [aR 2, aI w] (LAY L) P M (zany (LAY L) P (fun r M' => Cn t M M' ∧ ((¬ (0 ≤ w ∧ w ≤ 1)) ∧ r = -1 ∨ ¬ (¬ (0 ≤ w ∧ w ≤ 1)) ∧ r = if w = 0 then (akF (maC M t (whC M t)) 23 1 0 (maC M t (whC M t) 0)).1 else (akF (maC M t (whC M t)) 23 1 0 (maC M t (whC M t) 0)).2))) := by
  obtain ⟨hc, hi, hxt, hnr, hhr⟩ := id hv
  obtain ⟨hP, hTp, hT, ht, hS, ha⟩ := id hc
  have q1 := hi.1.1
  have sg := st_guess L hP
  have sn := st_now L hP
  refine AM.go [some (aR 2), some (aI w), none, none, none, none, none] rfl (Nat.le_of_ble_eq_true rfl) ?_ (by decide) rfl rfl
  refine a_iloadn dX10_ask_0 rfl ?_
  refine a_iconst dX10_ask_1 ?_
  refine a_iconst dX10_ask_2 ?_
  refine a_oneS (as := [_, _, _]) dX10_ask_3 mvX10_167 ⟨by decide, by decide⟩ rfl rfl (Nat.le_of_ble_eq_true rfl) ⟨rfl, rfl⟩ ⟨by decide, by decide⟩ (m_X10_isWithin ⟨by omega, by omega⟩ ⟨by omega, by omega⟩ ⟨by omega, by omega⟩) (fun x3 hx3 => ?_)
  refine a_if_ne (tgt := 11) dX10_ask_6 (by decide) ⟨by omega, by omega⟩ (fun hb6 => ?_) (fun hb6 => ?_)
  · refine a_aloadn dX10_ask_11 rfl ?_
    refine a_anyV (as := []) (q := 2) dX10_ask_12 mvX10_331 ⟨by decide, by decide⟩ (L2 L) rfl rfl rfl (Nat.le_of_ble_eq_true rfl) ⟨rfl, rfl⟩ ⟨by decide, by decide⟩ (m_X10_whose hv hn) (fun x9 M1 hM1 => ?_)
    have hv1 := hM1.1.cv hv
    refine c_istoren (ls' := [_, _, _, _, _, _, _]) dX10_ask_15 (by decide) rfl rfl ?_
    refine a_iconst dX10_ask_16 ?_
    refine c_istoren (ls' := [_, _, _, _, _, _, _]) dX10_ask_17 (by decide) rfl rfl ?_
    refine a_aloadn dX10_ask_18 rfl ?_
    refine a_getR (j' := 2) (y := t) dX10_ask_19 flX10_16 rfl rfl (L2 L) hxt ?_
    refine a_iloadn dX10_ask_22 rfl ?_
    refine a_iconst dX10_ask_23 ?_
    refine a_callV (as := [_, _]) (q := t) dX10_ask_24 mvX10_334 ⟨by decide, by decide⟩ hT.1.2.1 rfl rfl rfl (Nat.le_of_ble_eq_true rfl) ⟨rfl, rfl⟩ ⟨by decide, by decide⟩ (m_X8_mostAlike hT hv1.2.1.1 ⟨by omega, by omega⟩) ?_
    refine c_istore (ls' := [_, _, _, _, _, _, _]) dX10_ask_27 (by decide) rfl rfl ?_
    refine a_iconst dX10_ask_29 ?_
    refine c_istore (ls' := [_, _, _, _, _, _, _]) dX10_ask_30 (by decide) rfl rfl ?_
    have em : maC M1 t = maC M t := by unfold maC; rw [hM1.1.1 t (by omega), hM1.1.1 (t + 7) (by omega), hM1.1.1 (t + 8) (by omega), hM1.1.1 (t + 9) (by omega)]
    refine AW.mono2 (lpX10_ask hv1 (w := w) (wh := x9) rw 23 1 0 (maC M1 t x9 0) (by omega) (by omega) (maC_in hv1.2.1.1 x9 0)) ?_
    rintro r lay P' M' ⟨z1, z2, rfl, x, z3, z4⟩
    refine ⟨z1, z2, x, z3, hM1.1, Or.inr ⟨by omega, ?_⟩⟩
    rw [z4, em, hM1.2]
  · refine a_iconst dX10_ask_9 ?_
    exact a_ireturn dX10_ask_10 rfl rfl rfl (zany_i ⟨Cn.rf hv, Or.inl ⟨by omega, rfl⟩⟩)

set_option maxRecDepth 100000 in
set_option maxHeartbeats 4000000 in
theorem lpX10_busiest {G : zG} {l : Launch} {L : Nat} {P : zP} {M : zM} {t : Nat} {g w rch : Int} (hv : CV L P M t) (rw9 : inR w) (rr : inR rch) : ∀ (n : Nat) (x best most : Int) (g0 : 0 ≤ x) (g1 : x + n = 100) (gf : -1 ≤ most ∧ most ≤ 6), AW G l mdX10_busiest (zone (LAY L) P M (fun r => r = if w = 0 then (bsF (hoA M (M t 2) rch) n x best most).1 else (bsF (hoA M (M t 2) rch) n x best most).2)) 42 [some (aR 2), some (aI g), some (aI w), some (aI rch), some (aI most), some (aI best), some (aI x), none] [] (LAY L) P M 0 0 := by
  intro n
  induction n with
  | zero =>
    intro x best most g0 g1 gf
    obtain ⟨hc, hi, hxt, hnr, hhr⟩ := id hv
    obtain ⟨hP, hTp, hT, ht, hS, ha⟩ := id hc
    have q1 := hi.1.1
    have sg := st_guess L hP
    have sn := st_now L hP
    refine a_iload dX10_busiest_42 rfl ?_
    refine a_bipush (w := 99) dX10_busiest_44 (by decide) ?_
    refine a_icmp_gt (tgt := 89) dX10_busiest_46 (by decide) ⟨by omega, by omega⟩ ⟨by omega, by omega⟩ (fun hb46 => ?_) (fun hb46 => ?_)
    · refine a_iloadn dX10_busiest_89 rfl ?_
      refine a_if_ne (tgt := 98) dX10_busiest_90 (by decide) ⟨by omega, by omega⟩ (fun hb90 => ?_) (fun hb90 => ?_)
      · refine a_iload dX10_busiest_98 rfl ?_
        exact a_ireturn dX10_busiest_100 rfl rfl rfl (zone_i (by show _ = if w = 0 then best else most; first | (rw [if_pos (by omega)]; done) | (rw [if_neg (by omega)]; done)))
      · refine a_iload dX10_busiest_93 rfl ?_
        refine a_goto (tgt := 100) dX10_busiest_95 (by decide) ?_
        exact a_ireturn dX10_busiest_100 rfl rfl rfl (zone_i (by show _ = if w = 0 then best else most; first | (rw [if_pos (by omega)]; done) | (rw [if_neg (by omega)]; done)))
    · exfalso; omega
  | succ n ih =>
    intro x best most g0 g1 gf
    obtain ⟨hc, hi, hxt, hnr, hhr⟩ := id hv
    obtain ⟨hP, hTp, hT, ht, hS, ha⟩ := id hc
    have q1 := hi.1.1
    have sg := st_guess L hP
    have sn := st_now L hP
    refine a_iload dX10_busiest_42 rfl ?_
    refine a_bipush (w := 99) dX10_busiest_44 (by decide) ?_
    refine a_icmp_gt (tgt := 89) dX10_busiest_46 (by decide) ⟨by omega, by omega⟩ ⟨by omega, by omega⟩ (fun hb46 => ?_) (fun hb46 => ?_)
    · exfalso; omega
    · refine a_aloadn dX10_busiest_49 rfl ?_
      refine a_getR (j' := 7) (y := 61) dX10_busiest_50 flX10_51 rfl rfl (L2 L) (p2_7 hP) ?_
      refine a_iload dX10_busiest_53 rfl ?_
      refine a_iloadn dX10_busiest_55 rfl ?_
      refine a_aloadn dX10_busiest_56 rfl ?_
      refine a_getR (j' := 2) (y := t) dX10_busiest_57 flX10_16 rfl rfl (L2 L) hxt ?_
      refine b_getI (j' := 2) dX10_busiest_60 flX10_118 rfl rfl hT.1.2.1 (fun hr60 => ?_)
      refine a_callV (as := [_, _, _]) (q := 61) dX10_busiest_63 mvX10_286 ⟨by decide, by decide⟩ (L61 L) rfl rfl rfl (Nat.le_of_ble_eq_true rfl) ⟨rfl, rfl⟩ ⟨by decide, by decide⟩ (m_X5_housesAbout sn hi.2.2.1 (by omega) (by omega) rr (by omega) (by omega)) ?_
      have q6 := zsm01 (fun j => iabs (M (61 + 1) j - x) ≤ rch) (M t 2).toNat 0 0
      have q7 : 0 ≤ hoA M (M t 2) rch x ∧ hoA M (M t 2) rch x ≤ 6 := by unfold hoA; omega
      refine a_stk (st' := [aI (hoA M (M t 2) rch x)]) rfl ?_
      refine c_istore (ls' := [_, _, _, _, _, _, _, _]) dX10_busiest_66 (by decide) rfl rfl ?_
      refine a_iload dX10_busiest_68 rfl ?_
      refine a_iload dX10_busiest_70 rfl ?_
      refine a_icmp_le (tgt := 83) dX10_busiest_72 (by decide) ⟨by omega, by omega⟩ ⟨by omega, by omega⟩ (fun hb72 => ?_) (fun hb72 => ?_)
      · refine c_iinc (ls' := [_, _, _, _, _, _, _, _]) dX10_busiest_83 rfl (by decide) rfl rfl ?_
        refine a_goto (tgt := 42) dX10_busiest_86 (by decide) ?_
        refine a_forget [7] (ls' := [_, _, _, _, _, _, _, none]) rfl ?_
        first
        | (have eb : bsF (hoA M (M t 2) rch) (n + 1) x best most = bsF (hoA M (M t 2) rch) n (x + 1) x (hoA M (M t 2) rch x) := by simp only [bsF]; rw [if_pos (by omega)]
           rw [eb]; exact ih _ _ _ (by omega) (by omega) (by omega))
        | (have eb : bsF (hoA M (M t 2) rch) (n + 1) x best most = bsF (hoA M (M t 2) rch) n (x + 1) best most := by simp only [bsF]; rw [if_neg (by omega)]
           rw [eb]; exact ih _ _ _ (by omega) (by omega) gf)
      · refine a_iload dX10_busiest_75 rfl ?_
        refine c_istore (ls' := [_, _, _, _, _, _, _, _]) dX10_busiest_77 (by decide) rfl rfl ?_
        refine a_iload dX10_busiest_79 rfl ?_
        refine c_istore (ls' := [_, _, _, _, _, _, _, _]) dX10_busiest_81 (by decide) rfl rfl ?_
        refine c_iinc (ls' := [_, _, _, _, _, _, _, _]) dX10_busiest_83 rfl (by decide) rfl rfl ?_
        refine a_goto (tgt := 42) dX10_busiest_86 (by decide) ?_
        refine a_forget [7] (ls' := [_, _, _, _, _, _, _, none]) rfl ?_
        first
        | (have eb : bsF (hoA M (M t 2) rch) (n + 1) x best most = bsF (hoA M (M t 2) rch) n (x + 1) x (hoA M (M t 2) rch x) := by simp only [bsF]; rw [if_pos (by omega)]
           rw [eb]; exact ih _ _ _ (by omega) (by omega) (by omega))
        | (have eb : bsF (hoA M (M t 2) rch) (n + 1) x best most = bsF (hoA M (M t 2) rch) n (x + 1) best most := by simp only [bsF]; rw [if_neg (by omega)]
           rw [eb]; exact ih _ _ _ (by omega) (by omega) gf)

set_option maxRecDepth 100000 in
set_option maxHeartbeats 4000000 in
theorem m_X10_busiest {G : zG} {l : Launch} {L : Nat} {P : zP} {M : zM} {t : Nat} {g w : Int} (hv : CV L P M t) (rg : inR g) (rw : inR w) : AM G l yX10_busiest mdX10_busiest [aR 2, aI g, aI w] (LAY L) P M (zany (LAY L) P (fun r M' => Cn t M M' ∧ (¬ (0 ≤ g ∧ g ≤ 9 ∧ 0 ≤ w ∧ w ≤ 1) ∧ r = -1 ∨ (0 ≤ g ∧ g ≤ 9 ∧ 0 ≤ w ∧ w ≤ 1) ∧ r = if w = 0 then (bsF (hoA M (M t 2) (M (t + 10) 0 + g)) 100 0 0 (-1)).1 else (bsF (hoA M (M t 2) (M (t + 10) 0 + g)) 100 0 0 (-1)).2))) := by
  obtain ⟨hc, hi, hxt, hnr, hhr⟩ := id hv
  obtain ⟨hP, hTp, hT, ht, hS, ha⟩ := id hc
  have q1 := hi.1.1
  have sg := st_guess L hP
  have sn := st_now L hP
  have qn := hi.1.2.2.2.2.2.2.2.1
  refine AM.go [some (aR 2), some (aI g), some (aI w), none, none, none, none, none] rfl (Nat.le_of_ble_eq_true rfl) ?_ (by decide) rfl rfl
  refine a_iloadn dX10_busiest_0 rfl ?_
  refine a_iconst dX10_busiest_1 ?_
  refine a_bipush (w := 9) dX10_busiest_2 (by decide) ?_
  refine a_oneS (as := [_, _, _]) dX10_busiest_4 mvX10_167 ⟨by decide, by decide⟩ rfl rfl (Nat.le_of_ble_eq_true rfl) ⟨rfl, rfl⟩ ⟨by decide, by decide⟩ (m_X10_isWithin ⟨by omega, by omega⟩ ⟨by omega, by omega⟩ ⟨by omega, by omega⟩) (fun x4 hx4 => ?_)
  refine a_if_eq (tgt := 19) dX10_busiest_7 (by decide) ⟨by omega, by omega⟩ (fun hb7 => ?_) (fun hb7 => ?_)
  · refine a_iconst dX10_busiest_19 ?_
    exact a_ireturn dX10_busiest_20 rfl rfl rfl (zany_i ⟨Cn.rf hv, Or.inl ⟨by omega, rfl⟩⟩)
  · refine a_iloadn dX10_busiest_10 rfl ?_
    refine a_iconst dX10_busiest_11 ?_
    refine a_iconst dX10_busiest_12 ?_
    refine a_oneS (as := [_, _, _]) dX10_busiest_13 mvX10_167 ⟨by decide, by decide⟩ rfl rfl (Nat.le_of_ble_eq_true rfl) ⟨rfl, rfl⟩ ⟨by decide, by decide⟩ (m_X10_isWithin ⟨by omega, by omega⟩ ⟨by omega, by omega⟩ ⟨by omega, by omega⟩) (fun x13 hx13 => ?_)
    refine a_if_ne (tgt := 21) dX10_busiest_16 (by decide) ⟨by omega, by omega⟩ (fun hb16 => ?_) (fun hb16 => ?_)
    · refine a_aloadn dX10_busiest_21 rfl ?_
      refine a_getR (j' := 2) (y := t) dX10_busiest_22 flX10_16 rfl rfl (L2 L) hxt ?_
      refine a_getR (j' := 14) (y := (t + 10)) dX10_busiest_25 flX10_283 rfl rfl hT.1.2.1 hT.1.2.2.2.2.2.2.2.2.2.2.2.1.2 ?_
      refine a_iconst dX10_busiest_28 ?_
      refine b_iald (N := 4) dX10_busiest_29 hT.1.2.2.2.2.2.2.2.2.2.2.2.1.1 (by decide) (by omega) (by omega) (fun hr29 => ?_)
      refine a_iloadn dX10_busiest_30 rfl ?_
      refine a_iadd dX10_busiest_31 ?_
      refine c_istoren (ls' := [_, _, _, _, _, _, _, _]) dX10_busiest_32 (by decide) rfl rfl ?_
      refine a_iconst dX10_busiest_33 ?_
      refine c_istore (ls' := [_, _, _, _, _, _, _, _]) dX10_busiest_34 (by decide) rfl rfl ?_
      refine a_iconst dX10_busiest_36 ?_
      refine c_istore (ls' := [_, _, _, _, _, _, _, _]) dX10_busiest_37 (by decide) rfl rfl ?_
      refine a_iconst dX10_busiest_39 ?_
      refine c_istore (ls' := [_, _, _, _, _, _, _, _]) dX10_busiest_40 (by decide) rfl rfl ?_
      refine AW.mono2 (lpX10_busiest hv (g := g) (w := w) (rch := M (t + 10) 0 + g) rw ⟨by omega, by omega⟩ 100 0 0 (-1) (by omega) (by omega) (by omega)) ?_
      rintro r lay P' M' ⟨z1, z2, rfl, x, z3, z4⟩
      exact ⟨z1, z2, x, z3, Cn.rf hv, Or.inr ⟨by omega, z4⟩⟩
    · refine a_iconst dX10_busiest_19 ?_
      exact a_ireturn dX10_busiest_20 rfl rfl rfl (zany_i ⟨Cn.rf hv, Or.inl ⟨by omega, rfl⟩⟩)

set_option maxRecDepth 100000 in
set_option maxHeartbeats 4000000 in
theorem lpX10_nears_in {G : zG} {l : Launch} {L : Nat} {P : zP} {M0 : zM} {t : Nat} {last acc k : Int} {c : Int → Int} {Z : zZ} (hv : CV L P M0 t) (hn : NI M0) (hl : 0 ≤ last ∧ last ≤ 99) : ∀ (n : Nat) (i so : Int) (M Mp : zM) (g0 : 1 ≤ i) (g1 : i + n = last + 1) (gs : so = 0 ∨ so = 1) (hE : Ec Mp M) (hI : CI Mp t 67) (hh : Mp 67 5 + n ≤ 9999) (hd : NdR c t M0 M) (kk : ∀ (M' : zM) (so' : Int), so' = niF c M0 t n i so Mp → (so' = 0 ∨ so' = 1) → NdR c t M0 M' → AW G l mdX10_nears Z 101 [some (aR 2), some (aI last), some (aI acc), some (aI k), some (aI so'), none] [] (LAY L) P M' 0 0), AW G l mdX10_nears Z 57 [some (aR 2), some (aI last), some (aI acc), some (aI k), some (aI so), some (aI i)] [] (LAY L) P M 0 0 := by
  intro n
  induction n with
  | zero =>
    intro i so M Mp g0 g1 gs hE hI hh hd kk
    obtain ⟨hc, hi, hxt, hnr, hhr⟩ := id hv
    obtain ⟨hP, hTp, hT, ht, hS, ha⟩ := id hc
    have q1 := hi.1.1
    have sg := st_guess L hP
    have sn := st_now L hP
    have qn := hn.1
    refine a_iload dX10_nears_57 rfl ?_
    refine a_iloadn dX10_nears_59 rfl ?_
    refine a_icmp_gt (tgt := 101) dX10_nears_60 (by decide) ⟨by omega, by omega⟩ ⟨by omega, by omega⟩ (fun hb60 => ?_) (fun hb60 => ?_)
    · refine a_forget [5] (ls' := [_, _, _, _, _, none]) rfl (kk M so rfl gs hd)
    · exfalso; omega
  | succ n ih =>
    intro i so M Mp g0 g1 gs hE hI hh hd kk
    obtain ⟨hc, hi, hxt, hnr, hhr⟩ := id hv
    obtain ⟨hP, hTp, hT, ht, hS, ha⟩ := id hc
    have q1 := hi.1.1
    have sg := st_guess L hP
    have sn := st_now L hP
    have qn := hn.1
    refine a_iload dX10_nears_57 rfl ?_
    refine a_iloadn dX10_nears_59 rfl ?_
    refine a_icmp_gt (tgt := 101) dX10_nears_60 (by decide) ⟨by omega, by omega⟩ ⟨by omega, by omega⟩ (fun hb60 => ?_) (fun hb60 => ?_)
    · exfalso; omega
    · refine a_iload dX10_nears_63 rfl ?_
      refine a_if_eq (tgt := 101) dX10_nears_65 (by decide) ⟨by omega, by omega⟩ (fun hb65 => ?_) (fun hb65 => ?_)
      · refine a_forget [5] (ls' := [_, _, _, _, _, none]) rfl (kk M so (by simp only [niF]; rw [if_pos (by omega)]) gs hd)
      · refine a_aloadn dX10_nears_68 rfl ?_
        refine a_getR (j' := 5) (y := 50) dX10_nears_69 flX10_35 rfl rfl (L2 L) (p2_5 hP) ?_
        refine a_aloadn dX10_nears_72 rfl ?_
        refine a_getR (j' := 8) (y := 67) dX10_nears_73 flX10_55 rfl rfl (L2 L) (p2_8 hP) ?_
        refine a_iconst dX10_nears_76 ?_
        refine a_relVv (as := [_, _]) (q := 50) dX10_nears_77 mvX10_227 ⟨by decide, by decide⟩ (L50 L) rfl rfl rfl (Nat.le_of_ble_eq_true rfl) ⟨rfl, rfl⟩ ⟨by decide, by decide⟩ (m_X0_pass hc.sw hE hI ⟨by omega, by omega⟩ (by omega)) (fun M1 hM1 => ?_)
        have hM1 : Ec (hourM t 67 Mp) M1 := hM1
        have hI2 := hourM_I (t := t) (a := 67) (by omega) (by omega) hI (by omega)
        have hfr : ∀ q : Nat, ¬ (51 ≤ q ∧ q ≤ 53) → ¬ (67 ≤ q ∧ q ≤ 72) → M1 q = M q := fun q h1 h2 => by rw [hM1.row (by omega) (by omega) (by omega), hourM_Fa t 67 Mp q (by omega), hE.row (by omega) (by omega) (by omega)]
        have hd2 : NdR c t M0 M1 := ⟨hd.1.tr (fun q hq9 => hfr q (by omega) (by omega)), fun j j0 j1 => by rw [hfr 207 (by omega) (by omega)]; exact hd.2.1 j j0 j1, by rw [hfr 50 (by omega) (by omega)]; exact hd.2.2⟩
        have hn2 : NI M1 := NI_of (fun q h1 h2 => hd2.1 q (by omega)) hn
        refine a_aloadn dX10_nears_80 rfl ?_
        refine a_getR (j' := 12) (y := 201) dX10_nears_81 flX10_71 rfl rfl (L2 L) (p2_12 hP) ?_
        refine a_aloadn dX10_nears_84 rfl ?_
        refine a_getR (j' := 8) (y := 67) dX10_nears_85 flX10_55 rfl rfl (L2 L) (p2_8 hP) ?_
        refine a_iload dX10_nears_88 rfl ?_
        refine a_oneV (as := [_, _]) (q := 201) dX10_nears_90 mvX10_343 ⟨by decide, by decide⟩ (L201 L) rfl rfl rfl (Nat.le_of_ble_eq_true rfl) ⟨rfl, rfl⟩ ⟨by decide, by decide⟩ (m_X2_isSeen hP hn2 sg ⟨by omega, by omega⟩) (fun x90 hx90 => ?_)
        have es : zall (sok M1 67 i) (M1 201 6).toNat 0 = zall (sokF c M0 (hourM t 67 Mp) 67 i) (M0 201 6).toNat 0 := by
          rw [hd2.1 201 (by omega)]
          exact zall_cong _ _ (fun q q0 q1 => by rw [sok_eq (c := c) (Mp := hourM t 67 Mp) (fun q9 h9 => hd2.1 q9 (by omega)) (hd2.2.1 q q0 (by omega)) (hM1.row (by decide) (by decide) (by decide))])
        refine c_istore (ls' := [_, _, _, _, _, _]) dX10_nears_93 (by decide) rfl rfl ?_
        refine c_iinc (ls' := [_, _, _, _, _, _]) dX10_nears_95 rfl (by decide) rfl rfl ?_
        refine a_goto (tgt := 57) dX10_nears_98 (by decide) ?_
        simp only [niF] at kk
        rw [if_neg (by omega)] at kk
        rw [hx90, es]
        exact ih _ _ _ (hourM t 67 Mp) (by omega) (by omega) (zall01 _ _ _) hM1 hI2 (by rw [hourM_h]; omega) hd2 kk

theorem NbR.of {L : Nat} {P : zP} {M0 M M1 : zM} {t : Nat} {c : Int → Int} {k : Int} (hv : CV L P M0 t) (hd : NdR c t M0 M) (hb : BgR (sm M 50 1 k) 67 t M1) : NbR t M0 k M1 ∧ NdR c t M0 M1 := by
  obtain ⟨b1, b2, b3, b4, b5⟩ := hb
  have ht := hv.1.2.2.2.1
  have hq : Cq M0 M1 := hd.1.tr (fun q hq => by rw [b5 q (by omega), sm_n (by omega)])
  have e0 : sm M 50 1 k t = M0 t := by rw [sm_n (by omega), hd.1 t (by omega)]
  have e2 : sm M 50 1 k (t + 2) = M0 (t + 2) := by rw [sm_n (by omega), hd.1 (t + 2) (by omega)]
  have e3 : sm M 50 1 k (t + 3) = M0 (t + 3) := by rw [sm_n (by omega), hd.1 (t + 3) (by omega)]
  rw [e0, e2, e3] at b1
  have f1 : M1 50 1 = k := by rw [b5 50 (by omega), sm_s]
  have f2 : M1 50 2 = M 50 2 := by rw [b5 50 (by omega), sm_k, us_n (by decide)]
  have f3 : M1 50 3 = M 50 3 := by rw [b5 50 (by omega), sm_k, us_n (by decide)]
  have f4 : M1 50 4 = M 50 4 := by rw [b5 50 (by omega), sm_k, us_n (by decide)]
  have f5 : M1 50 5 = M 50 5 := by rw [b5 50 (by omega), sm_k, us_n (by decide)]
  have g : M1 50 2 = (if 50 ≤ M0 (t + 10) 2 then 1 else 0) ∧ M1 50 3 = 1 ∧ M1 50 4 = 1 ∧ M1 50 5 = -1 := by rw [f2, f3, f4, f5]; exact hd.2.2
  have e10 : sm M 50 1 k (t + 10) = M0 (t + 10) := by rw [sm_n (by omega), hd.1 (t + 10) (by omega)]
  rw [e10] at b4
  exact ⟨⟨b1, b2, b3, hq, f1, g.1, g.2.1, g.2.2.1, g.2.2.2, b4⟩, hq, fun j j0 j1 => by rw [b5 207 (by omega), sm_n (by omega)]; exact hd.2.1 j j0 j1, g⟩
theorem NbR.ci {L : Nat} {P : zP} {M0 M M1 : zM} {t : Nat} {k : Int} (hv : CV L P M0 t) (hn : NbR t M0 k M1) (hb : BgR (sm M 50 1 k) 67 t M1) (hq : Cq M0 M) (hk : 0 ≤ k ∧ k ≤ 20) : CI M1 t 67 := by
  have ht := hv.1.2.2.2.1
  have hT : CI (sm M 50 1 k) t 61 := hv.2.1.tr (by omega) (fun q h9 => by rw [sm_n (by omega)]; exact hq q (by omega)) (by rw [sm_s]; exact hk)
  have h1 : CI M1 t 61 := hv.2.1.tr (by omega) (fun q h9 => hn.2.2.2.1 q (by omega)) (by rw [hn.2.2.2.2.1]; exact hk)
  exact h1.sw (hb.sti hT.1)

set_option maxRecDepth 100000 in
set_option maxHeartbeats 4000000 in
theorem lpX10_nears {G : zG} {l : Launch} {L : Nat} {P : zP} {M0 : zM} {t : Nat} {last : Int} {c : Int → Int} (hv : CV L P M0 t) (hn : NI M0) (hl : 0 ≤ last ∧ last ≤ 99) : ∀ (n : Nat) (k acc : Int) (M : zM) (g0 : 0 ≤ k) (g1 : k + n = 10) (hd : NdR c t M0 M) (Q : Int → Prop) (hQ : ∀ r, nrP c t M0 last n k acc r → Q r), AW G l mdX10_nears (zany (LAY L) P (fun r M' => Cn t M0 M' ∧ Q r)) 26 [some (aR 2), some (aI last), some (aI acc), some (aI k), none, none] [] (LAY L) P M 0 0 := by
  intro n
  induction n with
  | zero =>
    intro k acc M g0 g1 hd Q hQ
    obtain ⟨hc, hi, hxt, hnr, hhr⟩ := id hv
    obtain ⟨hP, hTp, hT, ht, hS, ha⟩ := id hc
    have q1 := hi.1.1
    have sg := st_guess L hP
    have sn := st_now L hP
    have qn := hn.1
    refine a_iloadn dX10_nears_26 rfl ?_
    refine a_bipush (w := 9) dX10_nears_27 (by decide) ?_
    refine a_icmp_gt (tgt := 118) dX10_nears_29 (by decide) ⟨by omega, by omega⟩ ⟨by omega, by omega⟩ (fun hb29 => ?_) (fun hb29 => ?_)
    · refine a_aloadn dX10_nears_118 rfl ?_
      refine a_getR (j' := 5) (y := 50) dX10_nears_119 flX10_35 rfl rfl (L2 L) (p2_5 hP) ?_
      have hT3 : ToI M t := by have z := hv.2.1.1; unfold ToI at z ⊢; rw [hd.1 t (by omega), hd.1 (t + 2) (by omega), hd.1 (t + 3) (by omega), hd.1 (t + 4) (by omega), hd.1 (t + 5) (by omega), hd.1 (t + 6) (by omega), hd.1 (t + 7) (by omega), hd.1 (t + 8) (by omega), hd.1 (t + 9) (by omega), hd.1 (t + 10) (by omega)]; exact z
      refine a_callVv (as := []) (q := 50) dX10_nears_122 mvX10_78 ⟨by decide, by decide⟩ (L50 L) rfl rfl rfl (Nat.le_of_ble_eq_true rfl) ⟨rfl, rfl⟩ ⟨by decide, by decide⟩ (m_X0_asItGoes hP hTp hT ht hT3) ?_
      refine a_iloadn dX10_nears_125 rfl ?_
      exact a_ireturn dX10_nears_126 rfl rfl rfl (zany_i ⟨⟨hd.1.tr (fun q hq => agM_n t M (by omega)), by show agM t M 50 1 = _; rw [(agM_f t M).1, hd.1 (t + 10) (by omega)]⟩, hQ _ rfl⟩)
    · exfalso; omega
  | succ n ih =>
    intro k acc M g0 g1 hd Q hQ
    obtain ⟨hc, hi, hxt, hnr, hhr⟩ := id hv
    obtain ⟨hP, hTp, hT, ht, hS, ha⟩ := id hc
    have q1 := hi.1.1
    have sg := st_guess L hP
    have sn := st_now L hP
    have qn := hn.1
    refine a_iloadn dX10_nears_26 rfl ?_
    refine a_bipush (w := 9) dX10_nears_27 (by decide) ?_
    refine a_icmp_gt (tgt := 118) dX10_nears_29 (by decide) ⟨by omega, by omega⟩ ⟨by omega, by omega⟩ (fun hb29 => ?_) (fun hb29 => ?_)
    · exfalso; omega
    · refine a_aloadn dX10_nears_32 rfl ?_
      refine a_getR (j' := 5) (y := 50) dX10_nears_33 flX10_35 rfl rfl (L2 L) (p2_5 hP) ?_
      refine a_iloadn dX10_nears_36 rfl ?_
      refine a_putI (j' := 1) dX10_nears_37 flX10_340 rfl rfl (L50 L) (by decide) rfl ⟨by omega, by omega⟩ ?_
      refine a_aloadn dX10_nears_40 rfl ?_
      refine a_getR (j' := 8) (y := 67) dX10_nears_41 flX10_55 rfl rfl (L2 L) (p2_8 hP) ?_
      refine a_aloadn dX10_nears_44 rfl ?_
      refine a_getR (j' := 2) (y := t) dX10_nears_45 flX10_16 rfl rfl (L2 L) hxt ?_
      have hT2 : CI (sm M 50 1 k) t 61 := hv.2.1.tr (by omega) (fun q h9 => by rw [sm_n (by omega)]; exact hd.1 q (by omega)) (by rw [sm_s]; omega)
      refine a_relVv (as := [_]) (q := 67) dX10_nears_48 mvX10_81 ⟨by decide, by decide⟩ (L67 L) rfl rfl rfl (Nat.le_of_ble_eq_true rfl) ⟨rfl, rfl⟩ ⟨by decide, by decide⟩ (m_X5_begin sg hT (by omega) (by omega) hT2.1) (fun M1 hM1 => ?_)
      obtain ⟨hnb, hd2⟩ := NbR.of hv hd hM1
      have hci := hnb.ci hv hM1 hd.1 (by omega)
      refine a_iconst dX10_nears_51 ?_
      refine c_istore (ls' := [_, _, _, _, _, _]) dX10_nears_52 (by decide) rfl rfl ?_
      refine a_iconst dX10_nears_54 ?_
      refine c_istore (ls' := [_, _, _, _, _, _]) dX10_nears_55 (by decide) rfl rfl ?_
      refine lpX10_nears_in hv hn hl last.toNat 1 1 M1 M1 (by omega) (by omega) (Or.inr rfl) (Ec.rf M1) hci (by rw [hnb.2.2.1]; omega) hd2 (fun M2 so' e1 e2 hd3 => ?_)
      refine a_iload dX10_nears_101 rfl ?_
      refine a_if_eq (tgt := 112) dX10_nears_103 (by decide) ⟨by omega, by omega⟩ (fun hb103 => ?_) (fun hb103 => ?_)
      · refine c_iinc (ls' := [_, _, _, _, _, _]) dX10_nears_112 rfl (by decide) rfl rfl ?_
        refine a_goto (tgt := 26) dX10_nears_115 (by decide) ?_
        refine a_forget [4, 5] (ls' := [_, _, _, _, none, none]) rfl ?_
        exact ih _ _ _ (by omega) (by omega) hd3 Q (fun r hr => hQ r ⟨M1, hnb, by rw [if_pos (by omega)]; exact hr⟩)
      · refine a_iloadn dX10_nears_106 rfl ?_
        refine a_iconst dX10_nears_107 ?_
        refine a_iloadn dX10_nears_108 rfl ?_
        refine a_ishl dX10_nears_109 ?_
        refine a_ior dX10_nears_110 ?_
        refine c_istoren (ls' := [_, _, _, _, _, _]) dX10_nears_111 (by decide) rfl rfl ?_
        refine c_iinc (ls' := [_, _, _, _, _, _]) dX10_nears_112 rfl (by decide) rfl rfl ?_
        refine a_goto (tgt := 26) dX10_nears_115 (by decide) ?_
        refine a_forget [4, 5] (ls' := [_, _, _, _, none, none]) rfl ?_
        exact ih _ _ _ (by omega) (by omega) hd3 Q (fun r hr => hQ r ⟨M1, hnb, by rw [if_neg (by omega)]; exact hr⟩)

set_option maxRecDepth 100000 in
set_option maxHeartbeats 4000000 in
theorem m_X10_nears {G : zG} {l : Launch} {L : Nat} {P : zP} {M : zM} {t : Nat} (hv : CV L P M t) (hn : NI M)  : AM G l yX10_nears mdX10_nears [aR 2] (LAY L) P M (zany (LAY L) P (fun r M' => Cn t M M' ∧ nrP (cntF M) t M (lsG (cntF M) M (M 201 6).toNat 0 0) 10 0 0 r)) := by
  obtain ⟨hc, hi, hxt, hnr, hhr⟩ := id hv
  obtain ⟨hP, hTp, hT, ht, hS, ha⟩ := id hc
  have q1 := hi.1.1
  have sg := st_guess L hP
  have sn := st_now L hP
  have qn := hn.1
  refine AM.go [some (aR 2), none, none, none, none, none] rfl (Nat.le_of_ble_eq_true rfl) ?_ (by decide) rfl rfl
  refine a_aloadn dX10_nears_0 rfl ?_
  refine a_getR (j' := 12) (y := 201) dX10_nears_1 flX10_71 rfl rfl (L2 L) (p2_12 hP) ?_
  refine a_relVv (as := []) (q := 201) dX10_nears_4 mvX10_324 ⟨by decide, by decide⟩ (L201 L) rfl rfl rfl (Nat.le_of_ble_eq_true rfl) ⟨rfl, rfl⟩ ⟨by decide, by decide⟩ (m_X2_settle hP hn) (fun M1 hM1 => ?_)
  have hq : Cn t M M1 := ⟨fun k hk => hM1.1 k (by omega), by rw [hM1.1 50 (by decide)]; exact hnr⟩
  have hv1 := hq.cv hv
  have hn1 : NI M1 := NI_of (fun k _ _ => hM1.1 k (by omega)) hn
  refine a_aloadn dX10_nears_7 rfl ?_
  refine a_getR (j' := 12) (y := 201) dX10_nears_8 flX10_71 rfl rfl (L2 L) (p2_12 hP) ?_
  refine a_oneV (as := []) (q := 201) dX10_nears_11 mvX10_337 ⟨by decide, by decide⟩ (L201 L) rfl rfl rfl (Nat.le_of_ble_eq_true rfl) ⟨rfl, rfl⟩ ⟨by decide, by decide⟩ (m_X2_lastSight hP hn1) (fun x11 hx11 => ?_)
  have el : x11 = lsG (cntF M) M (M 201 6).toNat 0 0 := by
    rw [hx11.1, hM1.1 201 (by decide)]
    exact lsF_eq (fun k hk => hM1.1 k (by omega)) _ _ _ (fun j j0 j1 => hM1.2 j j0 (by omega))
  refine c_istoren (ls' := [_, _, _, _, _, _]) dX10_nears_14 (by decide) rfl rfl ?_
  refine a_iconst dX10_nears_15 ?_
  refine c_istoren (ls' := [_, _, _, _, _, _]) dX10_nears_16 (by decide) rfl rfl ?_
  refine a_aloadn dX10_nears_17 rfl ?_
  refine a_getR (j' := 5) (y := 50) dX10_nears_18 flX10_35 rfl rfl (L2 L) (p2_5 hP) ?_
  refine a_callVv (as := []) (q := 50) dX10_nears_21 mvX10_78 ⟨by decide, by decide⟩ (L50 L) rfl rfl rfl (Nat.le_of_ble_eq_true rfl) ⟨rfl, rfl⟩ ⟨by decide, by decide⟩ (m_X0_asItGoes hP hTp hT ht hv1.2.1.1) ?_
  refine a_iconst dX10_nears_24 ?_
  refine c_istoren (ls' := [_, _, _, _, _, _]) dX10_nears_25 (by decide) rfl rfl ?_
  have hd : NdR (cntF M) t M (agM t M1) := ⟨(agM_cn hq (by omega)).1, fun j j0 j1 => by rw [agM_n t M1 (by decide)]; exact hM1.2 j j0 j1, by have z := (agM_f t M1).2; rw [hM1.1 (t + 10) (by omega)] at z; exact z⟩
  exact lpX10_nears hv hn (last := x11) (by omega) 10 0 0 (agM t M1) (by omega) (by omega) hd _ (fun r hr => by rw [el] at hr; exact hr)
