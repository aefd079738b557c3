theorem m_doesHear {G : zG} {l : Launch} {L : Nat} {P : zP} {M : zM} {a t : Nat} {h o : Int} (hc : CS L P t a) (hi : CI M t a) (h0 : 0 ≤ h) (h1 : h < 6) (o0 : 0 ≤ o) (o1 : o < 6) : AM G l yX0_doesHear mdX0_doesHear [aR 50, aR a, aI h, aI o] (LAY L) P M (zany (LAY L) P (fun x M' => Ec M M' ∧ x = hrM M t a h o)) :=
  m_X0_doesHear hc.1 hc.2.1 hc.2.2.1 hc.2.2.2.1 hi.1 hi.2.1.1 hc.2.2.2.2.1 hc.2.2.2.2.2 hi.2.2.1 hi.2.2.2 h0 h1 o0 o1
theorem m_needed {G : zG} {l : Launch} {L : Nat} {P : zP} {M : zM} {a t : Nat} {h o kd : Int} (hc : CS L P t a) (hi : CI M t a) (h0 : 0 ≤ h) (h1 : h < 6) (o0 : 0 ≤ o) (o1 : o < 6) (hk : 0 ≤ kd ∧ kd ≤ 9) : AM G l yX0_needed mdX0_needed [aR 50, aR a, aI h, aI o, aI kd] (LAY L) P M (zany (LAY L) P (fun x M' => Ec M M' ∧ x = ndM M t a h o kd)) :=
  m_X0_needed hc.1 hc.2.1 hc.2.2.1 hc.2.2.2.1 hi.1 hi.2.1.2.1 hc.2.2.2.2.1 hc.2.2.2.2.2 hi.2.2.1 h0 h1 o0 o1 hk
theorem m_hear {G : zG} {l : Launch} {L : Nat} {P : zP} {M : zM} {a : Nat} {x y z : Int} (hS : StA L P a) (hI : StI M a) (hx0 : 0 ≤ x) (hx1 : x < 6) (hy0 : 0 ≤ y) (hy1 : y < 6) (hz : inR z) : AM G l yX5_hear mdX5_hear [aR a, aI x, aI y, aI z] (LAY L) P M (zdet none (LAY L) P (hearM M a x y z)) := m_X5_hear hS hI hx0 hx1 hy0 hy1 hz

set_option maxRecDepth 100000 in
set_option maxHeartbeats 4000000 in
theorem lpX0_heardBy {G : zG} {l : Launch} {L : Nat} {P : zP} {M0 : zM} {a t : Nat} {h : Int} (hc : CS L P t a) (hi : CI M0 t a) (h0 : 0 ≤ h) (h1 : h < 6) : ∀ (n : Nat) (i acc : Int) (M : zM) (g0 : 0 ≤ i) (g1 : i + n = M0 t 2) (hE : Ec M0 M), AW G l mdX0_heardBy (zany (LAY L) P (fun x M' => Ec M0 M' ∧ x = zbits (fun j => if j = h then 0 else hrM M0 t a h j) n i acc)) 5 [some (aR 50), some (aR a), some (aI h), some (aI acc), some (aI i)] [] (LAY L) P M 0 0 := by
  intro n
  induction n with
  | zero =>
    intro i acc M g0 g1 hE
    obtain ⟨hP, hTp, hT, ht, hS, ha⟩ := id hc
    have q1 := hi.1.1
    refine a_iload dX0_heardBy_5 rfl ?_
    refine a_aloadn dX0_heardBy_7 rfl ?_
    refine a_getR (j' := 0) (y := t) dX0_heardBy_8 flX0_18 rfl rfl (L50 L) hTp ?_
    refine b_getI (j' := 2) dX0_heardBy_11 flX0_105 rfl rfl hT.1.2.1 (fun hr11 => ?_)
    have e1 : M t 2 = M0 t 2 := hE _ _ (by omega) (by omega) (by omega)
    rw [e1] at hr11
    rw [e1]
    refine a_icmp_ge (tgt := 47) dX0_heardBy_14 (by decide) ⟨by omega, by omega⟩ ⟨by omega, by omega⟩ (fun hb14 => ?_) (fun hb14 => ?_)
    · refine a_iloadn dX0_heardBy_47 rfl ?_
      exact a_ireturn dX0_heardBy_48 rfl rfl rfl (zany_i ⟨hE, rfl⟩)
    · exfalso; omega
  | succ n ih =>
    intro i acc M g0 g1 hE
    obtain ⟨hP, hTp, hT, ht, hS, ha⟩ := id hc
    have q1 := hi.1.1
    refine a_iload dX0_heardBy_5 rfl ?_
    refine a_aloadn dX0_heardBy_7 rfl ?_
    refine a_getR (j' := 0) (y := t) dX0_heardBy_8 flX0_18 rfl rfl (L50 L) hTp ?_
    refine b_getI (j' := 2) dX0_heardBy_11 flX0_105 rfl rfl hT.1.2.1 (fun hr11 => ?_)
    have e1 : M t 2 = M0 t 2 := hE _ _ (by omega) (by omega) (by omega)
    rw [e1] at hr11
    rw [e1]
    refine a_icmp_ge (tgt := 47) dX0_heardBy_14 (by decide) ⟨by omega, by omega⟩ ⟨by omega, by omega⟩ (fun hb14 => ?_) (fun hb14 => ?_)
    · exfalso; omega
    · refine a_iload dX0_heardBy_17 rfl ?_
      refine a_iloadn dX0_heardBy_19 rfl ?_
      refine a_icmp_eq (tgt := 41) dX0_heardBy_20 (by decide) ⟨by omega, by omega⟩ ⟨by omega, by omega⟩ (fun hb20 => ?_) (fun hb20 => ?_)
      · refine c_iinc (ls' := [_, _, _, _, _]) dX0_heardBy_41 rfl (by decide) rfl rfl ?_
        refine a_goto (tgt := 5) dX0_heardBy_44 (by decide) ?_
        refine a_forget [] rfl ?_
        simp only [zbits]
        first
        | (rw [if_pos (by rw [if_pos (by omega)])]; exact ih _ _ _ (by omega) (by omega) hE)
        | (rw [if_pos (by rw [if_neg (by omega)]; omega)]; exact ih _ _ _ (by omega) (by omega) hE2)
        | (rw [if_neg (by rw [if_neg (by omega)]; omega)]; exact ih _ _ _ (by omega) (by omega) hE2)
      · refine a_aloadn dX0_heardBy_23 rfl ?_
        refine a_aloadn dX0_heardBy_24 rfl ?_
        refine a_iloadn dX0_heardBy_25 rfl ?_
        refine a_iload dX0_heardBy_26 rfl ?_
        refine a_anyV (as := [_, _, _]) (q := 50) dX0_heardBy_28 mvX0_108 ⟨by decide, by decide⟩ (L50 L) rfl rfl rfl (Nat.le_of_ble_eq_true rfl) ⟨rfl, rfl⟩ ⟨by decide, by decide⟩ (m_doesHear hc (hE.ci (by omega) (by omega) hi) h0 h1 (by omega) (by omega)) (fun x9 M1 hM1 => ?_)
        have hE2 := hE.tr hM1.1
        have hx := hM1.2
        rw [hE.hr (by omega) (by omega)] at hx
        have h01 := hrM01 M0 t a h i
        refine a_if_eq (tgt := 41) dX0_heardBy_31 (by decide) ⟨by omega, by omega⟩ (fun hb31 => ?_) (fun hb31 => ?_)
        · refine c_iinc (ls' := [_, _, _, _, _]) dX0_heardBy_41 rfl (by decide) rfl rfl ?_
          refine a_goto (tgt := 5) dX0_heardBy_44 (by decide) ?_
          refine a_forget [] rfl ?_
          simp only [zbits]
          first
          | (rw [if_pos (by rw [if_pos (by omega)])]; exact ih _ _ _ (by omega) (by omega) hE)
          | (rw [if_pos (by rw [if_neg (by omega)]; omega)]; exact ih _ _ _ (by omega) (by omega) hE2)
          | (rw [if_neg (by rw [if_neg (by omega)]; omega)]; exact ih _ _ _ (by omega) (by omega) hE2)
        · refine a_iloadn dX0_heardBy_34 rfl ?_
          refine a_iconst dX0_heardBy_35 ?_
          refine a_iload dX0_heardBy_36 rfl ?_
          refine a_ishl dX0_heardBy_38 ?_
          refine a_ior dX0_heardBy_39 ?_
          refine c_istoren (ls' := [_, _, _, _, _]) dX0_heardBy_40 (by decide) rfl rfl ?_
          refine c_iinc (ls' := [_, _, _, _, _]) dX0_heardBy_41 rfl (by decide) rfl rfl ?_
          refine a_goto (tgt := 5) dX0_heardBy_44 (by decide) ?_
          refine a_forget [] rfl ?_
          simp only [zbits]
          first
          | (rw [if_pos (by rw [if_pos (by omega)])]; exact ih _ _ _ (by omega) (by omega) hE)
          | (rw [if_pos (by rw [if_neg (by omega)]; omega)]; exact ih _ _ _ (by omega) (by omega) hE2)
          | (rw [if_neg (by rw [if_neg (by omega)]; omega)]; exact ih _ _ _ (by omega) (by omega) hE2)

set_option maxRecDepth 100000 in
set_option maxHeartbeats 4000000 in
theorem m_X0_heardBy {G : zG} {l : Launch} {L : Nat} {P : zP} {M : zM} {a t : Nat} {h : Int} (hc : CS L P t a) (hi : CI M t a) (h0 : 0 ≤ h) (h1 : h < 6) : AM G l yX0_heardBy mdX0_heardBy [aR 50, aR a, aI h] (LAY L) P M (zany (LAY L) P (fun x M' => Ec M M' ∧ x = zbits (fun j => if j = h then 0 else hrM M t a h j) (M t 2).toNat 0 0)) := by
  refine AM.go [some (aR 50), some (aR a), some (aI h), none, none] rfl (Nat.le_of_ble_eq_true rfl) ?_ (by decide) rfl rfl
  refine a_iconst dX0_heardBy_0 ?_
  refine c_istoren (ls' := [_, _, _, _, _]) dX0_heardBy_1 (by decide) rfl rfl ?_
  refine a_iconst dX0_heardBy_2 ?_
  refine c_istore (ls' := [_, _, _, _, _]) dX0_heardBy_3 (by decide) rfl rfl ?_
  exact lpX0_heardBy hc hi h0 h1 (M t 2).toNat 0 0 M (by omega) (by have := hi.1.1; omega) (Ec.rf M)

set_option maxRecDepth 100000 in
set_option maxHeartbeats 4000000 in
theorem lpX0_hearersOf {G : zG} {l : Launch} {L : Nat} {P : zP} {M0 : zM} {a t : Nat} {h : Int} (hc : CS L P t a) (hi : CI M0 t a) (h0 : 0 ≤ h) (h1 : h < 6) : ∀ (n : Nat) (i acc : Int) (M : zM) (g0 : 0 ≤ i) (g1 : i + n = M0 t 2) (hE : Ec M0 M), AW G l mdX0_hearersOf (zany (LAY L) P (fun x M' => Ec M0 M' ∧ x = zbits (fun j => if j = h then 0 else hrM M0 t a j h) n i acc)) 5 [some (aR 50), some (aR a), some (aI h), some (aI acc), some (aI i)] [] (LAY L) P M 0 0 := by
  intro n
  induction n with
  | zero =>
    intro i acc M g0 g1 hE
    obtain ⟨hP, hTp, hT, ht, hS, ha⟩ := id hc
    have q1 := hi.1.1
    refine a_iload dX0_hearersOf_5 rfl ?_
    refine a_aloadn dX0_hearersOf_7 rfl ?_
    refine a_getR (j' := 0) (y := t) dX0_hearersOf_8 flX0_18 rfl rfl (L50 L) hTp ?_
    refine b_getI (j' := 2) dX0_hearersOf_11 flX0_105 rfl rfl hT.1.2.1 (fun hr11 => ?_)
    have e1 : M t 2 = M0 t 2 := hE _ _ (by omega) (by omega) (by omega)
    rw [e1] at hr11
    rw [e1]
    refine a_icmp_ge (tgt := 47) dX0_hearersOf_14 (by decide) ⟨by omega, by omega⟩ ⟨by omega, by omega⟩ (fun hb14 => ?_) (fun hb14 => ?_)
    · refine a_iloadn dX0_hearersOf_47 rfl ?_
      exact a_ireturn dX0_hearersOf_48 rfl rfl rfl (zany_i ⟨hE, rfl⟩)
    · exfalso; omega
  | succ n ih =>
    intro i acc M g0 g1 hE
    obtain ⟨hP, hTp, hT, ht, hS, ha⟩ := id hc
    have q1 := hi.1.1
    refine a_iload dX0_hearersOf_5 rfl ?_
    refine a_aloadn dX0_hearersOf_7 rfl ?_
    refine a_getR (j' := 0) (y := t) dX0_hearersOf_8 flX0_18 rfl rfl (L50 L) hTp ?_
    refine b_getI (j' := 2) dX0_hearersOf_11 flX0_105 rfl rfl hT.1.2.1 (fun hr11 => ?_)
    have e1 : M t 2 = M0 t 2 := hE _ _ (by omega) (by omega) (by omega)
    rw [e1] at hr11
    rw [e1]
    refine a_icmp_ge (tgt := 47) dX0_hearersOf_14 (by decide) ⟨by omega, by omega⟩ ⟨by omega, by omega⟩ (fun hb14 => ?_) (fun hb14 => ?_)
    · exfalso; omega
    · refine a_iload dX0_hearersOf_17 rfl ?_
      refine a_iloadn dX0_hearersOf_19 rfl ?_
      refine a_icmp_eq (tgt := 41) dX0_hearersOf_20 (by decide) ⟨by omega, by omega⟩ ⟨by omega, by omega⟩ (fun hb20 => ?_) (fun hb20 => ?_)
      · refine c_iinc (ls' := [_, _, _, _, _]) dX0_hearersOf_41 rfl (by decide) rfl rfl ?_
        refine a_goto (tgt := 5) dX0_hearersOf_44 (by decide) ?_
        refine a_forget [] rfl ?_
        simp only [zbits]
        first
        | (rw [if_pos (by rw [if_pos (by omega)])]; exact ih _ _ _ (by omega) (by omega) hE)
        | (rw [if_pos (by rw [if_neg (by omega)]; omega)]; exact ih _ _ _ (by omega) (by omega) hE2)
        | (rw [if_neg (by rw [if_neg (by omega)]; omega)]; exact ih _ _ _ (by omega) (by omega) hE2)
      · refine a_aloadn dX0_hearersOf_23 rfl ?_
        refine a_aloadn dX0_hearersOf_24 rfl ?_
        refine a_iload dX0_hearersOf_25 rfl ?_
        refine a_iloadn dX0_hearersOf_27 rfl ?_
        refine a_anyV (as := [_, _, _]) (q := 50) dX0_hearersOf_28 mvX0_108 ⟨by decide, by decide⟩ (L50 L) rfl rfl rfl (Nat.le_of_ble_eq_true rfl) ⟨rfl, rfl⟩ ⟨by decide, by decide⟩ (m_doesHear hc (hE.ci (by omega) (by omega) hi) (by omega) (by omega) h0 h1) (fun x9 M1 hM1 => ?_)
        have hE2 := hE.tr hM1.1
        have hx := hM1.2
        rw [hE.hr (by omega) (by omega)] at hx
        have h01 := hrM01 M0 t a i h
        refine a_if_eq (tgt := 41) dX0_hearersOf_31 (by decide) ⟨by omega, by omega⟩ (fun hb31 => ?_) (fun hb31 => ?_)
        · refine c_iinc (ls' := [_, _, _, _, _]) dX0_hearersOf_41 rfl (by decide) rfl rfl ?_
          refine a_goto (tgt := 5) dX0_hearersOf_44 (by decide) ?_
          refine a_forget [] rfl ?_
          simp only [zbits]
          first
          | (rw [if_pos (by rw [if_pos (by omega)])]; exact ih _ _ _ (by omega) (by omega) hE)
          | (rw [if_pos (by rw [if_neg (by omega)]; omega)]; exact ih _ _ _ (by omega) (by omega) hE2)
          | (rw [if_neg (by rw [if_neg (by omega)]; omega)]; exact ih _ _ _ (by omega) (by omega) hE2)
        · refine a_iloadn dX0_hearersOf_34 rfl ?_
          refine a_iconst dX0_hearersOf_35 ?_
          refine a_iload dX0_hearersOf_36 rfl ?_
          refine a_ishl dX0_hearersOf_38 ?_
          refine a_ior dX0_hearersOf_39 ?_
          refine c_istoren (ls' := [_, _, _, _, _]) dX0_hearersOf_40 (by decide) rfl rfl ?_
          refine c_iinc (ls' := [_, _, _, _, _]) dX0_hearersOf_41 rfl (by decide) rfl rfl ?_
          refine a_goto (tgt := 5) dX0_hearersOf_44 (by decide) ?_
          refine a_forget [] rfl ?_
          simp only [zbits]
          first
          | (rw [if_pos (by rw [if_pos (by omega)])]; exact ih _ _ _ (by omega) (by omega) hE)
          | (rw [if_pos (by rw [if_neg (by omega)]; omega)]; exact ih _ _ _ (by omega) (by omega) hE2)
          | (rw [if_neg (by rw [if_neg (by omega)]; omega)]; exact ih _ _ _ (by omega) (by omega) hE2)

set_option maxRecDepth 100000 in
set_option maxHeartbeats 4000000 in
theorem m_X0_hearersOf {G : zG} {l : Launch} {L : Nat} {P : zP} {M : zM} {a t : Nat} {h : Int} (hc : CS L P t a) (hi : CI M t a) (h0 : 0 ≤ h) (h1 : h < 6) : AM G l yX0_hearersOf mdX0_hearersOf [aR 50, aR a, aI h] (LAY L) P M (zany (LAY L) P (fun x M' => Ec M M' ∧ x = zbits (fun j => if j = h then 0 else hrM M t a j h) (M t 2).toNat 0 0)) := by
  refine AM.go [some (aR 50), some (aR a), some (aI h), none, none] rfl (Nat.le_of_ble_eq_true rfl) ?_ (by decide) rfl rfl
  refine a_iconst dX0_hearersOf_0 ?_
  refine c_istoren (ls' := [_, _, _, _, _]) dX0_hearersOf_1 (by decide) rfl rfl ?_
  refine a_iconst dX0_hearersOf_2 ?_
  refine c_istore (ls' := [_, _, _, _, _]) dX0_hearersOf_3 (by decide) rfl rfl ?_
  exact lpX0_hearersOf hc hi h0 h1 (M t 2).toNat 0 0 M (by omega) (by have := hi.1.1; omega) (Ec.rf M)

set_option maxRecDepth 100000 in
set_option maxHeartbeats 4000000 in
theorem lpX0_soundMade {G : zG} {l : Launch} {L : Nat} {P : zP} {a t : Nat} {y kd : Int} {nn : Int} (hc : CS L P t a) (y0 : 0 ≤ y) (y1 : y < 6) (hk : 0 ≤ kd ∧ kd ≤ 9) (hn : 0 ≤ nn ∧ nn ≤ 6) : ∀ (n : Nat) (i acc : Int) (M Ma : zM) (g0 : 0 ≤ i) (g1 : i + n = Ma t 2) (hE : Ec Ma M) (hI2 : CI Ma t a), AW G l mdX0_soundMade (zany (LAY L) P (fun x M' => Ec (sdM t a y kd n i Ma acc).1 M' ∧ x = (sdM t a y kd n i Ma acc).2)) 6 [some (aR 50), some (aR a), some (aI y), some (aI kd), some (aI acc), some (aI i)] [] (LAY L) P M 0 0 := by
  intro n
  induction n with
  | zero =>
    intro i acc M Ma g0 g1 hE hI2
    obtain ⟨hP, hTp, hT, ht, hS, ha⟩ := id hc
    have q1 := hI2.1.1
    refine a_iload dX0_soundMade_6 rfl ?_
    refine a_aloadn dX0_soundMade_8 rfl ?_
    refine a_getR (j' := 0) (y := t) dX0_soundMade_9 flX0_18 rfl rfl (L50 L) hTp ?_
    refine b_getI (j' := 2) dX0_soundMade_12 flX0_105 rfl rfl hT.1.2.1 (fun hr12 => ?_)
    have e1 : M t 2 = Ma t 2 := hE _ _ (by omega) (by omega) (by omega)
    rw [e1] at hr12
    rw [e1]
    refine a_icmp_ge (tgt := 90) dX0_soundMade_15 (by decide) ⟨by omega, by omega⟩ ⟨by omega, by omega⟩ (fun hb15 => ?_) (fun hb15 => ?_)
    · refine a_iload dX0_soundMade_90 rfl ?_
      exact a_ireturn dX0_soundMade_92 rfl rfl rfl (zany_i ⟨hE, rfl⟩)
    · exfalso; omega
  | succ n ih =>
    intro i acc M Ma g0 g1 hE hI2
    obtain ⟨hP, hTp, hT, ht, hS, ha⟩ := id hc
    have q1 := hI2.1.1
    refine a_iload dX0_soundMade_6 rfl ?_
    refine a_aloadn dX0_soundMade_8 rfl ?_
    refine a_getR (j' := 0) (y := t) dX0_soundMade_9 flX0_18 rfl rfl (L50 L) hTp ?_
    refine b_getI (j' := 2) dX0_soundMade_12 flX0_105 rfl rfl hT.1.2.1 (fun hr12 => ?_)
    have e1 : M t 2 = Ma t 2 := hE _ _ (by omega) (by omega) (by omega)
    rw [e1] at hr12
    rw [e1]
    refine a_icmp_ge (tgt := 90) dX0_soundMade_15 (by decide) ⟨by omega, by omega⟩ ⟨by omega, by omega⟩ (fun hb15 => ?_) (fun hb15 => ?_)
    · exfalso; omega
    · refine a_iload dX0_soundMade_18 rfl ?_
      refine a_iloadn dX0_soundMade_20 rfl ?_
      refine a_icmp_eq (tgt := 84) dX0_soundMade_21 (by decide) ⟨by omega, by omega⟩ ⟨by omega, by omega⟩ (fun hb21 => ?_) (fun hb21 => ?_)
      · refine c_iinc (ls' := [_, _, _, _, _, _]) dX0_soundMade_84 rfl (by decide) rfl rfl ?_
        refine a_goto (tgt := 6) dX0_soundMade_87 (by decide) ?_
        simp only [sdM]
        first
        | (rw [if_pos (by omega)]; exact ih _ _ _ _ (by omega) (by omega) hE hI2)
        | (rw [if_pos (by omega)]; exact ih _ _ _ _ (by omega) (by omega) hE2 hI2)
        | (rw [if_neg (by omega)]; refine ih _ _ _ (learnM Ma t a i y kd) (by omega) (by omega) ?_ (((learnM_Fa Ma t a i y kd)).ci (by omega) (by omega) hI2 (learnM_I hI2.2.2.1 ⟨by omega, by omega⟩ ⟨y0, y1⟩ hk))
           unfold learnM
           first
           | (rw [if_neg (by omega)]; exact hE4)
           | (rw [if_pos (by omega), show hearM Ma a i y kd (a + 3) i = M3 (a + 3) i from (hE4 _ _ (by omega) (by omega) (by omega)).symm]; exact hE4.sm2 _ _ _))
      · refine a_aloadn dX0_soundMade_24 rfl ?_
        refine a_aloadn dX0_soundMade_25 rfl ?_
        refine a_iload dX0_soundMade_26 rfl ?_
        refine a_iloadn dX0_soundMade_28 rfl ?_
        refine a_anyV (as := [_, _, _]) (q := 50) dX0_soundMade_29 mvX0_108 ⟨by decide, by decide⟩ (L50 L) rfl rfl rfl (Nat.le_of_ble_eq_true rfl) ⟨rfl, rfl⟩ ⟨by decide, by decide⟩ (m_doesHear hc (hE.ci (by omega) (by omega) hI2) (by omega) (by omega) y0 y1) (fun x9 M1 hM1 => ?_)
        have hE2 := hE.tr hM1.1
        have h01 := hrM01 Ma t a i y
        have hx0 := hM1.2
        rw [hE.hr (by omega) (by omega)] at hx0
        refine a_if_eq (tgt := 84) dX0_soundMade_32 (by decide) ⟨by omega, by omega⟩ (fun hb32 => ?_) (fun hb32 => ?_)
        · refine c_iinc (ls' := [_, _, _, _, _, _]) dX0_soundMade_84 rfl (by decide) rfl rfl ?_
          refine a_goto (tgt := 6) dX0_soundMade_87 (by decide) ?_
          simp only [sdM]
          first
          | (rw [if_pos (by omega)]; exact ih _ _ _ _ (by omega) (by omega) hE hI2)
          | (rw [if_pos (by omega)]; exact ih _ _ _ _ (by omega) (by omega) hE2 hI2)
          | (rw [if_neg (by omega)]; refine ih _ _ _ (learnM Ma t a i y kd) (by omega) (by omega) ?_ (((learnM_Fa Ma t a i y kd)).ci (by omega) (by omega) hI2 (learnM_I hI2.2.2.1 ⟨by omega, by omega⟩ ⟨y0, y1⟩ hk))
             unfold learnM
             first
             | (rw [if_neg (by omega)]; exact hE4)
             | (rw [if_pos (by omega), show hearM Ma a i y kd (a + 3) i = M3 (a + 3) i from (hE4 _ _ (by omega) (by omega) (by omega)).symm]; exact hE4.sm2 _ _ _))
        · refine a_iload dX0_soundMade_35 rfl ?_
          refine a_iconst dX0_soundMade_37 ?_
          refine a_iload dX0_soundMade_38 rfl ?_
          refine a_ishl dX0_soundMade_40 ?_
          refine a_ior dX0_soundMade_41 ?_
          refine c_istore (ls' := [_, _, _, _, _, _]) dX0_soundMade_42 (by decide) rfl rfl ?_
          have hx := hM1.2
          rw [hE.hr (by omega) (by omega)] at hx
          have hI4 := (hE2.ci (by omega) (by omega) hI2)
          refine a_aloadn dX0_soundMade_44 rfl ?_
          refine a_iload dX0_soundMade_45 rfl ?_
          refine a_iloadn dX0_soundMade_47 rfl ?_
          refine a_iloadn dX0_soundMade_48 rfl ?_
          refine a_callVv (as := [_, _, _]) (q := a) dX0_soundMade_49 mvX0_112 ⟨by decide, by decide⟩ hS.2.1 rfl rfl rfl (Nat.le_of_ble_eq_true rfl) ⟨rfl, rfl⟩ ⟨by decide, by decide⟩ (m_hear hS hI4.2.2.1 (by omega) (by omega) y0 y1 ⟨by omega, by omega⟩) ?_
          refine a_aloadn dX0_soundMade_52 rfl ?_
          refine a_iload dX0_soundMade_53 rfl ?_
          refine a_iloadn dX0_soundMade_55 rfl ?_
          refine a_callV (as := [_, _]) (q := a) dX0_soundMade_56 mvX0_116 ⟨by decide, by decide⟩ hS.2.1 rfl rfl rfl (Nat.le_of_ble_eq_true rfl) ⟨rfl, rfl⟩ ⟨by decide, by decide⟩ (m_X5_timesHeard hS (by omega) (by omega) y0 y1) ?_
          refine a_aloadn dX0_soundMade_59 rfl ?_
          refine a_aloadn dX0_soundMade_60 rfl ?_
          refine a_iload dX0_soundMade_61 rfl ?_
          refine a_iloadn dX0_soundMade_63 rfl ?_
          refine a_iloadn dX0_soundMade_64 rfl ?_
          have hE3 : Ec (hearM Ma a i y kd) (hearM M1 a i y kd) := hE2.hear (by omega) i y kd
          refine a_anyV (as := [_, _, _, _]) (q := 50) dX0_soundMade_65 mvX0_120 ⟨by decide, by decide⟩ (L50 L) rfl rfl rfl (Nat.le_of_ble_eq_true rfl) ⟨rfl, rfl⟩ ⟨by decide, by decide⟩ (m_needed hc (hE3.ci (by omega) (by omega) ((hearM_Fa Ma a i y kd).ci (by omega) (by omega) hI2 (hearM_I hI2.2.2.1 ⟨by omega, by omega⟩ ⟨y0, y1⟩ hk))) (by omega) (by omega) y0 y1 hk) (fun x8 M3 hM3 => ?_)
          have hxn := hM3.2
          rw [hE3.nd (by omega) (by omega)] at hxn
          have e5 : hearM M1 a i y kd (a + 5) (i * 6 + y) = hearM Ma a i y kd (a + 5) (i * 6 + y) := hE3 _ _ (by omega) (by omega) (by omega)
          rw [e5]
          have hE4 := hE3.tr hM3.1
          have hI6 := (hearM_I (x := i) (y := y) (kd := kd) hI2.2.2.1 ⟨by omega, by omega⟩ ⟨y0, y1⟩ hk)
          have q5 := hI6.2.2.2.2.1 (i * 6 + y) (by omega) (by omega)
          have q6 := lawE_in (r := lwf (hearM Ma a i y kd) (t + 15) (nmf (hearM Ma a i y kd (a + 1) i) (hearM Ma a i y kd (a + 2) i) (iabs (hearM Ma a i y kd (a + 1) i - hearM Ma a i y kd (a + 1) y)) kd (hearM Ma a i y kd (a + 5) (i * 6 + y)) (bcnt (hearM Ma a i y kd (a + 3) i)) (hearM Ma a i y kd a 5))) (w := hearM Ma a i y kd (t + 10) 1) (lo := 1) (hi := 99) (by decide)
          have q7 : ndM (hearM Ma a i y kd) t a i y kd = hearM Ma a i y kd (t + 10) 1 ∨ (1 ≤ ndM (hearM Ma a i y kd) t a i y kd ∧ ndM (hearM Ma a i y kd) t a i y kd ≤ 99) := q6
          have q8 : hearM Ma a i y kd (t + 10) 1 = Ma (t + 10) 1 := by rw [hearM_Fa Ma a i y kd (t + 10) (by omega)]
          have q9 := hI2.1.2.2.2.2.2.2.2.2.1
          have qf : learnM Ma t a i y kd t 2 = Ma t 2 := by rw [learnM_Fa Ma t a i y kd t (by omega)]
          refine a_icmp_lt (tgt := 84) dX0_soundMade_68 (by decide) ⟨by omega, by omega⟩ ⟨by omega, by omega⟩ (fun hb68 => ?_) (fun hb68 => ?_)
          · refine c_iinc (ls' := [_, _, _, _, _, _]) dX0_soundMade_84 rfl (by decide) rfl rfl ?_
            refine a_goto (tgt := 6) dX0_soundMade_87 (by decide) ?_
            simp only [sdM]
            first
            | (rw [if_pos (by omega)]; exact ih _ _ _ _ (by omega) (by omega) hE hI2)
            | (rw [if_pos (by omega)]; exact ih _ _ _ _ (by omega) (by omega) hE2 hI2)
            | (rw [if_neg (by omega)]; refine ih _ _ _ (learnM Ma t a i y kd) (by omega) (by omega) ?_ (((learnM_Fa Ma t a i y kd)).ci (by omega) (by omega) hI2 (learnM_I hI2.2.2.1 ⟨by omega, by omega⟩ ⟨y0, y1⟩ hk))
               unfold learnM
               first
               | (rw [if_neg (by omega)]; exact hE4)
               | (rw [if_pos (by omega), show hearM Ma a i y kd (a + 3) i = M3 (a + 3) i from (hE4 _ _ (by omega) (by omega) (by omega)).symm]; exact hE4.sm2 _ _ _))
          · refine a_aloadn dX0_soundMade_71 rfl ?_
            refine a_getR (j' := 2) (y := (a + 3)) dX0_soundMade_72 flX0_124 rfl rfl hS.2.1 hS.2.2.2.2.1.2 ?_
            refine a_iload dX0_soundMade_75 rfl ?_
            refine a_dup2IR dX0_soundMade_77 ?_
            refine b_iald (N := 6) dX0_soundMade_78 hS.2.2.2.2.1.1 (by decide) (by omega) (by omega) (fun hr78 => ?_)
            refine a_iconst dX0_soundMade_79 ?_
            refine a_iloadn dX0_soundMade_80 rfl ?_
            refine a_ishl dX0_soundMade_81 ?_
            refine a_ior dX0_soundMade_82 ?_
            refine a_iast (N := 6) dX0_soundMade_83 hS.2.2.2.2.1.1 (by have h9 := hS.1; omega) (by decide) (by omega) (by omega) (ir _) ?_
            refine c_iinc (ls' := [_, _, _, _, _, _]) dX0_soundMade_84 rfl (by decide) rfl rfl ?_
            refine a_goto (tgt := 6) dX0_soundMade_87 (by decide) ?_
            simp only [sdM]
            first
            | (rw [if_pos (by omega)]; exact ih _ _ _ _ (by omega) (by omega) hE hI2)
            | (rw [if_pos (by omega)]; exact ih _ _ _ _ (by omega) (by omega) hE2 hI2)
            | (rw [if_neg (by omega)]; refine ih _ _ _ (learnM Ma t a i y kd) (by omega) (by omega) ?_ (((learnM_Fa Ma t a i y kd)).ci (by omega) (by omega) hI2 (learnM_I hI2.2.2.1 ⟨by omega, by omega⟩ ⟨y0, y1⟩ hk))
               unfold learnM
               first
               | (rw [if_neg (by omega)]; exact hE4)
               | (rw [if_pos (by omega), show hearM Ma a i y kd (a + 3) i = M3 (a + 3) i from (hE4 _ _ (by omega) (by omega) (by omega)).symm]; exact hE4.sm2 _ _ _))

set_option maxRecDepth 100000 in
set_option maxHeartbeats 4000000 in
theorem m_X0_soundMade {G : zG} {l : Launch} {L : Nat} {P : zP} {M : zM} {a t : Nat} {y kd : Int} (hc : CS L P t a) (hi : CI M t a) (y0 : 0 ≤ y) (y1 : y < 6) (hk : 0 ≤ kd ∧ kd ≤ 9) : AM G l yX0_soundMade mdX0_soundMade [aR 50, aR a, aI y, aI kd] (LAY L) P M (zany (LAY L) P (fun x M' => Ec (sdM t a y kd (M t 2).toNat 0 M 0).1 M' ∧ x = (sdM t a y kd (M t 2).toNat 0 M 0).2)) := by
  refine AM.go [some (aR 50), some (aR a), some (aI y), some (aI kd), none, none] rfl (Nat.le_of_ble_eq_true rfl) ?_ (by decide) rfl rfl
  refine a_iconst dX0_soundMade_0 ?_
  refine c_istore (ls' := [_, _, _, _, _, _]) dX0_soundMade_1 (by decide) rfl rfl ?_
  refine a_iconst dX0_soundMade_3 ?_
  refine c_istore (ls' := [_, _, _, _, _, _]) dX0_soundMade_4 (by decide) rfl rfl ?_
  exact lpX0_soundMade (nn := 0) hc y0 y1 hk ⟨by decide, by decide⟩ (M t 2).toNat 0 0 M M (by omega) (by have := hi.1.1; omega) (Ec.rf M) hi
