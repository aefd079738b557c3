set_option maxRecDepth 100000 in
set_option maxHeartbeats 4000000 in
theorem offX0_turnDials {G : zG} {l : Launch} {L : Nat} {P : zP} {M : zM} {t a : Nat} {i : Int} (hf : M 50 4 = 0) : AW G l mdX0_turnDials (zdet none (LAY L) P M) 2 [some (aR 50), some (aR a), some (aI i)] [] (LAY L) P M 0 0 := by
  refine a_aloadn dX0_turnDials_2 rfl ?_
  refine b_getZ (j' := 4) dX0_turnDials_3 flX0_36 rfl rfl (L50 L) (fun hr3 => ?_)
  refine a_if_eq (tgt := 65) dX0_turnDials_6 (by decide) ⟨by omega, by omega⟩ (fun hb6 => ?_) (fun hb6 => ?_)
  · exact a_return dX0_turnDials_65 rfl rfl rfl (zdet_V rfl)
  · exfalso; omega

set_option maxRecDepth 100000 in
set_option maxHeartbeats 4000000 in
theorem lpX0_turnDials {G : zG} {l : Launch} {L : Nat} {P : zP} {t a : Nat} (hc : CS L P t a) : ∀ (n : Nat) (i : Int) (M : zM) (g0 : 0 ≤ i) (g1 : i + n = M t 6) (hf : M 50 4 ≠ 0) (hi : CI M t a), AW G l mdX0_turnDials (zdet none (LAY L) P (tdM t a n i M)) 2 [some (aR 50), some (aR a), some (aI i)] [] (LAY L) P M 0 0 := by
  intro n
  induction n with
  | zero =>
    intro i M g0 g1 hf hi
    obtain ⟨hP, hTp, hT, ht, hS, ha⟩ := id hc
    have q1 := hi.1.2.1
    refine a_aloadn dX0_turnDials_2 rfl ?_
    refine b_getZ (j' := 4) dX0_turnDials_3 flX0_36 rfl rfl (L50 L) (fun hr3 => ?_)
    refine a_if_eq (tgt := 65) dX0_turnDials_6 (by decide) ⟨by omega, by omega⟩ (fun hb6 => ?_) (fun hb6 => ?_)
    · exfalso; omega
    · refine a_iloadn dX0_turnDials_9 rfl ?_
      refine a_aloadn dX0_turnDials_10 rfl ?_
      refine a_getR (j' := 0) (y := t) dX0_turnDials_11 flX0_18 rfl rfl (L50 L) hTp ?_
      refine b_getI (j' := 6) dX0_turnDials_14 flX0_75 rfl rfl hT.1.2.1 (fun hr14 => ?_)
      refine a_icmp_ge (tgt := 65) dX0_turnDials_17 (by decide) ⟨by omega, by omega⟩ ⟨by omega, by omega⟩ (fun hb17 => ?_) (fun hb17 => ?_)
      · exact a_return dX0_turnDials_65 rfl rfl rfl (zdet_V rfl)
      · exfalso; omega
  | succ n ih =>
    intro i M g0 g1 hf hi
    obtain ⟨hP, hTp, hT, ht, hS, ha⟩ := id hc
    have q1 := hi.1.2.1
    refine a_aloadn dX0_turnDials_2 rfl ?_
    refine b_getZ (j' := 4) dX0_turnDials_3 flX0_36 rfl rfl (L50 L) (fun hr3 => ?_)
    refine a_if_eq (tgt := 65) dX0_turnDials_6 (by decide) ⟨by omega, by omega⟩ (fun hb6 => ?_) (fun hb6 => ?_)
    · exfalso; omega
    · refine a_iloadn dX0_turnDials_9 rfl ?_
      refine a_aloadn dX0_turnDials_10 rfl ?_
      refine a_getR (j' := 0) (y := t) dX0_turnDials_11 flX0_18 rfl rfl (L50 L) hTp ?_
      refine b_getI (j' := 6) dX0_turnDials_14 flX0_75 rfl rfl hT.1.2.1 (fun hr14 => ?_)
      refine a_icmp_ge (tgt := 65) dX0_turnDials_17 (by decide) ⟨by omega, by omega⟩ ⟨by omega, by omega⟩ (fun hb17 => ?_) (fun hb17 => ?_)
      · exfalso; omega
      · refine a_aloadn dX0_turnDials_20 rfl ?_
        refine a_getR (j' := 0) (y := t) dX0_turnDials_21 flX0_18 rfl rfl (L50 L) hTp ?_
        refine a_getR (j' := 8) (y := (t + 5)) dX0_turnDials_24 flX0_77 rfl rfl hT.1.2.1 hT.1.2.2.2.2.2.2.1.2 ?_
        refine a_iloadn dX0_turnDials_27 rfl ?_
        have q2 := hi.1.2.2.2.2.2.1 i (by omega) (by omega)
        refine b_iald (N := 10) dX0_turnDials_28 hT.1.2.2.2.2.2.2.1.1 (by decide) (by omega) (by omega) (fun hr28 => ?_)
        refine a_aloadn dX0_turnDials_29 rfl ?_
        refine b_getI (j' := 5) dX0_turnDials_30 flX0_48 rfl rfl hS.2.1 (fun hr30 => ?_)
        refine a_icmp_ne (tgt := 59) dX0_turnDials_33 (by decide) ⟨by omega, by omega⟩ hr30 (fun hb33 => ?_) (fun hb33 => ?_)
        · refine c_iinc (ls' := [_, _, _]) dX0_turnDials_59 rfl (by decide) rfl rfl ?_
          refine a_goto (tgt := 2) dX0_turnDials_62 (by decide) ?_
          simp only [tdM]
          first
          | (rw [if_neg hb33]; exact ih _ _ (by omega) (by omega) hf hi)
          | (rw [if_pos (by omega)]; exact ih _ _ (by omega) (by rw [sm_n (by omega)]; omega) (by rw [sm_n (by omega)]; exact hf) (((Fa.rf a M).sm (by omega) _ _).ci (by omega) (by omega) hi (hi.2.2.1.d rfl q2.2.2)))
        · refine a_aloadn dX0_turnDials_36 rfl ?_
          refine a_getR (j' := 0) (y := (a + 1)) dX0_turnDials_37 flX0_80 rfl rfl hS.2.1 hS.2.2.1.2 ?_
          refine a_aloadn dX0_turnDials_40 rfl ?_
          refine a_getR (j' := 0) (y := t) dX0_turnDials_41 flX0_18 rfl rfl (L50 L) hTp ?_
          refine a_getR (j' := 7) (y := (t + 4)) dX0_turnDials_44 flX0_83 rfl rfl hT.1.2.1 hT.1.2.2.2.2.2.1.2 ?_
          refine a_iloadn dX0_turnDials_47 rfl ?_
          refine b_iald (N := 10) dX0_turnDials_48 hT.1.2.2.2.2.2.1.1 (by decide) (by omega) (by omega) (fun hr48 => ?_)
          refine a_aloadn dX0_turnDials_49 rfl ?_
          refine a_getR (j' := 0) (y := t) dX0_turnDials_50 flX0_18 rfl rfl (L50 L) hTp ?_
          refine a_getR (j' := 9) (y := (t + 6)) dX0_turnDials_53 flX0_86 rfl rfl hT.1.2.1 hT.1.2.2.2.2.2.2.2.1.2 ?_
          refine a_iloadn dX0_turnDials_56 rfl ?_
          refine b_iald (N := 10) dX0_turnDials_57 hT.1.2.2.2.2.2.2.2.1.1 (by decide) (by omega) (by omega) (fun hr57 => ?_)
          refine a_iast (N := 6) dX0_turnDials_58 hS.2.2.1.1 (by have h9 := hS.1; omega) (by decide) (by omega) (by omega) ⟨by omega, by omega⟩ ?_
          refine c_iinc (ls' := [_, _, _]) dX0_turnDials_59 rfl (by decide) rfl rfl ?_
          refine a_goto (tgt := 2) dX0_turnDials_62 (by decide) ?_
          simp only [tdM]
          first
          | (rw [if_neg hb33]; exact ih _ _ (by omega) (by omega) hf hi)
          | (rw [if_pos (by omega)]; exact ih _ _ (by omega) (by rw [sm_n (by omega)]; omega) (by rw [sm_n (by omega)]; exact hf) (((Fa.rf a M).sm (by omega) _ _).ci (by omega) (by omega) hi (hi.2.2.1.d rfl q2.2.2)))

set_option maxRecDepth 100000 in
set_option maxHeartbeats 4000000 in
theorem m_X0_turnDials {G : zG} {l : Launch} {L : Nat} {P : zP} {M : zM} {t a : Nat} (hc : CS L P t a) (hi : CI M t a) : AM G l yX0_turnDials mdX0_turnDials [aR 50, aR a] (LAY L) P M (zdet none (LAY L) P (if M 50 4 = 0 then M else tdM t a (M t 6).toNat 0 M)) := by
  refine AM.go [some (aR 50), some (aR a), none] rfl (Nat.le_of_ble_eq_true rfl) ?_ (by decide) rfl rfl
  refine a_iconst dX0_turnDials_0 ?_
  refine c_istoren (ls' := [_, _, _]) dX0_turnDials_1 (by decide) rfl rfl ?_
  have q1 := hi.1.2.1
  by_cases hf : M 50 4 = 0
  · rw [if_pos hf]; exact offX0_turnDials (t := t) hf
  · rw [if_neg hf]; exact lpX0_turnDials hc (M t 6).toNat 0 M (by omega) (by omega) hf hi

theorem sdM_cong {t a : Nat} (ht : t ≤ 25) (ha : 54 ≤ a) (y kd : Int) : ∀ (n : Nat) (i : Int) (Ma M : zM) (acc : Int), Ec Ma M → Ec (sdM t a y kd n i Ma acc).1 (sdM t a y kd n i M acc).1 ∧ (sdM t a y kd n i M acc).2 = (sdM t a y kd n i Ma acc).2
  | 0, i, Ma, M, acc, h => ⟨h, rfl⟩
  | n + 1, i, Ma, M, acc, h => by
    unfold sdM
    rw [h.hr ht ha]
    split
    · exact sdM_cong ht ha y kd n (i + 1) Ma M acc h
    · refine sdM_cong ht ha y kd n (i + 1) _ _ _ ?_
      have h1 := h.hear ha i y kd
      unfold learnM
      rw [h1.nd ht ha, h1 (a + 5) (i * 6 + y) (by omega) (by omega) (by omega), h1 (a + 3) i (by omega) (by omega) (by omega)]
      split
      · exact h1.sm2 _ _ _
      · exact h1
theorem m_soundMade2 {G : zG} {l : Launch} {L : Nat} {P : zP} {Ma M : zM} {a t : Nat} {y kd : Int} (hc : CS L P t a) (hE : Ec Ma M) (hi : CI Ma t a) (y0 : 0 ≤ y) (y1 : y < 6) (hk : 0 ≤ kd ∧ kd ≤ 9) : AM G l yX0_soundMade mdX0_soundMade [aR 50, aR a, aI y, aI kd] (LAY L) P M (zany (LAY L) P (fun x M' => Ec (sdM t a y kd (Ma t 2).toNat 0 Ma 0).1 M' ∧ x = (sdM t a y kd (Ma t 2).toNat 0 Ma 0).2)) := by
  have ht := hc.2.2.2.1
  have ha := hc.2.2.2.2.2
  have h := m_X0_soundMade (G := G) (l := l) hc (hE.ci (by omega) (by omega) hi) y0 y1 hk
  rw [hE t 2 (by omega) (by omega) (by omega)] at h
  have hs := sdM_cong (t := t) (a := a) (by omega) (by omega) y kd (Ma t 2).toNat 0 Ma M 0 hE
  refine h.mono ?_
  rintro r lay P' M' ⟨h2, h3, x, h4, h5, h6⟩
  exact ⟨h2, h3, x, h4, hs.1.tr h5, h6.trans hs.2⟩

set_option maxRecDepth 100000 in
set_option maxHeartbeats 4000000 in
theorem lpX0_soundInRooms {G : zG} {l : Launch} {L : Nat} {P : zP} {t a : Nat} (hc : CS L P t a) : ∀ (n : Nat) (i : Int) (M Ma : zM) (g0 : 0 ≤ i) (g1 : i + n = Ma t 10) (hE : Ec Ma M) (hI2 : CI Ma t a), AW G l mdX0_soundInRooms (zrel none (LAY L) P (fun M' => Ec (srM t a n i Ma) M')) 2 [some (aR 50), some (aR a), some (aI i)] [] (LAY L) P M 0 0 := by
  intro n
  induction n with
  | zero =>
    intro i M Ma g0 g1 hE hI2
    obtain ⟨hP, hTp, hT, ht, hS, ha⟩ := id hc
    have q1 := hI2.1.2.2.1
    have q2 := hI2.1.1
    refine a_iloadn dX0_soundInRooms_2 rfl ?_
    refine a_aloadn dX0_soundInRooms_3 rfl ?_
    refine a_getR (j' := 0) (y := t) dX0_soundInRooms_4 flX0_18 rfl rfl (L50 L) hTp ?_
    refine b_getI (j' := 10) dX0_soundInRooms_7 flX0_89 rfl rfl hT.1.2.1 (fun hr7 => ?_)
    have e7 : M t 10 = Ma t 10 := hE _ _ (by omega) (by omega) (by omega)
    rw [e7] at hr7
    rw [e7]
    refine a_icmp_ge (tgt := 75) dX0_soundInRooms_10 (by decide) ⟨by omega, by omega⟩ ⟨by omega, by omega⟩ (fun hb10 => ?_) (fun hb10 => ?_)
    · exact a_return dX0_soundInRooms_75 rfl rfl rfl (zrel_V hE)
    · exfalso; omega
  | succ n ih =>
    intro i M Ma g0 g1 hE hI2
    obtain ⟨hP, hTp, hT, ht, hS, ha⟩ := id hc
    have q1 := hI2.1.2.2.1
    have q2 := hI2.1.1
    refine a_iloadn dX0_soundInRooms_2 rfl ?_
    refine a_aloadn dX0_soundInRooms_3 rfl ?_
    refine a_getR (j' := 0) (y := t) dX0_soundInRooms_4 flX0_18 rfl rfl (L50 L) hTp ?_
    refine b_getI (j' := 10) dX0_soundInRooms_7 flX0_89 rfl rfl hT.1.2.1 (fun hr7 => ?_)
    have e7 : M t 10 = Ma t 10 := hE _ _ (by omega) (by omega) (by omega)
    rw [e7] at hr7
    rw [e7]
    refine a_icmp_ge (tgt := 75) dX0_soundInRooms_10 (by decide) ⟨by omega, by omega⟩ ⟨by omega, by omega⟩ (fun hb10 => ?_) (fun hb10 => ?_)
    · exfalso; omega
    · refine a_aloadn dX0_soundInRooms_13 rfl ?_
      refine a_getR (j' := 0) (y := t) dX0_soundInRooms_14 flX0_18 rfl rfl (L50 L) hTp ?_
      refine a_getR (j' := 12) (y := (t + 8)) dX0_soundInRooms_17 flX0_92 rfl rfl hT.1.2.1 hT.1.2.2.2.2.2.2.2.2.2.1.2 ?_
      refine a_iloadn dX0_soundInRooms_20 rfl ?_
      refine b_iald (N := 12) dX0_soundInRooms_21 hT.1.2.2.2.2.2.2.2.2.2.1.1 (by decide) (by omega) (by omega) (fun hr21 => ?_)
      have q3 := hI2.1.2.2.2.2.2.2.1 i (by omega) (by omega)
      have e21 : M (t + 8) i = Ma (t + 8) i := hE _ _ (by omega) (by omega) (by omega)
      rw [e21] at hr21
      rw [e21]
      refine a_aloadn dX0_soundInRooms_22 rfl ?_
      refine b_getI (j' := 5) dX0_soundInRooms_23 flX0_48 rfl rfl hS.2.1 (fun hr23 => ?_)
      have e23 : M a 5 = Ma a 5 := hE _ _ (by omega) (by omega) (by omega)
      rw [e23] at hr23
      rw [e23]
      refine a_icmp_ne (tgt := 69) dX0_soundInRooms_26 (by decide) hr21 hr23 (fun hb26 => ?_) (fun hb26 => ?_)
      · refine c_iinc (ls' := [_, _, _]) dX0_soundInRooms_69 rfl (by decide) rfl rfl ?_
        refine a_goto (tgt := 2) dX0_soundInRooms_72 (by decide) ?_
        simp only [srM]
        first
        | (rw [if_neg (fun z => hb26 z.1)]; exact ih _ _ _ (by omega) (by omega) hE hI2)
        | (rw [if_neg (fun z => z.2 hb42)]; exact ih _ _ _ (by omega) (by omega) hE hI2)
        | (rw [if_pos ⟨hb26, hb42⟩]; exact ih _ _ _ (by omega) (by rw [sdM_Fa t a _ _ _ _ Ma 0 t (by omega)]; omega) hM1.1 ((sdM_Fa t a _ _ _ _ Ma 0).ci (by omega) (by omega) hI2 (sdM_I t a ⟨by omega, by omega⟩ ⟨by omega, by omega⟩ _ 0 Ma 0 hI2.2.2.1 (by omega) (by omega))))
      · refine a_aloadn dX0_soundInRooms_29 rfl ?_
        refine a_getR (j' := 0) (y := t) dX0_soundInRooms_30 flX0_18 rfl rfl (L50 L) hTp ?_
        refine a_getR (j' := 11) (y := (t + 7)) dX0_soundInRooms_33 flX0_95 rfl rfl hT.1.2.1 hT.1.2.2.2.2.2.2.2.2.1.2 ?_
        refine a_iloadn dX0_soundInRooms_36 rfl ?_
        refine b_iald (N := 12) dX0_soundInRooms_37 hT.1.2.2.2.2.2.2.2.2.1.1 (by decide) (by omega) (by omega) (fun hr37 => ?_)
        have e37 : M (t + 7) i = Ma (t + 7) i := hE _ _ (by omega) (by omega) (by omega)
        rw [e37] at hr37
        rw [e37]
        refine a_aloadn dX0_soundInRooms_38 rfl ?_
        refine b_getI (j' := 5) dX0_soundInRooms_39 flX0_39 rfl rfl (L50 L) (fun hr39 => ?_)
        have e39 : M 50 5 = Ma 50 5 := hE _ _ (by omega) (by omega) (by omega)
        rw [e39] at hr39
        rw [e39]
        refine a_icmp_eq (tgt := 69) dX0_soundInRooms_42 (by decide) hr37 hr39 (fun hb42 => ?_) (fun hb42 => ?_)
        · refine c_iinc (ls' := [_, _, _]) dX0_soundInRooms_69 rfl (by decide) rfl rfl ?_
          refine a_goto (tgt := 2) dX0_soundInRooms_72 (by decide) ?_
          simp only [srM]
          first
          | (rw [if_neg (fun z => hb26 z.1)]; exact ih _ _ _ (by omega) (by omega) hE hI2)
          | (rw [if_neg (fun z => z.2 hb42)]; exact ih _ _ _ (by omega) (by omega) hE hI2)
          | (rw [if_pos ⟨hb26, hb42⟩]; exact ih _ _ _ (by omega) (by rw [sdM_Fa t a _ _ _ _ Ma 0 t (by omega)]; omega) hM1.1 ((sdM_Fa t a _ _ _ _ Ma 0).ci (by omega) (by omega) hI2 (sdM_I t a ⟨by omega, by omega⟩ ⟨by omega, by omega⟩ _ 0 Ma 0 hI2.2.2.1 (by omega) (by omega))))
        · refine a_aloadn dX0_soundInRooms_45 rfl ?_
          refine a_aloadn dX0_soundInRooms_46 rfl ?_
          refine a_aloadn dX0_soundInRooms_47 rfl ?_
          refine a_getR (j' := 0) (y := t) dX0_soundInRooms_48 flX0_18 rfl rfl (L50 L) hTp ?_
          refine a_getR (j' := 11) (y := (t + 7)) dX0_soundInRooms_51 flX0_95 rfl rfl hT.1.2.1 hT.1.2.2.2.2.2.2.2.2.1.2 ?_
          refine a_iloadn dX0_soundInRooms_54 rfl ?_
          refine b_iald (N := 12) dX0_soundInRooms_55 hT.1.2.2.2.2.2.2.2.2.1.1 (by decide) (by omega) (by omega) (fun hr55 => ?_)
          have e55 : M (t + 7) i = Ma (t + 7) i := hE _ _ (by omega) (by omega) (by omega)
          rw [e55] at hr55
          rw [e55]
          refine a_aloadn dX0_soundInRooms_56 rfl ?_
          refine a_getR (j' := 0) (y := t) dX0_soundInRooms_57 flX0_18 rfl rfl (L50 L) hTp ?_
          refine a_getR (j' := 13) (y := (t + 9)) dX0_soundInRooms_60 flX0_98 rfl rfl hT.1.2.1 hT.1.2.2.2.2.2.2.2.2.2.2.1.2 ?_
          refine a_iloadn dX0_soundInRooms_63 rfl ?_
          refine b_iald (N := 12) dX0_soundInRooms_64 hT.1.2.2.2.2.2.2.2.2.2.2.1.1 (by decide) (by omega) (by omega) (fun hr64 => ?_)
          have e64 : M (t + 9) i = Ma (t + 9) i := hE _ _ (by omega) (by omega) (by omega)
          rw [e64] at hr64
          rw [e64]
          refine a_anyV (as := [_, _, _]) (q := 50) dX0_soundInRooms_65 mvX0_101 ⟨by decide, by decide⟩ (L50 L) rfl rfl rfl (Nat.le_of_ble_eq_true rfl) ⟨rfl, rfl⟩ ⟨by decide, by decide⟩ (m_soundMade2 hc hE hI2 (by omega) (by omega) ⟨by omega, by omega⟩) (fun x9 M1 hM1 => ?_)
          skip
          refine a_popI dX0_soundInRooms_68 ?_
          refine c_iinc (ls' := [_, _, _]) dX0_soundInRooms_69 rfl (by decide) rfl rfl ?_
          refine a_goto (tgt := 2) dX0_soundInRooms_72 (by decide) ?_
          simp only [srM]
          first
          | (rw [if_neg (fun z => hb26 z.1)]; exact ih _ _ _ (by omega) (by omega) hE hI2)
          | (rw [if_neg (fun z => z.2 hb42)]; exact ih _ _ _ (by omega) (by omega) hE hI2)
          | (rw [if_pos ⟨hb26, hb42⟩]; exact ih _ _ _ (by omega) (by rw [sdM_Fa t a _ _ _ _ Ma 0 t (by omega)]; omega) hM1.1 ((sdM_Fa t a _ _ _ _ Ma 0).ci (by omega) (by omega) hI2 (sdM_I t a ⟨by omega, by omega⟩ ⟨by omega, by omega⟩ _ 0 Ma 0 hI2.2.2.1 (by omega) (by omega))))

set_option maxRecDepth 100000 in
set_option maxHeartbeats 4000000 in
theorem m_X0_soundInRooms {G : zG} {l : Launch} {L : Nat} {P : zP} {M : zM} {t a : Nat} (hc : CS L P t a) (hi : CI M t a) : AM G l yX0_soundInRooms mdX0_soundInRooms [aR 50, aR a] (LAY L) P M (zrel none (LAY L) P (fun M' => Ec (srM t a (M t 10).toNat 0 M) M')) := by
  refine AM.go [some (aR 50), some (aR a), none] rfl (Nat.le_of_ble_eq_true rfl) ?_ (by decide) rfl rfl
  refine a_iconst dX0_soundInRooms_0 ?_
  refine c_istoren (ls' := [_, _, _]) dX0_soundInRooms_1 (by decide) rfl rfl ?_
  have q1 := hi.1.2.2.1
  exact lpX0_soundInRooms hc (M t 10).toNat 0 M M (by omega) (by omega) (Ec.rf M) hi

theorem m_cutTo {G : zG} {l : Launch} {L : Nat} {P : zP} {M : zM} {x lo hi : Int} (hx : inL x) (hlo : inR lo) (hhi : inR hi) : AM G l yX0_cutTo mdX0_cutTo [aL x, aI lo, aI hi] (LAY L) P M (zdet (some (aI (ct x lo hi))) (LAY L) P M) := m_X0_cutTo hx hlo hhi

set_option maxRecDepth 100000 in
set_option maxHeartbeats 4000000 in
theorem lpX0_driftDials {G : zG} {l : Launch} {L : Nat} {P : zP} {t a : Nat} (hc : CS L P t a) : ∀ (n : Nat) (i : Int) (M Ma : zM) (g0 : 0 ≤ i) (g1 : i + n = Ma t 2) (hE : Ec Ma M) (hI2 : CI Ma t a), AW G l mdX0_driftDials (zrel none (LAY L) P (fun M' => Ec (drM t a n i Ma) M')) 2 [some (aR 50), some (aR a), some (aI i), none] [] (LAY L) P M 0 0 := by
  intro n
  induction n with
  | zero =>
    intro i M Ma g0 g1 hE hI2
    obtain ⟨hP, hTp, hT, ht, hS, ha⟩ := id hc
    have q2 := hI2.1.1
    have hI3 := hE.ci (by omega) (by omega) hI2
    refine a_iloadn dX0_driftDials_2 rfl ?_
    refine a_aloadn dX0_driftDials_3 rfl ?_
    refine a_getR (j' := 0) (y := t) dX0_driftDials_4 flX0_18 rfl rfl (L50 L) hTp ?_
    refine b_getI (j' := 2) dX0_driftDials_7 flX0_105 rfl rfl hT.1.2.1 (fun hr7 => ?_)
    have e7 : M t 2 = Ma t 2 := hE _ _ (by omega) (by omega) (by omega)
    rw [e7] at hr7
    rw [e7]
    refine a_icmp_ge (tgt := 83) dX0_driftDials_10 (by decide) ⟨by omega, by omega⟩ ⟨by omega, by omega⟩ (fun hb10 => ?_) (fun hb10 => ?_)
    · exact a_return dX0_driftDials_83 rfl rfl rfl (zrel_V hE)
    · exfalso; omega
  | succ n ih =>
    intro i M Ma g0 g1 hE hI2
    obtain ⟨hP, hTp, hT, ht, hS, ha⟩ := id hc
    have q2 := hI2.1.1
    have hI3 := hE.ci (by omega) (by omega) hI2
    refine a_iloadn dX0_driftDials_2 rfl ?_
    refine a_aloadn dX0_driftDials_3 rfl ?_
    refine a_getR (j' := 0) (y := t) dX0_driftDials_4 flX0_18 rfl rfl (L50 L) hTp ?_
    refine b_getI (j' := 2) dX0_driftDials_7 flX0_105 rfl rfl hT.1.2.1 (fun hr7 => ?_)
    have e7 : M t 2 = Ma t 2 := hE _ _ (by omega) (by omega) (by omega)
    rw [e7] at hr7
    rw [e7]
    refine a_icmp_ge (tgt := 83) dX0_driftDials_10 (by decide) ⟨by omega, by omega⟩ ⟨by omega, by omega⟩ (fun hb10 => ?_) (fun hb10 => ?_)
    · exfalso; omega
    · refine a_aloadn dX0_driftDials_13 rfl ?_
      refine a_aloadn dX0_driftDials_14 rfl ?_
      refine a_iloadn dX0_driftDials_15 rfl ?_
      refine a_iconst dX0_driftDials_16 ?_
      refine a_iconst dX0_driftDials_17 ?_
      refine a_iconst dX0_driftDials_18 ?_
      refine a_relVv (as := [_, _, _, _, _]) (q := 50) dX0_driftDials_19 mvX0_127 ⟨by decide, by decide⟩ (L50 L) rfl rfl rfl (Nat.le_of_ble_eq_true rfl) ⟨rfl, rfl⟩ ⟨by decide, by decide⟩ (m_X0_lookAt hP hS ha hI3.2.2.1 (by omega) (by omega) ⟨by omega, by omega⟩ ⟨by omega, by omega⟩ ⟨by omega, by omega⟩) (fun M1 hM1 => ?_)
      refine a_aloadn dX0_driftDials_22 rfl ?_
      refine a_getR (j' := 6) (y := 51) dX0_driftDials_23 flX0_12 rfl rfl (L50 L) (p50_6 hP) ?_
      refine a_aloadn dX0_driftDials_26 rfl ?_
      refine a_getR (j' := 0) (y := t) dX0_driftDials_27 flX0_18 rfl rfl (L50 L) hTp ?_
      refine a_getR (j' := 16) (y := (t + 12)) dX0_driftDials_30 flX0_60 rfl rfl hT.1.2.1 hT.1.2.2.2.2.2.2.2.2.2.2.2.2.2.2 ?_
      refine a_iconst dX0_driftDials_33 ?_
      refine a_aald3 (N := 3) (y := (t + 17)) dX0_driftDials_34 hT.1.2.2.2.2.2.2.2.2.2.2.2.2.2.1 (by decide) (by omega) (by omega) hT.2.2.2.1 ?_
      have q5 := hI3.2.2.1.1 i (by omega) (by omega)
      have q6 := hI3.2.2.1.2.1 i (by omega) (by omega)
      have q7 := bcnt_in (hI3.2.2.1.2.2.1 i (by omega) (by omega))
      have q8 := hI3.2.2.1.2.2.2.2.2.1
      refine a_anyV (as := [_]) (q := 51) dX0_driftDials_35 mvX0_131 ⟨by decide, by decide⟩ (L51 L) rfl rfl rfl (Nat.le_of_ble_eq_true rfl) ⟨rfl, rfl⟩ ⟨by decide, by decide⟩ (m_X6_isWorkedOut hP (w := t + 17) hT.2.2.2.2 (by omega) (LwI_lk (by omega) hM1.1 hI3.2.1.2.2) (nmf_lim hM1.2 q5 q6 ⟨by omega, by omega⟩ ⟨by omega, by omega⟩ ⟨by omega, by omega⟩ q7 q8)) (fun x3 M2 hM2 => ?_)
      have hE2 := lw_use hI3.2.1.2.2 (by omega) hM1 hM2
      have hE3 := hE.tr hE2.1
      have hl := hE2.2
      rw [hE.lwq (w := t + 17) (by omega), hE.row (k := a + 1) (by omega) (by omega) (by omega), hE.row (k := a + 2) (by omega) (by omega) (by omega), hE.row (k := a + 3) (by omega) (by omega) (by omega), hE.row (k := a) (by omega) (by omega) (by omega)] at hl
      have q4 := hI2.2.2.1.1 i (by omega) (by omega)
      refine a_if_eq (tgt := 77) dX0_driftDials_38 (by decide) (by rcases hl with z | z <;> exact ⟨by omega, by omega⟩) (fun hb38 => ?_) (fun hb38 => ?_)
      · refine c_iinc (ls' := [_, _, _, _]) dX0_driftDials_77 rfl (by decide) rfl rfl ?_
        refine a_goto (tgt := 2) dX0_driftDials_80 (by decide) ?_
        refine a_forget [3] (ls' := [_, _, _, none]) rfl ?_
        simp only [drM]
        first
        | (have hv := (hl.resolve_left (fun z => by omega)).2
           have hd : drv Ma t a i = Ma (a + 1) i := by
             unfold drv
             rw [hv]
             show ct (Ma (a + 1) i + 0) 0 99 = _
             rw [Int.add_zero, ct_id q4]
           rw [hd, sm_id rfl]
           exact ih _ _ _ (by omega) (by omega) hE3 hI2)
        | (have hv := (hl.resolve_right (fun z => by omega)).2
           have hd : drv Ma t a i = ct (Ma (a + 1) i + ct (M2 51 2) (-9) 9) 0 99 := by
             unfold drv
             rw [hv]
             rfl
           rw [hd]
           refine ih _ _ _ (by omega) (by rw [sm_n (by omega)]; omega) (hE3.sm2 _ _ _) (((Fa.rf a Ma).sm (by omega) _ _).ci (by omega) (by omega) hI2 (hI2.2.2.1.d rfl (ct_in (by decide)))))
      · refine a_aloadn dX0_driftDials_41 rfl ?_
        refine a_getR (j' := 0) (y := (a + 1)) dX0_driftDials_42 flX0_80 rfl rfl hS.2.1 hS.2.2.1.2 ?_
        refine a_iloadn dX0_driftDials_45 rfl ?_
        refine b_iald (N := 6) dX0_driftDials_46 hS.2.2.1.1 (by decide) (by omega) (by omega) (fun hr46 => ?_)
        have e46 : M2 (a + 1) i = Ma (a + 1) i := hE3 _ _ (by omega) (by omega) (by omega)
        rw [e46] at hr46
        rw [e46]
        refine a_aloadn dX0_driftDials_47 rfl ?_
        refine a_getR (j' := 6) (y := 51) dX0_driftDials_48 flX0_12 rfl rfl (L50 L) (p50_6 hP) ?_
        refine b_getL (j' := 2) dX0_driftDials_51 flX0_135 rfl rfl (L51 L) (fun hr51 => ?_)
        refine a_bipush (w := (-9)) dX0_driftDials_54 (by decide) ?_
        refine a_bipush (w := 9) dX0_driftDials_56 (by decide) ?_
        have q9 : inL (M2 51 2) := hr51
        refine a_callS (as := [_, _, _]) dX0_driftDials_58 mvX0_139 ⟨by decide, by decide⟩ rfl rfl (Nat.le_of_ble_eq_true rfl) ⟨rfl, rfl⟩ ⟨by decide, by decide⟩ (m_cutTo q9 ⟨by decide, by decide⟩ ⟨by decide, by decide⟩) ?_
        refine a_iadd dX0_driftDials_61 ?_
        refine c_istoren (ls' := [_, _, _, _]) dX0_driftDials_62 (by decide) rfl rfl ?_
        refine a_aloadn dX0_driftDials_63 rfl ?_
        refine a_getR (j' := 0) (y := (a + 1)) dX0_driftDials_64 flX0_80 rfl rfl hS.2.1 hS.2.2.1.2 ?_
        refine a_iloadn dX0_driftDials_67 rfl ?_
        refine a_iloadn dX0_driftDials_68 rfl ?_
        refine a_i2l dX0_driftDials_69 (by have q10 := ct_in (x := M2 51 2) (lo := -9) (hi := 9) (by decide); exact ⟨by omega, by omega⟩) ?_
        refine a_iconst dX0_driftDials_70 ?_
        refine a_bipush (w := 99) dX0_driftDials_71 (by decide) ?_
        have q10 := ct_in (x := M2 51 2) (lo := -9) (hi := 9) (by decide)
        refine a_callS (as := [_, _, _]) dX0_driftDials_73 mvX0_139 ⟨by decide, by decide⟩ rfl rfl (Nat.le_of_ble_eq_true rfl) ⟨rfl, rfl⟩ ⟨by decide, by decide⟩ (m_cutTo ⟨by omega, by omega⟩ ⟨by decide, by decide⟩ ⟨by decide, by decide⟩) ?_
        refine a_iast (N := 6) dX0_driftDials_76 hS.2.2.1.1 (by have h9 := hS.1; omega) (by decide) (by omega) (by omega) (by have q11 := ct_in (x := Ma (a + 1) i + ct (M2 51 2) (-9) 9) (lo := 0) (hi := 99) (by decide); exact ⟨by omega, by omega⟩) ?_
        refine c_iinc (ls' := [_, _, _, _]) dX0_driftDials_77 rfl (by decide) rfl rfl ?_
        refine a_goto (tgt := 2) dX0_driftDials_80 (by decide) ?_
        refine a_forget [3] (ls' := [_, _, _, none]) rfl ?_
        simp only [drM]
        first
        | (have hv := (hl.resolve_left (fun z => by omega)).2
           have hd : drv Ma t a i = Ma (a + 1) i := by
             unfold drv
             rw [hv]
             show ct (Ma (a + 1) i + 0) 0 99 = _
             rw [Int.add_zero, ct_id q4]
           rw [hd, sm_id rfl]
           exact ih _ _ _ (by omega) (by omega) hE3 hI2)
        | (have hv := (hl.resolve_right (fun z => by omega)).2
           have hd : drv Ma t a i = ct (Ma (a + 1) i + ct (M2 51 2) (-9) 9) 0 99 := by
             unfold drv
             rw [hv]
             rfl
           rw [hd]
           refine ih _ _ _ (by omega) (by rw [sm_n (by omega)]; omega) (hE3.sm2 _ _ _) (((Fa.rf a Ma).sm (by omega) _ _).ci (by omega) (by omega) hI2 (hI2.2.2.1.d rfl (ct_in (by decide)))))

set_option maxRecDepth 100000 in
set_option maxHeartbeats 4000000 in
theorem m_X0_driftDials {G : zG} {l : Launch} {L : Nat} {P : zP} {M : zM} {t a : Nat} (hc : CS L P t a) (hi : CI M t a) : AM G l yX0_driftDials mdX0_driftDials [aR 50, aR a] (LAY L) P M (zrel none (LAY L) P (fun M' => Ec (drM t a (M t 2).toNat 0 M) M')) := by
  refine AM.go [some (aR 50), some (aR a), none, none] rfl (Nat.le_of_ble_eq_true rfl) ?_ (by decide) rfl rfl
  refine a_iconst dX0_driftDials_0 ?_
  refine c_istoren (ls' := [_, _, _, _]) dX0_driftDials_1 (by decide) rfl rfl ?_
  have q1 := hi.1.1
  exact lpX0_driftDials hc (M t 2).toNat 0 M M (by omega) (by omega) (Ec.rf M) hi

set_option maxRecDepth 100000 in
set_option maxHeartbeats 4000000 in
theorem lpX0_fadeValves {G : zG} {l : Launch} {L : Nat} {P : zP} {t a : Nat} (hc : CS L P t a) : ∀ (n : Nat) (i : Int) (M : zM) (g0 : 0 ≤ i) (g1 : i + n = M t 2) (hi : CI M t a), AW G l mdX0_fadeValves (zdet none (LAY L) P (fvM t a n i M)) 2 [some (aR 50), some (aR a), some (aI i), none] [] (LAY L) P M 0 0 := by
  intro n
  induction n with
  | zero =>
    intro i M g0 g1 hi
    obtain ⟨hP, hTp, hT, ht, hS, ha⟩ := id hc
    have q2 := hi.1.1
    refine a_iloadn dX0_fadeValves_2 rfl ?_
    refine a_aloadn dX0_fadeValves_3 rfl ?_
    refine a_getR (j' := 0) (y := t) dX0_fadeValves_4 flX0_18 rfl rfl (L50 L) hTp ?_
    refine b_getI (j' := 2) dX0_fadeValves_7 flX0_105 rfl rfl hT.1.2.1 (fun hr7 => ?_)
    refine a_icmp_ge (tgt := 75) dX0_fadeValves_10 (by decide) ⟨by omega, by omega⟩ ⟨by omega, by omega⟩ (fun hb10 => ?_) (fun hb10 => ?_)
    · exact a_return dX0_fadeValves_75 rfl rfl rfl (zdet_V rfl)
    · exfalso; omega
  | succ n ih =>
    intro i M g0 g1 hi
    obtain ⟨hP, hTp, hT, ht, hS, ha⟩ := id hc
    have q2 := hi.1.1
    refine a_iloadn dX0_fadeValves_2 rfl ?_
    refine a_aloadn dX0_fadeValves_3 rfl ?_
    refine a_getR (j' := 0) (y := t) dX0_fadeValves_4 flX0_18 rfl rfl (L50 L) hTp ?_
    refine b_getI (j' := 2) dX0_fadeValves_7 flX0_105 rfl rfl hT.1.2.1 (fun hr7 => ?_)
    refine a_icmp_ge (tgt := 75) dX0_fadeValves_10 (by decide) ⟨by omega, by omega⟩ ⟨by omega, by omega⟩ (fun hb10 => ?_) (fun hb10 => ?_)
    · exfalso; omega
    · refine a_aloadn dX0_fadeValves_13 rfl ?_
      refine b_getI (j' := 2) dX0_fadeValves_14 flX0_45 rfl rfl (L50 L) (fun hr14 => ?_)
      refine a_iconst dX0_fadeValves_17 ?_
      refine a_icmp_eq (tgt := 40) dX0_fadeValves_18 (by decide) ⟨by omega, by omega⟩ ⟨by omega, by omega⟩ (fun hb18 => ?_) (fun hb18 => ?_)
      · refine a_iconst dX0_fadeValves_40 ?_
        refine a_goto (tgt := 45) dX0_fadeValves_41 (by decide) ?_
        refine c_istoren (ls' := [_, _, _, _]) dX0_fadeValves_45 (by decide) rfl rfl ?_
        refine a_iloadn dX0_fadeValves_46 rfl ?_
        refine a_if_eq (tgt := 69) dX0_fadeValves_47 (by decide) ⟨by omega, by omega⟩ (fun hb47 => ?_) (fun hb47 => ?_)
        · refine c_iinc (ls' := [_, _, _, _]) dX0_fadeValves_69 rfl (by decide) rfl rfl ?_
          refine a_goto (tgt := 2) dX0_fadeValves_72 (by decide) ?_
          refine a_forget [3] (ls' := [_, _, _, none]) rfl ?_
          first | (have hb37' := Int.not_le.mp hb37) | (have hb37' : True := trivial)
          simp only [fvM]
          first
          | (exfalso; omega)
          | (rw [if_pos ⟨Or.inl hb18, by omega⟩, show fdM t a M = M from by unfold fdM; rw [if_pos hb18]]
             exact ih _ _ (by omega) (by rw [sm_n (by omega)]; omega) (((Fa.rf a M).sm (by omega) _ _).ci (by omega) (by omega) hi (hi.2.2.1.g rfl ⟨by omega, by omega⟩)))
          | (rw [if_neg (fun z => by omega), show fdM t a M = M from by unfold fdM; rw [if_pos hb18]]
             exact ih _ _ (by omega) (by omega) hi)
          | (have ef : fdM t a M = sm M a 6 (nxt (M a 6)) := by unfold fdM; rw [if_neg hb18]
             rw [if_pos ⟨Or.inr hb37', by omega⟩, ef]
             exact ih _ _ (by omega) (by rw [sm_n (by omega), sm_n (by omega)]; omega) (((fdM_Fa t a M).sm (by omega) _ _).ci (by omega) (by omega) hi ((fdM_I hi.2.2.1).g rfl ⟨by omega, by omega⟩) |> (fun z => ef ▸ z)))
          | (have ef : fdM t a M = sm M a 6 (nxt (M a 6)) := by unfold fdM; rw [if_neg hb18]
             rw [if_neg (fun z => by rcases z with ⟨z1 | z1, z2⟩ <;> omega), ef]
             exact ih _ _ (by omega) (by rw [sm_n (by omega)]; omega) ((fdM_Fa t a M).ci (by omega) (by omega) hi (fdM_I hi.2.2.1) |> (fun z => ef ▸ z)))
        · refine a_aloadn dX0_fadeValves_50 rfl ?_
          refine a_getR (j' := 1) (y := (a + 2)) dX0_fadeValves_51 flX0_147 rfl rfl hS.2.1 hS.2.2.2.1.2 ?_
          refine a_iloadn dX0_fadeValves_54 rfl ?_
          refine b_iald (N := 6) dX0_fadeValves_55 hS.2.2.2.1.1 (by decide) (by omega) (by omega) (fun hr55 => ?_)
          first | (have e55 : (sm M a 6 (nxt (M a 6))) (a + 2) i = M (a + 2) i := by rw [sm_n (by omega)]
                   rw [e55] at hr55
                   rw [e55]) | skip
          have q6 := hi.2.2.1.2.1 i (by omega) (by omega)
          refine a_if_le (tgt := 69) dX0_fadeValves_56 (by decide) ⟨by omega, by omega⟩ (fun hb56 => ?_) (fun hb56 => ?_)
          · refine c_iinc (ls' := [_, _, _, _]) dX0_fadeValves_69 rfl (by decide) rfl rfl ?_
            refine a_goto (tgt := 2) dX0_fadeValves_72 (by decide) ?_
            refine a_forget [3] (ls' := [_, _, _, none]) rfl ?_
            first | (have hb37' := Int.not_le.mp hb37) | (have hb37' : True := trivial)
            simp only [fvM]
            first
            | (exfalso; omega)
            | (rw [if_pos ⟨Or.inl hb18, by omega⟩, show fdM t a M = M from by unfold fdM; rw [if_pos hb18]]
               exact ih _ _ (by omega) (by rw [sm_n (by omega)]; omega) (((Fa.rf a M).sm (by omega) _ _).ci (by omega) (by omega) hi (hi.2.2.1.g rfl ⟨by omega, by omega⟩)))
            | (rw [if_neg (fun z => by omega), show fdM t a M = M from by unfold fdM; rw [if_pos hb18]]
               exact ih _ _ (by omega) (by omega) hi)
            | (have ef : fdM t a M = sm M a 6 (nxt (M a 6)) := by unfold fdM; rw [if_neg hb18]
               rw [if_pos ⟨Or.inr hb37', by omega⟩, ef]
               exact ih _ _ (by omega) (by rw [sm_n (by omega), sm_n (by omega)]; omega) (((fdM_Fa t a M).sm (by omega) _ _).ci (by omega) (by omega) hi ((fdM_I hi.2.2.1).g rfl ⟨by omega, by omega⟩) |> (fun z => ef ▸ z)))
            | (have ef : fdM t a M = sm M a 6 (nxt (M a 6)) := by unfold fdM; rw [if_neg hb18]
               rw [if_neg (fun z => by rcases z with ⟨z1 | z1, z2⟩ <;> omega), ef]
               exact ih _ _ (by omega) (by rw [sm_n (by omega)]; omega) ((fdM_Fa t a M).ci (by omega) (by omega) hi (fdM_I hi.2.2.1) |> (fun z => ef ▸ z)))
          · refine a_aloadn dX0_fadeValves_59 rfl ?_
            refine a_getR (j' := 1) (y := (a + 2)) dX0_fadeValves_60 flX0_147 rfl rfl hS.2.1 hS.2.2.2.1.2 ?_
            refine a_iloadn dX0_fadeValves_63 rfl ?_
            refine a_dup2IR dX0_fadeValves_64 ?_
            refine b_iald (N := 6) dX0_fadeValves_65 hS.2.2.2.1.1 (by decide) (by omega) (by omega) (fun hr65 => ?_)
            first | (have e65 : (sm M a 6 (nxt (M a 6))) (a + 2) i = M (a + 2) i := by rw [sm_n (by omega)]
                     rw [e65] at hr65
                     rw [e65]) | skip
            refine a_iconst dX0_fadeValves_66 ?_
            refine a_isub dX0_fadeValves_67 ?_
            refine a_iast (N := 6) dX0_fadeValves_68 hS.2.2.2.1.1 (by have h9 := hS.1; omega) (by decide) (by omega) (by omega) ⟨by omega, by omega⟩ ?_
            refine c_iinc (ls' := [_, _, _, _]) dX0_fadeValves_69 rfl (by decide) rfl rfl ?_
            refine a_goto (tgt := 2) dX0_fadeValves_72 (by decide) ?_
            refine a_forget [3] (ls' := [_, _, _, none]) rfl ?_
            first | (have hb37' := Int.not_le.mp hb37) | (have hb37' : True := trivial)
            simp only [fvM]
            first
            | (exfalso; omega)
            | (rw [if_pos ⟨Or.inl hb18, by omega⟩, show fdM t a M = M from by unfold fdM; rw [if_pos hb18]]
               exact ih _ _ (by omega) (by rw [sm_n (by omega)]; omega) (((Fa.rf a M).sm (by omega) _ _).ci (by omega) (by omega) hi (hi.2.2.1.g rfl ⟨by omega, by omega⟩)))
            | (rw [if_neg (fun z => by omega), show fdM t a M = M from by unfold fdM; rw [if_pos hb18]]
               exact ih _ _ (by omega) (by omega) hi)
            | (have ef : fdM t a M = sm M a 6 (nxt (M a 6)) := by unfold fdM; rw [if_neg hb18]
               rw [if_pos ⟨Or.inr hb37', by omega⟩, ef]
               exact ih _ _ (by omega) (by rw [sm_n (by omega), sm_n (by omega)]; omega) (((fdM_Fa t a M).sm (by omega) _ _).ci (by omega) (by omega) hi ((fdM_I hi.2.2.1).g rfl ⟨by omega, by omega⟩) |> (fun z => ef ▸ z)))
            | (have ef : fdM t a M = sm M a 6 (nxt (M a 6)) := by unfold fdM; rw [if_neg hb18]
               rw [if_neg (fun z => by rcases z with ⟨z1 | z1, z2⟩ <;> omega), ef]
               exact ih _ _ (by omega) (by rw [sm_n (by omega)]; omega) ((fdM_Fa t a M).ci (by omega) (by omega) hi (fdM_I hi.2.2.1) |> (fun z => ef ▸ z)))
      · refine a_aloadn dX0_fadeValves_21 rfl ?_
        refine a_callV (as := []) (q := a) dX0_fadeValves_22 mvX0_143 ⟨by decide, by decide⟩ hS.2.1 rfl rfl rfl (Nat.le_of_ble_eq_true rfl) ⟨rfl, rfl⟩ ⟨by decide, by decide⟩ (m_X5_nextNumber hS hi.2.2.1) ?_
        refine a_bipush (w := 100) dX0_fadeValves_25 (by decide) ?_
        have q3 := nxt_in (M a 6)
        have q4 : 0 ≤ (nxt (M a 6)).tdiv 65536 ∧ (nxt (M a 6)).tdiv 65536 ≤ 2147483647 := by rw [Int.tdiv_eq_ediv_of_nonneg q3.1]; omega
        refine a_irem dX0_fadeValves_27 ⟨by omega, by omega⟩ ⟨by omega, by omega⟩ (by omega) (by omega) ?_
        have q5 : inR (((nxt (M a 6)).tdiv 65536).tmod 100) := by rw [Int.tmod_eq_emod_of_nonneg q4.1]; exact ⟨by omega, by omega⟩
        refine a_aloadn dX0_fadeValves_28 rfl ?_
        refine a_getR (j' := 0) (y := t) dX0_fadeValves_29 flX0_18 rfl rfl (L50 L) hTp ?_
        refine a_getR (j' := 14) (y := (t + 10)) dX0_fadeValves_32 flX0_22 rfl rfl hT.1.2.1 hT.1.2.2.2.2.2.2.2.2.2.2.2.1.2 ?_
        refine a_iconst dX0_fadeValves_35 ?_
        refine b_iald (N := 4) dX0_fadeValves_36 hT.1.2.2.2.2.2.2.2.2.2.2.2.1.1 (by decide) (by omega) (by omega) (fun hr36 => ?_)
        have e36 : (sm M a 6 (nxt (M a 6))) (t + 10) 2 = M (t + 10) 2 := by rw [sm_n (by omega)]
        rw [e36] at hr36
        rw [e36]
        refine a_icmp_ge (tgt := 44) dX0_fadeValves_37 (by decide) q5 hr36 (fun hb37 => ?_) (fun hb37 => ?_)
        · refine a_iconst dX0_fadeValves_44 ?_
          refine c_istoren (ls' := [_, _, _, _]) dX0_fadeValves_45 (by decide) rfl rfl ?_
          refine a_iloadn dX0_fadeValves_46 rfl ?_
          refine a_if_eq (tgt := 69) dX0_fadeValves_47 (by decide) ⟨by omega, by omega⟩ (fun hb47 => ?_) (fun hb47 => ?_)
          · refine c_iinc (ls' := [_, _, _, _]) dX0_fadeValves_69 rfl (by decide) rfl rfl ?_
            refine a_goto (tgt := 2) dX0_fadeValves_72 (by decide) ?_
            refine a_forget [3] (ls' := [_, _, _, none]) rfl ?_
            first | (have hb37' := Int.not_le.mp hb37) | (have hb37' : True := trivial)
            simp only [fvM]
            first
            | (exfalso; omega)
            | (rw [if_pos ⟨Or.inl hb18, by omega⟩, show fdM t a M = M from by unfold fdM; rw [if_pos hb18]]
               exact ih _ _ (by omega) (by rw [sm_n (by omega)]; omega) (((Fa.rf a M).sm (by omega) _ _).ci (by omega) (by omega) hi (hi.2.2.1.g rfl ⟨by omega, by omega⟩)))
            | (rw [if_neg (fun z => by omega), show fdM t a M = M from by unfold fdM; rw [if_pos hb18]]
               exact ih _ _ (by omega) (by omega) hi)
            | (have ef : fdM t a M = sm M a 6 (nxt (M a 6)) := by unfold fdM; rw [if_neg hb18]
               rw [if_pos ⟨Or.inr hb37', by omega⟩, ef]
               exact ih _ _ (by omega) (by rw [sm_n (by omega), sm_n (by omega)]; omega) (((fdM_Fa t a M).sm (by omega) _ _).ci (by omega) (by omega) hi ((fdM_I hi.2.2.1).g rfl ⟨by omega, by omega⟩) |> (fun z => ef ▸ z)))
            | (have ef : fdM t a M = sm M a 6 (nxt (M a 6)) := by unfold fdM; rw [if_neg hb18]
               rw [if_neg (fun z => by rcases z with ⟨z1 | z1, z2⟩ <;> omega), ef]
               exact ih _ _ (by omega) (by rw [sm_n (by omega)]; omega) ((fdM_Fa t a M).ci (by omega) (by omega) hi (fdM_I hi.2.2.1) |> (fun z => ef ▸ z)))
          · refine a_aloadn dX0_fadeValves_50 rfl ?_
            refine a_getR (j' := 1) (y := (a + 2)) dX0_fadeValves_51 flX0_147 rfl rfl hS.2.1 hS.2.2.2.1.2 ?_
            refine a_iloadn dX0_fadeValves_54 rfl ?_
            refine b_iald (N := 6) dX0_fadeValves_55 hS.2.2.2.1.1 (by decide) (by omega) (by omega) (fun hr55 => ?_)
            first | (have e55 : (sm M a 6 (nxt (M a 6))) (a + 2) i = M (a + 2) i := by rw [sm_n (by omega)]
                     rw [e55] at hr55
                     rw [e55]) | skip
            have q6 := hi.2.2.1.2.1 i (by omega) (by omega)
            refine a_if_le (tgt := 69) dX0_fadeValves_56 (by decide) ⟨by omega, by omega⟩ (fun hb56 => ?_) (fun hb56 => ?_)
            · refine c_iinc (ls' := [_, _, _, _]) dX0_fadeValves_69 rfl (by decide) rfl rfl ?_
              refine a_goto (tgt := 2) dX0_fadeValves_72 (by decide) ?_
              refine a_forget [3] (ls' := [_, _, _, none]) rfl ?_
              first | (have hb37' := Int.not_le.mp hb37) | (have hb37' : True := trivial)
              simp only [fvM]
              first
              | (exfalso; omega)
              | (rw [if_pos ⟨Or.inl hb18, by omega⟩, show fdM t a M = M from by unfold fdM; rw [if_pos hb18]]
                 exact ih _ _ (by omega) (by rw [sm_n (by omega)]; omega) (((Fa.rf a M).sm (by omega) _ _).ci (by omega) (by omega) hi (hi.2.2.1.g rfl ⟨by omega, by omega⟩)))
              | (rw [if_neg (fun z => by omega), show fdM t a M = M from by unfold fdM; rw [if_pos hb18]]
                 exact ih _ _ (by omega) (by omega) hi)
              | (have ef : fdM t a M = sm M a 6 (nxt (M a 6)) := by unfold fdM; rw [if_neg hb18]
                 rw [if_pos ⟨Or.inr hb37', by omega⟩, ef]
                 exact ih _ _ (by omega) (by rw [sm_n (by omega), sm_n (by omega)]; omega) (((fdM_Fa t a M).sm (by omega) _ _).ci (by omega) (by omega) hi ((fdM_I hi.2.2.1).g rfl ⟨by omega, by omega⟩) |> (fun z => ef ▸ z)))
              | (have ef : fdM t a M = sm M a 6 (nxt (M a 6)) := by unfold fdM; rw [if_neg hb18]
                 rw [if_neg (fun z => by rcases z with ⟨z1 | z1, z2⟩ <;> omega), ef]
                 exact ih _ _ (by omega) (by rw [sm_n (by omega)]; omega) ((fdM_Fa t a M).ci (by omega) (by omega) hi (fdM_I hi.2.2.1) |> (fun z => ef ▸ z)))
            · refine a_aloadn dX0_fadeValves_59 rfl ?_
              refine a_getR (j' := 1) (y := (a + 2)) dX0_fadeValves_60 flX0_147 rfl rfl hS.2.1 hS.2.2.2.1.2 ?_
              refine a_iloadn dX0_fadeValves_63 rfl ?_
              refine a_dup2IR dX0_fadeValves_64 ?_
              refine b_iald (N := 6) dX0_fadeValves_65 hS.2.2.2.1.1 (by decide) (by omega) (by omega) (fun hr65 => ?_)
              first | (have e65 : (sm M a 6 (nxt (M a 6))) (a + 2) i = M (a + 2) i := by rw [sm_n (by omega)]
                       rw [e65] at hr65
                       rw [e65]) | skip
              refine a_iconst dX0_fadeValves_66 ?_
              refine a_isub dX0_fadeValves_67 ?_
              refine a_iast (N := 6) dX0_fadeValves_68 hS.2.2.2.1.1 (by have h9 := hS.1; omega) (by decide) (by omega) (by omega) ⟨by omega, by omega⟩ ?_
              refine c_iinc (ls' := [_, _, _, _]) dX0_fadeValves_69 rfl (by decide) rfl rfl ?_
              refine a_goto (tgt := 2) dX0_fadeValves_72 (by decide) ?_
              refine a_forget [3] (ls' := [_, _, _, none]) rfl ?_
              first | (have hb37' := Int.not_le.mp hb37) | (have hb37' : True := trivial)
              simp only [fvM]
              first
              | (exfalso; omega)
              | (rw [if_pos ⟨Or.inl hb18, by omega⟩, show fdM t a M = M from by unfold fdM; rw [if_pos hb18]]
                 exact ih _ _ (by omega) (by rw [sm_n (by omega)]; omega) (((Fa.rf a M).sm (by omega) _ _).ci (by omega) (by omega) hi (hi.2.2.1.g rfl ⟨by omega, by omega⟩)))
              | (rw [if_neg (fun z => by omega), show fdM t a M = M from by unfold fdM; rw [if_pos hb18]]
                 exact ih _ _ (by omega) (by omega) hi)
              | (have ef : fdM t a M = sm M a 6 (nxt (M a 6)) := by unfold fdM; rw [if_neg hb18]
                 rw [if_pos ⟨Or.inr hb37', by omega⟩, ef]
                 exact ih _ _ (by omega) (by rw [sm_n (by omega), sm_n (by omega)]; omega) (((fdM_Fa t a M).sm (by omega) _ _).ci (by omega) (by omega) hi ((fdM_I hi.2.2.1).g rfl ⟨by omega, by omega⟩) |> (fun z => ef ▸ z)))
              | (have ef : fdM t a M = sm M a 6 (nxt (M a 6)) := by unfold fdM; rw [if_neg hb18]
                 rw [if_neg (fun z => by rcases z with ⟨z1 | z1, z2⟩ <;> omega), ef]
                 exact ih _ _ (by omega) (by rw [sm_n (by omega)]; omega) ((fdM_Fa t a M).ci (by omega) (by omega) hi (fdM_I hi.2.2.1) |> (fun z => ef ▸ z)))
        · refine a_iconst dX0_fadeValves_40 ?_
          refine a_goto (tgt := 45) dX0_fadeValves_41 (by decide) ?_
          refine c_istoren (ls' := [_, _, _, _]) dX0_fadeValves_45 (by decide) rfl rfl ?_
          refine a_iloadn dX0_fadeValves_46 rfl ?_
          refine a_if_eq (tgt := 69) dX0_fadeValves_47 (by decide) ⟨by omega, by omega⟩ (fun hb47 => ?_) (fun hb47 => ?_)
          · refine c_iinc (ls' := [_, _, _, _]) dX0_fadeValves_69 rfl (by decide) rfl rfl ?_
            refine a_goto (tgt := 2) dX0_fadeValves_72 (by decide) ?_
            refine a_forget [3] (ls' := [_, _, _, none]) rfl ?_
            first | (have hb37' := Int.not_le.mp hb37) | (have hb37' : True := trivial)
            simp only [fvM]
            first
            | (exfalso; omega)
            | (rw [if_pos ⟨Or.inl hb18, by omega⟩, show fdM t a M = M from by unfold fdM; rw [if_pos hb18]]
               exact ih _ _ (by omega) (by rw [sm_n (by omega)]; omega) (((Fa.rf a M).sm (by omega) _ _).ci (by omega) (by omega) hi (hi.2.2.1.g rfl ⟨by omega, by omega⟩)))
            | (rw [if_neg (fun z => by omega), show fdM t a M = M from by unfold fdM; rw [if_pos hb18]]
               exact ih _ _ (by omega) (by omega) hi)
            | (have ef : fdM t a M = sm M a 6 (nxt (M a 6)) := by unfold fdM; rw [if_neg hb18]
               rw [if_pos ⟨Or.inr hb37', by omega⟩, ef]
               exact ih _ _ (by omega) (by rw [sm_n (by omega), sm_n (by omega)]; omega) (((fdM_Fa t a M).sm (by omega) _ _).ci (by omega) (by omega) hi ((fdM_I hi.2.2.1).g rfl ⟨by omega, by omega⟩) |> (fun z => ef ▸ z)))
            | (have ef : fdM t a M = sm M a 6 (nxt (M a 6)) := by unfold fdM; rw [if_neg hb18]
               rw [if_neg (fun z => by rcases z with ⟨z1 | z1, z2⟩ <;> omega), ef]
               exact ih _ _ (by omega) (by rw [sm_n (by omega)]; omega) ((fdM_Fa t a M).ci (by omega) (by omega) hi (fdM_I hi.2.2.1) |> (fun z => ef ▸ z)))
          · refine a_aloadn dX0_fadeValves_50 rfl ?_
            refine a_getR (j' := 1) (y := (a + 2)) dX0_fadeValves_51 flX0_147 rfl rfl hS.2.1 hS.2.2.2.1.2 ?_
            refine a_iloadn dX0_fadeValves_54 rfl ?_
            refine b_iald (N := 6) dX0_fadeValves_55 hS.2.2.2.1.1 (by decide) (by omega) (by omega) (fun hr55 => ?_)
            first | (have e55 : (sm M a 6 (nxt (M a 6))) (a + 2) i = M (a + 2) i := by rw [sm_n (by omega)]
                     rw [e55] at hr55
                     rw [e55]) | skip
            have q6 := hi.2.2.1.2.1 i (by omega) (by omega)
            refine a_if_le (tgt := 69) dX0_fadeValves_56 (by decide) ⟨by omega, by omega⟩ (fun hb56 => ?_) (fun hb56 => ?_)
            · refine c_iinc (ls' := [_, _, _, _]) dX0_fadeValves_69 rfl (by decide) rfl rfl ?_
              refine a_goto (tgt := 2) dX0_fadeValves_72 (by decide) ?_
              refine a_forget [3] (ls' := [_, _, _, none]) rfl ?_
              first | (have hb37' := Int.not_le.mp hb37) | (have hb37' : True := trivial)
              simp only [fvM]
              first
              | (exfalso; omega)
              | (rw [if_pos ⟨Or.inl hb18, by omega⟩, show fdM t a M = M from by unfold fdM; rw [if_pos hb18]]
                 exact ih _ _ (by omega) (by rw [sm_n (by omega)]; omega) (((Fa.rf a M).sm (by omega) _ _).ci (by omega) (by omega) hi (hi.2.2.1.g rfl ⟨by omega, by omega⟩)))
              | (rw [if_neg (fun z => by omega), show fdM t a M = M from by unfold fdM; rw [if_pos hb18]]
                 exact ih _ _ (by omega) (by omega) hi)
              | (have ef : fdM t a M = sm M a 6 (nxt (M a 6)) := by unfold fdM; rw [if_neg hb18]
                 rw [if_pos ⟨Or.inr hb37', by omega⟩, ef]
                 exact ih _ _ (by omega) (by rw [sm_n (by omega), sm_n (by omega)]; omega) (((fdM_Fa t a M).sm (by omega) _ _).ci (by omega) (by omega) hi ((fdM_I hi.2.2.1).g rfl ⟨by omega, by omega⟩) |> (fun z => ef ▸ z)))
              | (have ef : fdM t a M = sm M a 6 (nxt (M a 6)) := by unfold fdM; rw [if_neg hb18]
                 rw [if_neg (fun z => by rcases z with ⟨z1 | z1, z2⟩ <;> omega), ef]
                 exact ih _ _ (by omega) (by rw [sm_n (by omega)]; omega) ((fdM_Fa t a M).ci (by omega) (by omega) hi (fdM_I hi.2.2.1) |> (fun z => ef ▸ z)))
            · refine a_aloadn dX0_fadeValves_59 rfl ?_
              refine a_getR (j' := 1) (y := (a + 2)) dX0_fadeValves_60 flX0_147 rfl rfl hS.2.1 hS.2.2.2.1.2 ?_
              refine a_iloadn dX0_fadeValves_63 rfl ?_
              refine a_dup2IR dX0_fadeValves_64 ?_
              refine b_iald (N := 6) dX0_fadeValves_65 hS.2.2.2.1.1 (by decide) (by omega) (by omega) (fun hr65 => ?_)
              first | (have e65 : (sm M a 6 (nxt (M a 6))) (a + 2) i = M (a + 2) i := by rw [sm_n (by omega)]
                       rw [e65] at hr65
                       rw [e65]) | skip
              refine a_iconst dX0_fadeValves_66 ?_
              refine a_isub dX0_fadeValves_67 ?_
              refine a_iast (N := 6) dX0_fadeValves_68 hS.2.2.2.1.1 (by have h9 := hS.1; omega) (by decide) (by omega) (by omega) ⟨by omega, by omega⟩ ?_
              refine c_iinc (ls' := [_, _, _, _]) dX0_fadeValves_69 rfl (by decide) rfl rfl ?_
              refine a_goto (tgt := 2) dX0_fadeValves_72 (by decide) ?_
              refine a_forget [3] (ls' := [_, _, _, none]) rfl ?_
              first | (have hb37' := Int.not_le.mp hb37) | (have hb37' : True := trivial)
              simp only [fvM]
              first
              | (exfalso; omega)
              | (rw [if_pos ⟨Or.inl hb18, by omega⟩, show fdM t a M = M from by unfold fdM; rw [if_pos hb18]]
                 exact ih _ _ (by omega) (by rw [sm_n (by omega)]; omega) (((Fa.rf a M).sm (by omega) _ _).ci (by omega) (by omega) hi (hi.2.2.1.g rfl ⟨by omega, by omega⟩)))
              | (rw [if_neg (fun z => by omega), show fdM t a M = M from by unfold fdM; rw [if_pos hb18]]
                 exact ih _ _ (by omega) (by omega) hi)
              | (have ef : fdM t a M = sm M a 6 (nxt (M a 6)) := by unfold fdM; rw [if_neg hb18]
                 rw [if_pos ⟨Or.inr hb37', by omega⟩, ef]
                 exact ih _ _ (by omega) (by rw [sm_n (by omega), sm_n (by omega)]; omega) (((fdM_Fa t a M).sm (by omega) _ _).ci (by omega) (by omega) hi ((fdM_I hi.2.2.1).g rfl ⟨by omega, by omega⟩) |> (fun z => ef ▸ z)))
              | (have ef : fdM t a M = sm M a 6 (nxt (M a 6)) := by unfold fdM; rw [if_neg hb18]
                 rw [if_neg (fun z => by rcases z with ⟨z1 | z1, z2⟩ <;> omega), ef]
                 exact ih _ _ (by omega) (by rw [sm_n (by omega)]; omega) ((fdM_Fa t a M).ci (by omega) (by omega) hi (fdM_I hi.2.2.1) |> (fun z => ef ▸ z)))

set_option maxRecDepth 100000 in
set_option maxHeartbeats 4000000 in
theorem m_X0_fadeValves {G : zG} {l : Launch} {L : Nat} {P : zP} {M : zM} {t a : Nat} (hc : CS L P t a) (hi : CI M t a) : AM G l yX0_fadeValves mdX0_fadeValves [aR 50, aR a] (LAY L) P M (zdet none (LAY L) P (fvM t a (M t 2).toNat 0 M)) := by
  refine AM.go [some (aR 50), some (aR a), none, none] rfl (Nat.le_of_ble_eq_true rfl) ?_ (by decide) rfl rfl
  refine a_iconst dX0_fadeValves_0 ?_
  refine c_istoren (ls' := [_, _, _, _]) dX0_fadeValves_1 (by decide) rfl rfl ?_
  have q1 := hi.1.1
  exact lpX0_fadeValves hc (M t 2).toNat 0 M (by omega) (by omega) hi
