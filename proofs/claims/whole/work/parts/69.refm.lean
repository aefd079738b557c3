set_option maxRecDepth 100000 in
set_option maxHeartbeats 4000000 in
theorem lpX11_ledBy0_in {G : zG} {l : Launch} {L : Nat} {P : zP} {M0 : zM} {h nn rc s : Int} {Z : zZ} (hP : PFok P) (hi : RI M0 0) : ∀ (n : Nat) (i mo : Int) (M : zM) (g0 : 0 ≤ i) (g1 : i + n = M0 209 12) (hE : Es M0 M) (kk : ∀ M' : zM, Es M0 M' → AW G l mdX11_ledBy Z 73 [some (aR 209), some (aI h), some (aI nn), some (aI 0), some (aI rc), some (aI s), some (aI (rfI (hoR M0 0) rc n i mo)), none] [] (LAY L) P M' 0 0), AW G l mdX11_ledBy Z 21 [some (aR 209), some (aI h), some (aI nn), some (aI 0), some (aI rc), some (aI s), some (aI mo), some (aI i)] [] (LAY L) P M 0 0 := by
  intro n
  induction n with
  | zero =>
    intro i mo M g0 g1 hE kk
    have q1 := hi.1.1
    have q7 := kbit01 rc i
    refine a_iload dX11_ledBy_21 rfl ?_
    refine a_aloadn dX11_ledBy_23 rfl ?_
    refine b_getI (j' := 12) dX11_ledBy_24 flX11_201 rfl rfl (L209 L) (fun hr24 => ?_)
    have e8 : M 209 12 = M0 209 12 := hE _ _ (by decide) (by decide) (by omega)
    rw [e8] at hr24
    rw [e8]
    refine a_icmp_ge (tgt := 73) dX11_ledBy_27 (by decide) ⟨by omega, by omega⟩ ⟨by omega, by omega⟩ (fun hb27 => ?_) (fun hb27 => ?_)
    · refine a_forget [7] (ls' := [_, _, _, _, _, _, _, none]) rfl (kk _ hE)
    · exfalso; omega
  | succ n ih =>
    intro i mo M g0 g1 hE kk
    have q1 := hi.1.1
    have q7 := kbit01 rc i
    refine a_iload dX11_ledBy_21 rfl ?_
    refine a_aloadn dX11_ledBy_23 rfl ?_
    refine b_getI (j' := 12) dX11_ledBy_24 flX11_201 rfl rfl (L209 L) (fun hr24 => ?_)
    have e8 : M 209 12 = M0 209 12 := hE _ _ (by decide) (by decide) (by omega)
    rw [e8] at hr24
    rw [e8]
    refine a_icmp_ge (tgt := 73) dX11_ledBy_27 (by decide) ⟨by omega, by omega⟩ ⟨by omega, by omega⟩ (fun hb27 => ?_) (fun hb27 => ?_)
    · exfalso; omega
    · refine a_iload dX11_ledBy_30 rfl ?_
      refine a_iload dX11_ledBy_32 rfl ?_
      refine a_callS (as := [_, _]) dX11_ledBy_34 mvX11_451 ⟨by decide, by decide⟩ rfl rfl (Nat.le_of_ble_eq_true rfl) ⟨rfl, rfl⟩ ⟨by decide, by decide⟩ m_X11_isOf ?_
      refine a_if_eq (tgt := 67) dX11_ledBy_37 (by decide) (by rcases q7 with z | z <;> exact ⟨by omega, by omega⟩) (fun hb37 => ?_) (fun hb37 => ?_)
      · refine c_iinc (ls' := [_, _, _, _, _, _, _, _]) dX11_ledBy_67 rfl (by decide) rfl rfl ?_
        refine a_goto (tgt := 21) dX11_ledBy_70 (by decide) ?_
        simp only [rfI] at kk
        first
        | (rw [if_neg (by omega)] at kk; exact ih _ _ _ (by omega) (by omega) hE kk)
        | (rw [if_pos (by omega)] at kk; rw [hM1.2, hE.ho]; exact ih _ _ _ (by omega) (by omega) (hE.tr hM1.1) kk)
      · refine a_iload dX11_ledBy_40 rfl ?_
        refine a_iloadn dX11_ledBy_42 rfl ?_
        refine a_if_eq (tgt := 57) dX11_ledBy_43 (by decide) ⟨by omega, by omega⟩ (fun hb43 => ?_) (fun hb43 => ?_)
        · refine a_aloadn dX11_ledBy_57 rfl ?_
          refine a_iconst dX11_ledBy_58 ?_
          refine a_iload dX11_ledBy_59 rfl ?_
          refine a_anyV (as := [_, _]) (q := 209) dX11_ledBy_61 mvX11_406 ⟨by decide, by decide⟩ (L209 L) rfl rfl rfl (Nat.le_of_ble_eq_true rfl) ⟨rfl, rfl⟩ ⟨by decide, by decide⟩ (m_X11_hearing hP (Or.inl rfl) (hE.ri hi) ⟨by omega, by omega⟩) (fun x9 M1 hM1 => ?_)
          refine a_ior dX11_ledBy_64 ?_
          refine c_istore (ls' := [_, _, _, _, _, _, _, _]) dX11_ledBy_65 (by decide) rfl rfl ?_
          refine c_iinc (ls' := [_, _, _, _, _, _, _, _]) dX11_ledBy_67 rfl (by decide) rfl rfl ?_
          refine a_goto (tgt := 21) dX11_ledBy_70 (by decide) ?_
          simp only [rfI] at kk
          first
          | (rw [if_neg (by omega)] at kk; exact ih _ _ _ (by omega) (by omega) hE kk)
          | (rw [if_pos (by omega)] at kk; rw [hM1.2, hE.ho]; exact ih _ _ _ (by omega) (by omega) (hE.tr hM1.1) kk)
        · exfalso; omega

set_option maxRecDepth 100000 in
set_option maxHeartbeats 4000000 in
theorem lpX11_ledBy0 {G : zG} {l : Launch} {L : Nat} {P : zP} {M0 : zM} {h nn : Int} (hP : PFok P) (hi : RI M0 0) (hn : 0 ≤ nn ∧ nn ≤ 6) : ∀ (n : Nat) (s rc : Int) (M : zM) (g0 : 0 ≤ s) (g1 : s + n = nn) (hE : Es M0 M), AW G l mdX11_ledBy (zany (LAY L) P (fun r M' => Es M0 M' ∧ r = rfO (hoR M0 0) (M0 209 12).toNat n rc)) 8 [some (aR 209), some (aI h), some (aI nn), some (aI 0), some (aI rc), some (aI s), none, none] [] (LAY L) P M 0 0 := by
  intro n
  induction n with
  | zero =>
    intro s rc M g0 g1 hE
    refine a_iload dX11_ledBy_8 rfl ?_
    refine a_iloadn dX11_ledBy_10 rfl ?_
    refine a_icmp_ge (tgt := 83) dX11_ledBy_11 (by decide) ⟨by omega, by omega⟩ ⟨by omega, by omega⟩ (fun hb11 => ?_) (fun hb11 => ?_)
    · refine a_iload dX11_ledBy_83 rfl ?_
      exact a_ireturn dX11_ledBy_85 rfl rfl rfl (zany_i ⟨hE, rfl⟩)
    · exfalso; omega
  | succ n ih =>
    intro s rc M g0 g1 hE
    refine a_iload dX11_ledBy_8 rfl ?_
    refine a_iloadn dX11_ledBy_10 rfl ?_
    refine a_icmp_ge (tgt := 83) dX11_ledBy_11 (by decide) ⟨by omega, by omega⟩ ⟨by omega, by omega⟩ (fun hb11 => ?_) (fun hb11 => ?_)
    · exfalso; omega
    · refine a_iload dX11_ledBy_14 rfl ?_
      refine c_istore (ls' := [_, _, _, _, _, _, _, _]) dX11_ledBy_16 (by decide) rfl rfl ?_
      refine a_iconst dX11_ledBy_18 ?_
      refine c_istore (ls' := [_, _, _, _, _, _, _, _]) dX11_ledBy_19 (by decide) rfl rfl ?_
      have q1 := hi.1.1
      refine lpX11_ledBy0_in hP hi (M0 209 12).toNat 0 rc M (by omega) (by omega) hE (fun M' hE' => ?_)
      refine a_iload dX11_ledBy_73 rfl ?_
      refine c_istore (ls' := [_, _, _, _, _, _, _, _]) dX11_ledBy_75 (by decide) rfl rfl ?_
      refine c_iinc (ls' := [_, _, _, _, _, _, _, _]) dX11_ledBy_77 rfl (by decide) rfl rfl ?_
      refine a_goto (tgt := 8) dX11_ledBy_80 (by decide) ?_
      refine a_forget [6] (ls' := [_, _, _, _, _, _, none, none]) rfl ?_
      simp only [rfO]
      exact ih _ _ M' (by omega) (by omega) hE'
      

set_option maxRecDepth 100000 in
set_option maxHeartbeats 4000000 in
theorem m_ledBy0 {G : zG} {l : Launch} {L : Nat} {P : zP} {M : zM} {h nn : Int} (hP : PFok P) (hi : RI M 0) (hn : 0 ≤ nn ∧ nn ≤ 6) : AM G l yX11_ledBy mdX11_ledBy [aR 209, aI h, aI nn, aI 0] (LAY L) P M (zany (LAY L) P (fun r M' => Es M M' ∧ r = rfO (hoR M 0) (M 209 12).toNat nn.toNat (b_ishl 1 h))) := by
  refine AM.go [some (aR 209), some (aI h), some (aI nn), some (aI 0), none, none, none, none] rfl (Nat.le_of_ble_eq_true rfl) ?_ (by decide) rfl rfl
  refine a_iconst dX11_ledBy_0 ?_
  refine a_iloadn dX11_ledBy_1 rfl ?_
  refine a_ishl dX11_ledBy_2 ?_
  refine c_istore (ls' := [_, _, _, _, _, _, _, _]) dX11_ledBy_3 (by decide) rfl rfl ?_
  refine a_iconst dX11_ledBy_5 ?_
  refine c_istore (ls' := [_, _, _, _, _, _, _, _]) dX11_ledBy_6 (by decide) rfl rfl ?_
  exact lpX11_ledBy0 hP hi hn nn.toNat 0 _ M (by omega) (by omega) (Es.rf M)

set_option maxRecDepth 100000 in
set_option maxHeartbeats 4000000 in
theorem lpX11_ledBy1_in {G : zG} {l : Launch} {L : Nat} {P : zP} {M : zM} {h nn rc s : Int} {Z : zZ} (hP : PFok P) (hT : TxI M) : ∀ (n : Nat) (i mo : Int) (g0 : 0 ≤ i) (g1 : i + n = M 209 12) (kk : AW G l mdX11_ledBy Z 73 [some (aR 209), some (aI h), some (aI nn), some (aI 1), some (aI rc), some (aI s), some (aI (rfI (knR M 0) rc n i mo)), none] [] (LAY L) P M 0 0), AW G l mdX11_ledBy Z 21 [some (aR 209), some (aI h), some (aI nn), some (aI 1), some (aI rc), some (aI s), some (aI mo), some (aI i)] [] (LAY L) P M 0 0 := by
  intro n
  induction n with
  | zero =>
    intro i mo g0 g1 kk
    have q1 := hT.1
    have q7 := kbit01 rc i
    refine a_iload dX11_ledBy_21 rfl ?_
    refine a_aloadn dX11_ledBy_23 rfl ?_
    refine b_getI (j' := 12) dX11_ledBy_24 flX11_201 rfl rfl (L209 L) (fun hr24 => ?_)
    refine a_icmp_ge (tgt := 73) dX11_ledBy_27 (by decide) ⟨by omega, by omega⟩ ⟨by omega, by omega⟩ (fun hb27 => ?_) (fun hb27 => ?_)
    · refine a_forget [7] (ls' := [_, _, _, _, _, _, _, none]) rfl kk
    · exfalso; omega
  | succ n ih =>
    intro i mo g0 g1 kk
    have q1 := hT.1
    have q7 := kbit01 rc i
    refine a_iload dX11_ledBy_21 rfl ?_
    refine a_aloadn dX11_ledBy_23 rfl ?_
    refine b_getI (j' := 12) dX11_ledBy_24 flX11_201 rfl rfl (L209 L) (fun hr24 => ?_)
    refine a_icmp_ge (tgt := 73) dX11_ledBy_27 (by decide) ⟨by omega, by omega⟩ ⟨by omega, by omega⟩ (fun hb27 => ?_) (fun hb27 => ?_)
    · exfalso; omega
    · refine a_iload dX11_ledBy_30 rfl ?_
      refine a_iload dX11_ledBy_32 rfl ?_
      refine a_callS (as := [_, _]) dX11_ledBy_34 mvX11_451 ⟨by decide, by decide⟩ rfl rfl (Nat.le_of_ble_eq_true rfl) ⟨rfl, rfl⟩ ⟨by decide, by decide⟩ m_X11_isOf ?_
      refine a_if_eq (tgt := 67) dX11_ledBy_37 (by decide) (by rcases q7 with z | z <;> exact ⟨by omega, by omega⟩) (fun hb37 => ?_) (fun hb37 => ?_)
      · refine c_iinc (ls' := [_, _, _, _, _, _, _, _]) dX11_ledBy_67 rfl (by decide) rfl rfl ?_
        refine a_goto (tgt := 21) dX11_ledBy_70 (by decide) ?_
        simp only [rfI] at kk
        first
        | (rw [if_neg (by omega)] at kk; exact ih _ _ (by omega) (by omega) kk)
        | (rw [if_pos (by omega)] at kk; rw [hx9]; exact ih _ _ (by omega) (by omega) kk)
      · refine a_iload dX11_ledBy_40 rfl ?_
        refine a_iloadn dX11_ledBy_42 rfl ?_
        refine a_if_eq (tgt := 57) dX11_ledBy_43 (by decide) ⟨by omega, by omega⟩ (fun hb43 => ?_) (fun hb43 => ?_)
        · exfalso; omega
        · refine a_aloadn dX11_ledBy_46 rfl ?_
          refine a_iconst dX11_ledBy_47 ?_
          refine a_iload dX11_ledBy_48 rfl ?_
          refine a_iconst dX11_ledBy_50 ?_
          refine a_oneV (as := [_, _, _]) (q := 209) dX11_ledBy_51 mvX11_409 ⟨by decide, by decide⟩ (L209 L) rfl rfl rfl (Nat.le_of_ble_eq_true rfl) ⟨rfl, rfl⟩ ⟨by decide, by decide⟩ (m_knownBits0 hP (Or.inl rfl) hT ⟨by omega, by omega⟩) (fun x9 hx9 => ?_)
          refine a_goto (tgt := 64) dX11_ledBy_54 (by decide) ?_
          refine a_ior dX11_ledBy_64 ?_
          refine c_istore (ls' := [_, _, _, _, _, _, _, _]) dX11_ledBy_65 (by decide) rfl rfl ?_
          refine c_iinc (ls' := [_, _, _, _, _, _, _, _]) dX11_ledBy_67 rfl (by decide) rfl rfl ?_
          refine a_goto (tgt := 21) dX11_ledBy_70 (by decide) ?_
          simp only [rfI] at kk
          first
          | (rw [if_neg (by omega)] at kk; exact ih _ _ (by omega) (by omega) kk)
          | (rw [if_pos (by omega)] at kk; rw [hx9]; exact ih _ _ (by omega) (by omega) kk)

set_option maxRecDepth 100000 in
set_option maxHeartbeats 4000000 in
theorem lpX11_ledBy1 {G : zG} {l : Launch} {L : Nat} {P : zP} {M : zM} {h nn : Int} (hP : PFok P) (hT : TxI M) (hn : 0 ≤ nn ∧ nn ≤ 6) : ∀ (n : Nat) (s rc : Int) (g0 : 0 ≤ s) (g1 : s + n = nn), AW G l mdX11_ledBy (zone (LAY L) P M (fun r => r = rfO (knR M 0) (M 209 12).toNat n rc)) 8 [some (aR 209), some (aI h), some (aI nn), some (aI 1), some (aI rc), some (aI s), none, none] [] (LAY L) P M 0 0 := by
  intro n
  induction n with
  | zero =>
    intro s rc g0 g1
    refine a_iload dX11_ledBy_8 rfl ?_
    refine a_iloadn dX11_ledBy_10 rfl ?_
    refine a_icmp_ge (tgt := 83) dX11_ledBy_11 (by decide) ⟨by omega, by omega⟩ ⟨by omega, by omega⟩ (fun hb11 => ?_) (fun hb11 => ?_)
    · refine a_iload dX11_ledBy_83 rfl ?_
      exact a_ireturn dX11_ledBy_85 rfl rfl rfl (zone_i rfl)
    · exfalso; omega
  | succ n ih =>
    intro s rc g0 g1
    refine a_iload dX11_ledBy_8 rfl ?_
    refine a_iloadn dX11_ledBy_10 rfl ?_
    refine a_icmp_ge (tgt := 83) dX11_ledBy_11 (by decide) ⟨by omega, by omega⟩ ⟨by omega, by omega⟩ (fun hb11 => ?_) (fun hb11 => ?_)
    · exfalso; omega
    · refine a_iload dX11_ledBy_14 rfl ?_
      refine c_istore (ls' := [_, _, _, _, _, _, _, _]) dX11_ledBy_16 (by decide) rfl rfl ?_
      refine a_iconst dX11_ledBy_18 ?_
      refine c_istore (ls' := [_, _, _, _, _, _, _, _]) dX11_ledBy_19 (by decide) rfl rfl ?_
      have q1 := hT.1
      refine lpX11_ledBy1_in hP hT (M 209 12).toNat 0 rc (by omega) (by omega) ?_
      refine a_iload dX11_ledBy_73 rfl ?_
      refine c_istore (ls' := [_, _, _, _, _, _, _, _]) dX11_ledBy_75 (by decide) rfl rfl ?_
      refine c_iinc (ls' := [_, _, _, _, _, _, _, _]) dX11_ledBy_77 rfl (by decide) rfl rfl ?_
      refine a_goto (tgt := 8) dX11_ledBy_80 (by decide) ?_
      refine a_forget [6] (ls' := [_, _, _, _, _, _, none, none]) rfl ?_
      simp only [rfO]
      exact ih _ _ (by omega) (by omega)

set_option maxRecDepth 100000 in
set_option maxHeartbeats 4000000 in
theorem m_ledBy1 {G : zG} {l : Launch} {L : Nat} {P : zP} {M : zM} {h nn : Int} (hP : PFok P) (hT : TxI M) (hn : 0 ≤ nn ∧ nn ≤ 6) : AM G l yX11_ledBy mdX11_ledBy [aR 209, aI h, aI nn, aI 1] (LAY L) P M (zone (LAY L) P M (fun r => r = rfO (knR M 0) (M 209 12).toNat nn.toNat (b_ishl 1 h))) := by
  refine AM.go [some (aR 209), some (aI h), some (aI nn), some (aI 1), none, none, none, none] rfl (Nat.le_of_ble_eq_true rfl) ?_ (by decide) rfl rfl
  refine a_iconst dX11_ledBy_0 ?_
  refine a_iloadn dX11_ledBy_1 rfl ?_
  refine a_ishl dX11_ledBy_2 ?_
  refine c_istore (ls' := [_, _, _, _, _, _, _, _]) dX11_ledBy_3 (by decide) rfl rfl ?_
  refine a_iconst dX11_ledBy_5 ?_
  refine c_istore (ls' := [_, _, _, _, _, _, _, _]) dX11_ledBy_6 (by decide) rfl rfl ?_
  exact lpX11_ledBy1 hP hT hn nn.toNat 0 _ (by omega) (by omega)

set_option maxRecDepth 100000 in
set_option maxHeartbeats 4000000 in
theorem m_X11_passed {G : zG} {l : Launch} {L : Nat} {P : zP} {M : zM} {h nn : Int} (hv : RV P M) (rh : inR h) (rnn : inR nn) : AM G l yX11_passed mdX11_passed [aR 209, aI h, aI nn] (LAY L) P M (zany (LAY L) P (fun r M' => Rn M M' ∧ ((¬ (0 ≤ h ∧ h < M 209 12 ∧ 0 ≤ nn ∧ nn ≤ 6)) ∧ r = -1 ∨ ¬ (¬ (0 ≤ h ∧ h < M 209 12 ∧ 0 ≤ nn ∧ nn ≤ 6)) ∧ ∃ Mb, Pb M Mb ∧ r = rfO (hoR Mb 0) (M 209 12).toNat nn.toNat (b_ishl 1 h)))) := by
  have hP := hv.1
  have q0 := hv.2.1.1.1.1
  refine AM.go [some (aR 209), some (aI h), some (aI nn)] rfl (Nat.le_of_ble_eq_true rfl) ?_ (by decide) rfl rfl
  refine a_aloadn dX11_passed_0 rfl ?_
  refine a_iconst dX11_passed_1 ?_
  refine a_putI (j' := 2) dX11_passed_2 flX11_124 rfl rfl (L209 L) (by decide) rfl ⟨by omega, by omega⟩ ?_
  obtain ⟨Mt, hMt⟩ : ∃ Mt, Mt = sm M 209 2 0 := ⟨_, rfl⟩
  rw [← hMt]
  obtain ⟨hvt, hnt, e12, eT⟩ := th_all hv hMt
  refine a_aloadn dX11_passed_5 rfl ?_
  refine a_callVv (as := []) (q := 209) dX11_passed_6 mvX11_322 ⟨by decide, by decide⟩ (L209 L) rfl rfl rfl (Nat.le_of_ble_eq_true rfl) ⟨rfl, rfl⟩ ⟨by decide, by decide⟩ (m_X11_plainTried hP) ?_
  have hpb := ptM_pb hnt
  have hnp := hpb.rn hv
  have hvp := hnp.rv hv
  obtain ⟨Mb, hMb⟩ : ∃ Mb, Mb = ptM Mt := ⟨_, rfl⟩
  rw [← hMb] at hpb hnp hvp ⊢
  have q12 : Mb 209 12 = M 209 12 := hnp.1 209 12 (by omega)
  refine a_aloadn dX11_passed_9 rfl ?_
  refine a_iloadn dX11_passed_10 rfl ?_
  refine a_oneV (as := [_]) (q := 209) dX11_passed_11 mvX11_352 ⟨by decide, by decide⟩ (L209 L) rfl rfl rfl (Nat.le_of_ble_eq_true rfl) ⟨rfl, rfl⟩ ⟨by decide, by decide⟩ (m_isHouse1 (x := h) rh) (fun x11 hx11 => ?_)
  refine a_if_eq (tgt := 37) dX11_passed_14 (by decide) ⟨by omega, by omega⟩ (fun hb14 => ?_) (fun hb14 => ?_)
  · refine a_iconst dX11_passed_37 ?_
    exact a_ireturn dX11_passed_38 rfl rfl rfl (by first | exact zany_i ⟨hnp, Or.inl ⟨by omega, rfl⟩⟩ | exact zany_i ⟨hnp.es hM1.1, Or.inr ⟨by omega, Mb, hpb, by rw [← q12]; exact hM1.2⟩⟩)
  · refine a_iloadn dX11_passed_17 rfl ?_
    refine a_iconst dX11_passed_18 ?_
    refine a_bipush (w := 6) dX11_passed_19 (by decide) ?_
    refine a_oneS (as := [_, _, _]) dX11_passed_21 mvX11_169 ⟨by decide, by decide⟩ rfl rfl (Nat.le_of_ble_eq_true rfl) ⟨rfl, rfl⟩ ⟨by decide, by decide⟩ (m_isIn1 ⟨by omega, by omega⟩ ⟨by omega, by omega⟩ ⟨by omega, by omega⟩) (fun x21 hx21 => ?_)
    refine a_if_eq (tgt := 37) dX11_passed_24 (by decide) ⟨by omega, by omega⟩ (fun hb24 => ?_) (fun hb24 => ?_)
    · refine a_iconst dX11_passed_37 ?_
      exact a_ireturn dX11_passed_38 rfl rfl rfl (by first | exact zany_i ⟨hnp, Or.inl ⟨by omega, rfl⟩⟩ | exact zany_i ⟨hnp.es hM1.1, Or.inr ⟨by omega, Mb, hpb, by rw [← q12]; exact hM1.2⟩⟩)
    · refine a_aloadn dX11_passed_27 rfl ?_
      refine a_iloadn dX11_passed_28 rfl ?_
      refine a_iloadn dX11_passed_29 rfl ?_
      refine a_iconst dX11_passed_30 ?_
      refine a_anyV (as := [_, _, _]) (q := 209) dX11_passed_31 mvX11_463 ⟨by decide, by decide⟩ (L209 L) rfl rfl rfl (Nat.le_of_ble_eq_true rfl) ⟨rfl, rfl⟩ ⟨by decide, by decide⟩ (m_ledBy0 hP hvp.2.1.1 ⟨by omega, by omega⟩) (fun x9 M1 hM1 => ?_)
      refine a_goto (tgt := 38) dX11_passed_34 (by decide) ?_
      exact a_ireturn dX11_passed_38 rfl rfl rfl (by first | exact zany_i ⟨hnp, Or.inl ⟨by omega, rfl⟩⟩ | exact zany_i ⟨hnp.es hM1.1, Or.inr ⟨by omega, Mb, hpb, by rw [← q12]; exact hM1.2⟩⟩)

set_option maxRecDepth 100000 in
set_option maxHeartbeats 4000000 in
theorem m_X11_gossip {G : zG} {l : Launch} {L : Nat} {P : zP} {M : zM} {h nn : Int} (hv : RV P M) (rh : inR h) (rnn : inR nn) : AM G l yX11_gossip mdX11_gossip [aR 209, aI h, aI nn] (LAY L) P M (zany (LAY L) P (fun r M' => Rn M M' ∧ ((¬ (0 ≤ h ∧ h < M 209 12 ∧ 0 ≤ nn ∧ nn ≤ 6)) ∧ r = -1 ∨ ¬ (¬ (0 ≤ h ∧ h < M 209 12 ∧ 0 ≤ nn ∧ nn ≤ 6)) ∧ r = rfO (knR M 0) (M 209 12).toNat nn.toNat (b_ishl 1 h)))) := by
  have hP := hv.1
  have q0 := hv.2.1.1.1.1
  refine AM.go [some (aR 209), some (aI h), some (aI nn)] rfl (Nat.le_of_ble_eq_true rfl) ?_ (by decide) rfl rfl
  refine a_aloadn dX11_gossip_0 rfl ?_
  refine a_iconst dX11_gossip_1 ?_
  refine a_putI (j' := 2) dX11_gossip_2 flX11_124 rfl rfl (L209 L) (by decide) rfl ⟨by omega, by omega⟩ ?_
  obtain ⟨Mt, hMt⟩ : ∃ Mt, Mt = sm M 209 2 0 := ⟨_, rfl⟩
  rw [← hMt]
  obtain ⟨hvt, hnt, e12, eT⟩ := th_all hv hMt
  refine a_aloadn dX11_gossip_5 rfl ?_
  refine a_iloadn dX11_gossip_6 rfl ?_
  refine a_oneV (as := [_]) (q := 209) dX11_gossip_7 mvX11_352 ⟨by decide, by decide⟩ (L209 L) rfl rfl rfl (Nat.le_of_ble_eq_true rfl) ⟨rfl, rfl⟩ ⟨by decide, by decide⟩ (m_isHouse1 (x := h) rh) (fun x7 hx7 => ?_)
  refine a_if_eq (tgt := 33) dX11_gossip_10 (by decide) ⟨by omega, by omega⟩ (fun hb10 => ?_) (fun hb10 => ?_)
  · refine a_iconst dX11_gossip_33 ?_
    exact a_ireturn dX11_gossip_34 rfl rfl rfl (by first | exact zany_i ⟨hnt, Or.inl ⟨by omega, rfl⟩⟩ | exact zany_i ⟨hnt, Or.inr ⟨by omega, by rw [hx9, e12, show knR Mt 0 = knR M 0 from by unfold knR; rw [e12, hMt, sm_n (by decide)]]⟩⟩)
  · refine a_iloadn dX11_gossip_13 rfl ?_
    refine a_iconst dX11_gossip_14 ?_
    refine a_bipush (w := 6) dX11_gossip_15 (by decide) ?_
    refine a_oneS (as := [_, _, _]) dX11_gossip_17 mvX11_169 ⟨by decide, by decide⟩ rfl rfl (Nat.le_of_ble_eq_true rfl) ⟨rfl, rfl⟩ ⟨by decide, by decide⟩ (m_isIn1 ⟨by omega, by omega⟩ ⟨by omega, by omega⟩ ⟨by omega, by omega⟩) (fun x17 hx17 => ?_)
    refine a_if_eq (tgt := 33) dX11_gossip_20 (by decide) ⟨by omega, by omega⟩ (fun hb20 => ?_) (fun hb20 => ?_)
    · refine a_iconst dX11_gossip_33 ?_
      exact a_ireturn dX11_gossip_34 rfl rfl rfl (by first | exact zany_i ⟨hnt, Or.inl ⟨by omega, rfl⟩⟩ | exact zany_i ⟨hnt, Or.inr ⟨by omega, by rw [hx9, e12, show knR Mt 0 = knR M 0 from by unfold knR; rw [e12, hMt, sm_n (by decide)]]⟩⟩)
    · refine a_aloadn dX11_gossip_23 rfl ?_
      refine a_iloadn dX11_gossip_24 rfl ?_
      refine a_iloadn dX11_gossip_25 rfl ?_
      refine a_iconst dX11_gossip_26 ?_
      refine a_oneV (as := [_, _, _]) (q := 209) dX11_gossip_27 mvX11_463 ⟨by decide, by decide⟩ (L209 L) rfl rfl rfl (Nat.le_of_ble_eq_true rfl) ⟨rfl, rfl⟩ ⟨by decide, by decide⟩ (m_ledBy1 hP hvt.2.1.1.1 ⟨by omega, by omega⟩) (fun x9 hx9 => ?_)
      refine a_goto (tgt := 34) dX11_gossip_30 (by decide) ?_
      exact a_ireturn dX11_gossip_34 rfl rfl rfl (by first | exact zany_i ⟨hnt, Or.inl ⟨by omega, rfl⟩⟩ | exact zany_i ⟨hnt, Or.inr ⟨by omega, by rw [hx9, e12, show knR Mt 0 = knR M 0 from by unfold knR; rw [e12, hMt, sm_n (by decide)]]⟩⟩)

/-- how often a house sounds alike to another, later, in the reference -/
def alR (M : zM) (h g z : Int) : Int := zsm (fun t => if 0 < zsnd (M 220) (M 221) (M 222) h t (M 209 14).toNat 0 ∧ (0 ≤ t + z ∧ t + z ≤ 99) ∧ zsnd (M 220) (M 221) (M 222) g (t + z) (M 209 14).toNat 0 = zsnd (M 220) (M 221) (M 222) h t (M 209 14).toNat 0 then 1 else 0) 100 0 0
theorem alR_in (M : zM) (h g z : Int) : 0 ≤ alR M h g z ∧ alR M h g z ≤ 100 := by
  have := zsm01 (fun t => 0 < zsnd (M 220) (M 221) (M 222) h t (M 209 14).toNat 0 ∧ (0 ≤ t + z ∧ t + z ≤ 99) ∧ zsnd (M 220) (M 221) (M 222) g (t + z) (M 209 14).toNat 0 = zsnd (M 220) (M 221) (M 222) h t (M 209 14).toNat 0) 100 0 0
  unfold alR
  omega
theorem Rq.al {M0 M : zM} (h : Rq M0 M) : alR M = alR M0 := by
  unfold alR
  rw [h.row (k := 220) (by omega), h.row (k := 221) (by omega), h.row (k := 222) (by omega), h 209 14 (by omega)]
/-- how much later, as the reference looks for it -/
def bfR (f : Int → Int) : Nat → Int → Int → Int
  | 0, _, best => best
  | n + 1, k, best => if f best < f (-k) then (if f (-k) < f k then bfR f n (k + 1) k else bfR f n (k + 1) (-k)) else if f best < f k then bfR f n (k + 1) k else bfR f n (k + 1) best

set_option maxRecDepth 100000 in
set_option maxHeartbeats 4000000 in
theorem lpX11_alikeBy {G : zG} {l : Launch} {L : Nat} {P : zP} {M : zM} {h g z : Int} (hP : PFok P) (hT : TxI M) (rh : inR h) (rg : inR g) (rz : -9 ≤ z ∧ z ≤ 9) : ∀ (n : Nat) (t acc : Int) (g0 : 0 ≤ t) (g1 : t + n = 100), AW G l mdX11_alikeBy (zdet (some (aI (zsm (fun t => if 0 < zsnd (M 220) (M 221) (M 222) h t (M 209 14).toNat 0 ∧ (0 ≤ t + z ∧ t + z ≤ 99) ∧ zsnd (M 220) (M 221) (M 222) g (t + z) (M 209 14).toNat 0 = zsnd (M 220) (M 221) (M 222) h t (M 209 14).toNat 0 then 1 else 0) n t acc))) (LAY L) P M) 6 [some (aR 209), some (aI h), some (aI g), some (aI z), some (aI acc), some (aI t), none] [] (LAY L) P M 0 0 := by
  intro n
  induction n with
  | zero =>
    intro t acc g0 g1
    have q5 := hT.2.2.1
    have a1 := zsnd_inR h t hT (M 209 14).toNat 0 (by omega) (by omega)
    have a2 := zsnd_inR g (t + z) hT (M 209 14).toNat 0 (by omega) (by omega)
    refine a_iload dX11_alikeBy_6 rfl ?_
    refine a_bipush (w := 100) dX11_alikeBy_8 (by decide) ?_
    refine a_icmp_ge (tgt := 70) dX11_alikeBy_10 (by decide) ⟨by omega, by omega⟩ ⟨by omega, by omega⟩ (fun hb10 => ?_) (fun hb10 => ?_)
    · refine a_iload dX11_alikeBy_70 rfl ?_
      exact a_ireturn dX11_alikeBy_72 rfl rfl rfl (zdet_I (by first | rfl | omega) rfl)
    · exfalso; omega
  | succ n ih =>
    intro t acc g0 g1
    have q5 := hT.2.2.1
    have a1 := zsnd_inR h t hT (M 209 14).toNat 0 (by omega) (by omega)
    have a2 := zsnd_inR g (t + z) hT (M 209 14).toNat 0 (by omega) (by omega)
    refine a_iload dX11_alikeBy_6 rfl ?_
    refine a_bipush (w := 100) dX11_alikeBy_8 (by decide) ?_
    refine a_icmp_ge (tgt := 70) dX11_alikeBy_10 (by decide) ⟨by omega, by omega⟩ ⟨by omega, by omega⟩ (fun hb10 => ?_) (fun hb10 => ?_)
    · exfalso; omega
    · refine a_aloadn dX11_alikeBy_13 rfl ?_
      refine a_iloadn dX11_alikeBy_14 rfl ?_
      refine a_iload dX11_alikeBy_15 rfl ?_
      refine a_callV (as := [_, _]) (q := 209) dX11_alikeBy_17 mvX11_416 ⟨by decide, by decide⟩ (L209 L) rfl rfl rfl (Nat.le_of_ble_eq_true rfl) ⟨rfl, rfl⟩ ⟨by decide, by decide⟩ (m_X11_soundAt hP hT rh ⟨by omega, by omega⟩) ?_
      refine c_istore (ls' := [_, _, _, _, _, _, _]) dX11_alikeBy_20 (by decide) rfl rfl ?_
      refine a_iload dX11_alikeBy_22 rfl ?_
      refine a_iload dX11_alikeBy_24 rfl ?_
      refine a_if_le (tgt := 60) dX11_alikeBy_26 (by decide) ⟨by omega, by omega⟩ (fun hb26 => ?_) (fun hb26 => ?_)
      · refine a_iconst dX11_alikeBy_60 ?_
        refine a_iadd dX11_alikeBy_61 ?_
        refine c_istore (ls' := [_, _, _, _, _, _, _]) dX11_alikeBy_62 (by decide) rfl rfl ?_
        refine c_iinc (ls' := [_, _, _, _, _, _, _]) dX11_alikeBy_64 rfl (by decide) rfl rfl ?_
        refine a_goto (tgt := 6) dX11_alikeBy_67 (by decide) ?_
        refine a_forget [6] (ls' := [_, _, _, _, _, _, none]) rfl ?_
        simp only [zsm]
        first
        | (rw [if_pos (by omega)]; exact ih _ _ (by omega) (by omega))
        | (rw [if_neg (by omega)]; exact ih _ _ (by omega) (by omega))
      · refine a_iload dX11_alikeBy_29 rfl ?_
        refine a_iloadn dX11_alikeBy_31 rfl ?_
        refine a_iadd dX11_alikeBy_32 ?_
        refine a_iconst dX11_alikeBy_33 ?_
        refine a_bipush (w := 99) dX11_alikeBy_34 (by decide) ?_
        refine a_oneS (as := [_, _, _]) dX11_alikeBy_36 mvX11_169 ⟨by decide, by decide⟩ rfl rfl (Nat.le_of_ble_eq_true rfl) ⟨rfl, rfl⟩ ⟨by decide, by decide⟩ (m_isIn1 ⟨by omega, by omega⟩ ⟨by omega, by omega⟩ ⟨by omega, by omega⟩) (fun x36 hx36 => ?_)
        refine a_if_eq (tgt := 60) dX11_alikeBy_39 (by decide) ⟨by omega, by omega⟩ (fun hb39 => ?_) (fun hb39 => ?_)
        · refine a_iconst dX11_alikeBy_60 ?_
          refine a_iadd dX11_alikeBy_61 ?_
          refine c_istore (ls' := [_, _, _, _, _, _, _]) dX11_alikeBy_62 (by decide) rfl rfl ?_
          refine c_iinc (ls' := [_, _, _, _, _, _, _]) dX11_alikeBy_64 rfl (by decide) rfl rfl ?_
          refine a_goto (tgt := 6) dX11_alikeBy_67 (by decide) ?_
          refine a_forget [6] (ls' := [_, _, _, _, _, _, none]) rfl ?_
          simp only [zsm]
          first
          | (rw [if_pos (by omega)]; exact ih _ _ (by omega) (by omega))
          | (rw [if_neg (by omega)]; exact ih _ _ (by omega) (by omega))
        · refine a_aloadn dX11_alikeBy_42 rfl ?_
          refine a_iloadn dX11_alikeBy_43 rfl ?_
          refine a_iload dX11_alikeBy_44 rfl ?_
          refine a_iloadn dX11_alikeBy_46 rfl ?_
          refine a_iadd dX11_alikeBy_47 ?_
          refine a_callV (as := [_, _]) (q := 209) dX11_alikeBy_48 mvX11_416 ⟨by decide, by decide⟩ (L209 L) rfl rfl rfl (Nat.le_of_ble_eq_true rfl) ⟨rfl, rfl⟩ ⟨by decide, by decide⟩ (m_X11_soundAt hP hT rg ⟨by omega, by omega⟩) ?_
          refine a_iload dX11_alikeBy_51 rfl ?_
          refine a_icmp_ne (tgt := 60) dX11_alikeBy_53 (by decide) ⟨by omega, by omega⟩ ⟨by omega, by omega⟩ (fun hb53 => ?_) (fun hb53 => ?_)
          · refine a_iconst dX11_alikeBy_60 ?_
            refine a_iadd dX11_alikeBy_61 ?_
            refine c_istore (ls' := [_, _, _, _, _, _, _]) dX11_alikeBy_62 (by decide) rfl rfl ?_
            refine c_iinc (ls' := [_, _, _, _, _, _, _]) dX11_alikeBy_64 rfl (by decide) rfl rfl ?_
            refine a_goto (tgt := 6) dX11_alikeBy_67 (by decide) ?_
            refine a_forget [6] (ls' := [_, _, _, _, _, _, none]) rfl ?_
            simp only [zsm]
            first
            | (rw [if_pos (by omega)]; exact ih _ _ (by omega) (by omega))
            | (rw [if_neg (by omega)]; exact ih _ _ (by omega) (by omega))
          · refine a_iconst dX11_alikeBy_56 ?_
            refine a_goto (tgt := 61) dX11_alikeBy_57 (by decide) ?_
            refine a_iadd dX11_alikeBy_61 ?_
            refine c_istore (ls' := [_, _, _, _, _, _, _]) dX11_alikeBy_62 (by decide) rfl rfl ?_
            refine c_iinc (ls' := [_, _, _, _, _, _, _]) dX11_alikeBy_64 rfl (by decide) rfl rfl ?_
            refine a_goto (tgt := 6) dX11_alikeBy_67 (by decide) ?_
            refine a_forget [6] (ls' := [_, _, _, _, _, _, none]) rfl ?_
            simp only [zsm]
            first
            | (rw [if_pos (by omega)]; exact ih _ _ (by omega) (by omega))
            | (rw [if_neg (by omega)]; exact ih _ _ (by omega) (by omega))

set_option maxRecDepth 100000 in
set_option maxHeartbeats 4000000 in
theorem m_X11_alikeBy {G : zG} {l : Launch} {L : Nat} {P : zP} {M : zM} {h g z : Int} (hP : PFok P) (hT : TxI M) (rh : inR h) (rg : inR g) (rz : -9 ≤ z ∧ z ≤ 9) : AM G l yX11_alikeBy mdX11_alikeBy [aR 209, aI h, aI g, aI z] (LAY L) P M (zdet (some (aI (alR M h g z))) (LAY L) P M) := by
  refine AM.go [some (aR 209), some (aI h), some (aI g), some (aI z), none, none, none] rfl (Nat.le_of_ble_eq_true rfl) ?_ (by decide) rfl rfl
  refine a_iconst dX11_alikeBy_0 ?_
  refine c_istore (ls' := [_, _, _, _, _, _, _]) dX11_alikeBy_1 (by decide) rfl rfl ?_
  refine a_iconst dX11_alikeBy_3 ?_
  refine c_istore (ls' := [_, _, _, _, _, _, _]) dX11_alikeBy_4 (by decide) rfl rfl ?_
  exact lpX11_alikeBy hP hT rh rg rz 100 0 0 (by omega) (by omega)

set_option maxRecDepth 100000 in
set_option maxHeartbeats 4000000 in
theorem lpX11_before {G : zG} {l : Launch} {L : Nat} {P : zP} {M : zM} {h g w : Int} (hP : PFok P) (hT : TxI M) (rh : inR h) (rg : inR g) (rw9 : inR w) : ∀ (n : Nat) (k best : Int) (g0 : 1 ≤ k) (g1 : k + n = 10) (gb : -9 ≤ best ∧ best ≤ 9), AW G l mdX11_before (zone (LAY L) P M (fun r => r = if w = 0 then bfR (alR M h g) n k best else alR M h g (bfR (alR M h g) n k best))) 33 [some (aR 209), some (aI h), some (aI g), some (aI w), some (aI best), some (aI k)] [] (LAY L) P M 0 0 := by
  intro n
  induction n with
  | zero =>
    intro k best g0 g1 gb
    have a1 := alR_in M h g best
    have a2 := alR_in M h g k
    have a3 := alR_in M h g (-k)
    refine a_iload dX11_before_33 rfl ?_
    refine a_bipush (w := 10) dX11_before_35 (by decide) ?_
    refine a_icmp_ge (tgt := 94) dX11_before_37 (by decide) ⟨by omega, by omega⟩ ⟨by omega, by omega⟩ (fun hb37 => ?_) (fun hb37 => ?_)
    · refine a_iloadn dX11_before_94 rfl ?_
      refine a_if_ne (tgt := 103) dX11_before_95 (by decide) ⟨by omega, by omega⟩ (fun hb95 => ?_) (fun hb95 => ?_)
      · refine a_aloadn dX11_before_103 rfl ?_
        refine a_iloadn dX11_before_104 rfl ?_
        refine a_iloadn dX11_before_105 rfl ?_
        refine a_iload dX11_before_106 rfl ?_
        refine a_callV (as := [_, _, _]) (q := 209) dX11_before_108 mvX11_467 ⟨by decide, by decide⟩ (L209 L) rfl rfl rfl (Nat.le_of_ble_eq_true rfl) ⟨rfl, rfl⟩ ⟨by decide, by decide⟩ (m_X11_alikeBy hP hT rh rg ⟨by omega, by omega⟩) ?_
        exact a_ireturn dX11_before_111 rfl rfl rfl (zone_i (by simp only [bfR]; first | (rw [if_pos (by omega)]; done) | (rw [if_neg (by omega)]; done)))
      · refine a_iload dX11_before_98 rfl ?_
        refine a_goto (tgt := 111) dX11_before_100 (by decide) ?_
        exact a_ireturn dX11_before_111 rfl rfl rfl (zone_i (by simp only [bfR]; first | (rw [if_pos (by omega)]; done) | (rw [if_neg (by omega)]; done)))
    · exfalso; omega
  | succ n ih =>
    intro k best g0 g1 gb
    have a1 := alR_in M h g best
    have a2 := alR_in M h g k
    have a3 := alR_in M h g (-k)
    refine a_iload dX11_before_33 rfl ?_
    refine a_bipush (w := 10) dX11_before_35 (by decide) ?_
    refine a_icmp_ge (tgt := 94) dX11_before_37 (by decide) ⟨by omega, by omega⟩ ⟨by omega, by omega⟩ (fun hb37 => ?_) (fun hb37 => ?_)
    · exfalso; omega
    · refine a_aloadn dX11_before_40 rfl ?_
      refine a_iloadn dX11_before_41 rfl ?_
      refine a_iloadn dX11_before_42 rfl ?_
      refine a_iload dX11_before_43 rfl ?_
      refine a_ineg dX11_before_45 ?_
      refine a_callV (as := [_, _, _]) (q := 209) dX11_before_46 mvX11_467 ⟨by decide, by decide⟩ (L209 L) rfl rfl rfl (Nat.le_of_ble_eq_true rfl) ⟨rfl, rfl⟩ ⟨by decide, by decide⟩ (m_X11_alikeBy hP hT rh rg ⟨by omega, by omega⟩) ?_
      refine a_aloadn dX11_before_49 rfl ?_
      refine a_iloadn dX11_before_50 rfl ?_
      refine a_iloadn dX11_before_51 rfl ?_
      refine a_iload dX11_before_52 rfl ?_
      refine a_callV (as := [_, _, _]) (q := 209) dX11_before_54 mvX11_467 ⟨by decide, by decide⟩ (L209 L) rfl rfl rfl (Nat.le_of_ble_eq_true rfl) ⟨rfl, rfl⟩ ⟨by decide, by decide⟩ (m_X11_alikeBy hP hT rh rg ⟨by omega, by omega⟩) ?_
      refine a_icmp_le (tgt := 65) dX11_before_57 (by decide) ⟨by omega, by omega⟩ ⟨by omega, by omega⟩ (fun hb57 => ?_) (fun hb57 => ?_)
      · refine a_aloadn dX11_before_65 rfl ?_
        refine a_iloadn dX11_before_66 rfl ?_
        refine a_iloadn dX11_before_67 rfl ?_
        refine a_iload dX11_before_68 rfl ?_
        refine a_callV (as := [_, _, _]) (q := 209) dX11_before_70 mvX11_467 ⟨by decide, by decide⟩ (L209 L) rfl rfl rfl (Nat.le_of_ble_eq_true rfl) ⟨rfl, rfl⟩ ⟨by decide, by decide⟩ (m_X11_alikeBy hP hT rh rg ⟨by omega, by omega⟩) ?_
        refine a_aloadn dX11_before_73 rfl ?_
        refine a_iloadn dX11_before_74 rfl ?_
        refine a_iloadn dX11_before_75 rfl ?_
        refine a_iload dX11_before_76 rfl ?_
        refine a_callV (as := [_, _, _]) (q := 209) dX11_before_78 mvX11_467 ⟨by decide, by decide⟩ (L209 L) rfl rfl rfl (Nat.le_of_ble_eq_true rfl) ⟨rfl, rfl⟩ ⟨by decide, by decide⟩ (m_X11_alikeBy hP hT rh rg ⟨by omega, by omega⟩) ?_
        refine a_icmp_le (tgt := 88) dX11_before_81 (by decide) ⟨by omega, by omega⟩ ⟨by omega, by omega⟩ (fun hb81 => ?_) (fun hb81 => ?_)
        · refine c_iinc (ls' := [_, _, _, _, _, _]) dX11_before_88 rfl (by decide) rfl rfl ?_
          refine a_goto (tgt := 33) dX11_before_91 (by decide) ?_
          first
          | (have eb : bfR (alR M h g) (n + 1) k best = bfR (alR M h g) n (k + 1) k := by simp only [bfR]; rw [if_pos (by omega), if_pos (by omega)]
             rw [eb]; exact ih _ _ (by omega) (by omega) (by omega))
          | (have eb : bfR (alR M h g) (n + 1) k best = bfR (alR M h g) n (k + 1) (-k) := by simp only [bfR]; rw [if_pos (by omega), if_neg (by omega)]
             rw [eb]; exact ih _ _ (by omega) (by omega) (by omega))
          | (have eb : bfR (alR M h g) (n + 1) k best = bfR (alR M h g) n (k + 1) k := by simp only [bfR]; rw [if_neg (by omega), if_pos (by omega)]
             rw [eb]; exact ih _ _ (by omega) (by omega) (by omega))
          | (have eb : bfR (alR M h g) (n + 1) k best = bfR (alR M h g) n (k + 1) best := by simp only [bfR]; rw [if_neg (by omega), if_neg (by omega)]
             rw [eb]; exact ih _ _ (by omega) (by omega) (by omega))
        · refine a_iload dX11_before_84 rfl ?_
          refine c_istore (ls' := [_, _, _, _, _, _]) dX11_before_86 (by decide) rfl rfl ?_
          refine c_iinc (ls' := [_, _, _, _, _, _]) dX11_before_88 rfl (by decide) rfl rfl ?_
          refine a_goto (tgt := 33) dX11_before_91 (by decide) ?_
          first
          | (have eb : bfR (alR M h g) (n + 1) k best = bfR (alR M h g) n (k + 1) k := by simp only [bfR]; rw [if_pos (by omega), if_pos (by omega)]
             rw [eb]; exact ih _ _ (by omega) (by omega) (by omega))
          | (have eb : bfR (alR M h g) (n + 1) k best = bfR (alR M h g) n (k + 1) (-k) := by simp only [bfR]; rw [if_pos (by omega), if_neg (by omega)]
             rw [eb]; exact ih _ _ (by omega) (by omega) (by omega))
          | (have eb : bfR (alR M h g) (n + 1) k best = bfR (alR M h g) n (k + 1) k := by simp only [bfR]; rw [if_neg (by omega), if_pos (by omega)]
             rw [eb]; exact ih _ _ (by omega) (by omega) (by omega))
          | (have eb : bfR (alR M h g) (n + 1) k best = bfR (alR M h g) n (k + 1) best := by simp only [bfR]; rw [if_neg (by omega), if_neg (by omega)]
             rw [eb]; exact ih _ _ (by omega) (by omega) (by omega))
      · refine a_iload dX11_before_60 rfl ?_
        refine a_ineg dX11_before_62 ?_
        refine c_istore (ls' := [_, _, _, _, _, _]) dX11_before_63 (by decide) rfl rfl ?_
        refine a_aloadn dX11_before_65 rfl ?_
        refine a_iloadn dX11_before_66 rfl ?_
        refine a_iloadn dX11_before_67 rfl ?_
        refine a_iload dX11_before_68 rfl ?_
        refine a_callV (as := [_, _, _]) (q := 209) dX11_before_70 mvX11_467 ⟨by decide, by decide⟩ (L209 L) rfl rfl rfl (Nat.le_of_ble_eq_true rfl) ⟨rfl, rfl⟩ ⟨by decide, by decide⟩ (m_X11_alikeBy hP hT rh rg ⟨by omega, by omega⟩) ?_
        refine a_aloadn dX11_before_73 rfl ?_
        refine a_iloadn dX11_before_74 rfl ?_
        refine a_iloadn dX11_before_75 rfl ?_
        refine a_iload dX11_before_76 rfl ?_
        refine a_callV (as := [_, _, _]) (q := 209) dX11_before_78 mvX11_467 ⟨by decide, by decide⟩ (L209 L) rfl rfl rfl (Nat.le_of_ble_eq_true rfl) ⟨rfl, rfl⟩ ⟨by decide, by decide⟩ (m_X11_alikeBy hP hT rh rg ⟨by omega, by omega⟩) ?_
        refine a_icmp_le (tgt := 88) dX11_before_81 (by decide) ⟨by omega, by omega⟩ ⟨by omega, by omega⟩ (fun hb81 => ?_) (fun hb81 => ?_)
        · refine c_iinc (ls' := [_, _, _, _, _, _]) dX11_before_88 rfl (by decide) rfl rfl ?_
          refine a_goto (tgt := 33) dX11_before_91 (by decide) ?_
          first
          | (have eb : bfR (alR M h g) (n + 1) k best = bfR (alR M h g) n (k + 1) k := by simp only [bfR]; rw [if_pos (by omega), if_pos (by omega)]
             rw [eb]; exact ih _ _ (by omega) (by omega) (by omega))
          | (have eb : bfR (alR M h g) (n + 1) k best = bfR (alR M h g) n (k + 1) (-k) := by simp only [bfR]; rw [if_pos (by omega), if_neg (by omega)]
             rw [eb]; exact ih _ _ (by omega) (by omega) (by omega))
          | (have eb : bfR (alR M h g) (n + 1) k best = bfR (alR M h g) n (k + 1) k := by simp only [bfR]; rw [if_neg (by omega), if_pos (by omega)]
             rw [eb]; exact ih _ _ (by omega) (by omega) (by omega))
          | (have eb : bfR (alR M h g) (n + 1) k best = bfR (alR M h g) n (k + 1) best := by simp only [bfR]; rw [if_neg (by omega), if_neg (by omega)]
             rw [eb]; exact ih _ _ (by omega) (by omega) (by omega))
        · refine a_iload dX11_before_84 rfl ?_
          refine c_istore (ls' := [_, _, _, _, _, _]) dX11_before_86 (by decide) rfl rfl ?_
          refine c_iinc (ls' := [_, _, _, _, _, _]) dX11_before_88 rfl (by decide) rfl rfl ?_
          refine a_goto (tgt := 33) dX11_before_91 (by decide) ?_
          first
          | (have eb : bfR (alR M h g) (n + 1) k best = bfR (alR M h g) n (k + 1) k := by simp only [bfR]; rw [if_pos (by omega), if_pos (by omega)]
             rw [eb]; exact ih _ _ (by omega) (by omega) (by omega))
          | (have eb : bfR (alR M h g) (n + 1) k best = bfR (alR M h g) n (k + 1) (-k) := by simp only [bfR]; rw [if_pos (by omega), if_neg (by omega)]
             rw [eb]; exact ih _ _ (by omega) (by omega) (by omega))
          | (have eb : bfR (alR M h g) (n + 1) k best = bfR (alR M h g) n (k + 1) k := by simp only [bfR]; rw [if_neg (by omega), if_pos (by omega)]
             rw [eb]; exact ih _ _ (by omega) (by omega) (by omega))
          | (have eb : bfR (alR M h g) (n + 1) k best = bfR (alR M h g) n (k + 1) best := by simp only [bfR]; rw [if_neg (by omega), if_neg (by omega)]
             rw [eb]; exact ih _ _ (by omega) (by omega) (by omega))

set_option maxRecDepth 100000 in
set_option maxHeartbeats 4000000 in
theorem m_X11_before {G : zG} {l : Launch} {L : Nat} {P : zP} {M : zM} {h g w : Int} (hv : RV P M) (rh : inR h) (rg : inR g) (rw : inR w) : AM G l yX11_before mdX11_before [aR 209, aI h, aI g, aI w] (LAY L) P M (zany (LAY L) P (fun r M' => Rn M M' ∧ r = if ¬ (two (M 209 12) h g ∧ 0 ≤ w ∧ w ≤ 1) then -2147483648 else if w = 0 then bfR (alR M h g) 9 1 0 else alR M h g (bfR (alR M h g) 9 1 0))) := by
  have hP := hv.1
  have q0 := hv.2.1.1.1.1
  refine AM.go [some (aR 209), some (aI h), some (aI g), some (aI w), none, none] rfl (Nat.le_of_ble_eq_true rfl) ?_ (by decide) rfl rfl
  refine a_aloadn dX11_before_0 rfl ?_
  refine a_iconst dX11_before_1 ?_
  refine a_putI (j' := 2) dX11_before_2 flX11_124 rfl rfl (L209 L) (by decide) rfl ⟨by omega, by omega⟩ ?_
  obtain ⟨Mt, hMt⟩ : ∃ Mt, Mt = sm M 209 2 0 := ⟨_, rfl⟩
  rw [← hMt]
  obtain ⟨hvt, hnt, e12, eT⟩ := th_all hv hMt
  refine a_aloadn dX11_before_5 rfl ?_
  refine a_iloadn dX11_before_6 rfl ?_
  refine a_iloadn dX11_before_7 rfl ?_
  refine a_oneV (as := [_, _]) (q := 209) dX11_before_8 mvX11_413 ⟨by decide, by decide⟩ (L209 L) rfl rfl rfl (Nat.le_of_ble_eq_true rfl) ⟨rfl, rfl⟩ ⟨by decide, by decide⟩ (m_areTwo1 (x := h) (y := g) rh rg) (fun x8 hx8 => ?_)
  refine a_if_eq (tgt := 23) dX11_before_11 (by decide) ⟨by omega, by omega⟩ (fun hb11 => ?_) (fun hb11 => ?_)
  · refine a_ldcw (w := -2147483648) dX11_before_23 knX11_466 (by decide) ?_
    exact a_ireturn dX11_before_26 rfl rfl rfl (zany_i ⟨hnt, by rw [if_pos (by omega)]⟩)
  · refine a_iloadn dX11_before_14 rfl ?_
    refine a_iconst dX11_before_15 ?_
    refine a_iconst dX11_before_16 ?_
    refine a_oneS (as := [_, _, _]) dX11_before_17 mvX11_169 ⟨by decide, by decide⟩ rfl rfl (Nat.le_of_ble_eq_true rfl) ⟨rfl, rfl⟩ ⟨by decide, by decide⟩ (m_isIn1 ⟨by omega, by omega⟩ ⟨by omega, by omega⟩ ⟨by omega, by omega⟩) (fun x17 hx17 => ?_)
    refine a_if_ne (tgt := 27) dX11_before_20 (by decide) ⟨by omega, by omega⟩ (fun hb20 => ?_) (fun hb20 => ?_)
    · refine a_iconst dX11_before_27 ?_
      refine c_istore (ls' := [_, _, _, _, _, _]) dX11_before_28 (by decide) rfl rfl ?_
      refine a_iconst dX11_before_30 ?_
      refine c_istore (ls' := [_, _, _, _, _, _]) dX11_before_31 (by decide) rfl rfl ?_
      refine AW.mono2 (lpX11_before hP hvt.2.1.1.1 (h := h) (g := g) (w := w) rh rg rw 9 1 0 (by omega) (by omega) (by omega)) ?_
      rintro r lay P' M' ⟨z1, z2, rfl, x, z3, z4⟩
      refine ⟨z1, z2, x, z3, hnt, ?_⟩
      rw [if_neg (by omega), z4, hnt.1.al]
    · refine a_ldcw (w := -2147483648) dX11_before_23 knX11_466 (by decide) ?_
      exact a_ireturn dX11_before_26 rfl rfl rfl (zany_i ⟨hnt, by rw [if_pos (by omega)]⟩)

/-- how many bits, in the reference -/
def myR (x : Int) : Int := zsm (fun j => b_iand (b_ishr x j) 1) 6 0 0
theorem and1 (x : Int) : b_iand x 1 = 0 ∨ b_iand x 1 = 1 := by
  have h : ∀ y : BitVec 32, (y &&& 1#32).toInt = 0 ∨ (y &&& 1#32).toInt = 1 := by
    intro y
    rw [BitVec.and_one_eq_setWidth_ofBool_getLsbD]
    cases y.getLsbD 0
    · left; decide
    · right; decide
  exact h (Int32.ofInt x).toBitVec
theorem zsm_b {f : Int → Int} (h : ∀ j, f j = 0 ∨ f j = 1) : ∀ (n : Nat) (i acc : Int), acc ≤ zsm f n i acc ∧ zsm f n i acc ≤ acc + n
  | 0, i, acc => by simp only [zsm]; omega
  | n + 1, i, acc => by
    have h1 := zsm_b h n (i + 1) (acc + f i)
    have h2 := h i
    simp only [zsm]
    omega
theorem myR_in (x : Int) : 0 ≤ myR x ∧ myR x ≤ 6 := by
  have := zsm_b (f := fun j => b_iand (b_ishr x j) 1) (fun j => and1 _) 6 0 0
  unfold myR
  omega
/-- is a house warned by a set -/
def wdR (b : Int → Int) (s h : Int) : Int := if kbit s h = 1 ∨ b_iand (b h) s ≠ 0 then 1 else 0
def wnR (b : Int → Int) (hs : Nat) : Nat → Int → Int → Int
  | 0, _, best => best
  | n + 1, s, best => wnR b hs n (s + 1) (if 0 ≤ best ∧ myR best ≤ myR s then best else if zall (wdR b s) hs 0 = 0 then best else s)

set_option maxRecDepth 100000 in
set_option maxHeartbeats 4000000 in
theorem lpX11_warn_in {G : zG} {l : Launch} {L : Nat} {P : zP} {M0 : zM} {best s : Int} {Z : zZ} (hP : PFok P) (hi : RI M0 0) : ∀ (n : Nat) (h is : Int) (M : zM) (g0 : 0 ≤ h) (g1 : h + n = M0 209 12) (gi : is = 0 ∨ is = 1) (hE : Es M0 M) (kk : ∀ M' : zM, Es M0 M' → AW G l mdX11_warn Z 92 [some (aR 209), some (aI best), some (aI s), some (aI (anF (wdR (hbR M0 0) s) n h is)), none] [] (LAY L) P M' 0 0), AW G l mdX11_warn Z 46 [some (aR 209), some (aI best), some (aI s), some (aI is), some (aI h)] [] (LAY L) P M 0 0 := by
  intro n
  induction n with
  | zero =>
    intro h is M g0 g1 gi hE kk
    have q1 := hi.1.1
    have q7 := kbit01 s h
    refine a_iload dX11_warn_46 rfl ?_
    refine a_aloadn dX11_warn_48 rfl ?_
    refine b_getI (j' := 12) dX11_warn_49 flX11_201 rfl rfl (L209 L) (fun hr49 => ?_)
    have e8 : M 209 12 = M0 209 12 := hE _ _ (by decide) (by decide) (by omega)
    rw [e8] at hr49
    rw [e8]
    refine a_icmp_ge (tgt := 92) dX11_warn_52 (by decide) ⟨by omega, by omega⟩ ⟨by omega, by omega⟩ (fun hb52 => ?_) (fun hb52 => ?_)
    · refine a_forget [4] (ls' := [_, _, _, _, none]) rfl (kk _ hE)
    · exfalso; omega
  | succ n ih =>
    intro h is M g0 g1 gi hE kk
    have q1 := hi.1.1
    have q7 := kbit01 s h
    refine a_iload dX11_warn_46 rfl ?_
    refine a_aloadn dX11_warn_48 rfl ?_
    refine b_getI (j' := 12) dX11_warn_49 flX11_201 rfl rfl (L209 L) (fun hr49 => ?_)
    have e8 : M 209 12 = M0 209 12 := hE _ _ (by decide) (by decide) (by omega)
    rw [e8] at hr49
    rw [e8]
    refine a_icmp_ge (tgt := 92) dX11_warn_52 (by decide) ⟨by omega, by omega⟩ ⟨by omega, by omega⟩ (fun hb52 => ?_) (fun hb52 => ?_)
    · exfalso; omega
    · refine a_iloadn dX11_warn_55 rfl ?_
      refine a_if_eq (tgt := 84) dX11_warn_56 (by decide) (by rcases gi with z | z <;> exact ⟨by omega, by omega⟩) (fun hb56 => ?_) (fun hb56 => ?_)
      · refine a_iconst dX11_warn_84 ?_
        refine c_istoren (ls' := [_, _, _, _, _]) dX11_warn_85 (by decide) rfl rfl ?_
        refine c_iinc (ls' := [_, _, _, _, _]) dX11_warn_86 rfl (by decide) rfl rfl ?_
        refine a_goto (tgt := 46) dX11_warn_89 (by decide) ?_
        simp only [anF] at kk
        first
        | (have e9 : wdR (hbR M0 0) s h = 1 := by unfold wdR; rw [if_pos (by omega)]
           rw [if_neg (by rw [e9]; decide), show is = 1 by omega] at kk
           first
           | exact ih _ _ _ (by omega) (by omega) (by omega) (hE.tr hM1.1) kk
           | exact ih _ _ _ (by omega) (by omega) (by omega) hE kk)
        | (have e9 : wdR (hbR M0 0) s h = 0 := by unfold wdR; rw [if_neg (by omega)]
           rw [if_pos e9] at kk
           first
           | exact ih _ _ _ (by omega) (by omega) (by omega) (hE.tr hM1.1) kk
           | exact ih _ _ _ (by omega) (by omega) (by omega) hE kk)
        | (rw [show is = 0 by omega] at kk
           rw [show (if wdR (hbR M0 0) s h = 0 then (0 : Int) else 0) = 0 from by split <;> rfl] at kk
           exact ih _ _ _ (by omega) (by omega) (by omega) hE kk)
      · refine a_iloadn dX11_warn_59 rfl ?_
        refine a_iload dX11_warn_60 rfl ?_
        refine a_callS (as := [_, _]) dX11_warn_62 mvX11_451 ⟨by decide, by decide⟩ rfl rfl (Nat.le_of_ble_eq_true rfl) ⟨rfl, rfl⟩ ⟨by decide, by decide⟩ m_X11_isOf ?_
        refine a_if_ne (tgt := 80) dX11_warn_65 (by decide) (by rcases q7 with z | z <;> exact ⟨by omega, by omega⟩) (fun hb65 => ?_) (fun hb65 => ?_)
        · refine a_iconst dX11_warn_80 ?_
          refine a_goto (tgt := 85) dX11_warn_81 (by decide) ?_
          refine c_istoren (ls' := [_, _, _, _, _]) dX11_warn_85 (by decide) rfl rfl ?_
          refine c_iinc (ls' := [_, _, _, _, _]) dX11_warn_86 rfl (by decide) rfl rfl ?_
          refine a_goto (tgt := 46) dX11_warn_89 (by decide) ?_
          simp only [anF] at kk
          first
          | (have e9 : wdR (hbR M0 0) s h = 1 := by unfold wdR; rw [if_pos (by omega)]
             rw [if_neg (by rw [e9]; decide), show is = 1 by omega] at kk
             first
             | exact ih _ _ _ (by omega) (by omega) (by omega) (hE.tr hM1.1) kk
             | exact ih _ _ _ (by omega) (by omega) (by omega) hE kk)
          | (have e9 : wdR (hbR M0 0) s h = 0 := by unfold wdR; rw [if_neg (by omega)]
             rw [if_pos e9] at kk
             first
             | exact ih _ _ _ (by omega) (by omega) (by omega) (hE.tr hM1.1) kk
             | exact ih _ _ _ (by omega) (by omega) (by omega) hE kk)
          | (rw [show is = 0 by omega] at kk
             rw [show (if wdR (hbR M0 0) s h = 0 then (0 : Int) else 0) = 0 from by split <;> rfl] at kk
             exact ih _ _ _ (by omega) (by omega) (by omega) hE kk)
        · refine a_aloadn dX11_warn_68 rfl ?_
          refine a_iconst dX11_warn_69 ?_
          refine a_iload dX11_warn_70 rfl ?_
          refine a_anyV (as := [_, _]) (q := 209) dX11_warn_72 mvX11_403 ⟨by decide, by decide⟩ (L209 L) rfl rfl rfl (Nat.le_of_ble_eq_true rfl) ⟨rfl, rfl⟩ ⟨by decide, by decide⟩ (m_X11_heardBy hP (Or.inl rfl) (hE.ri hi) ⟨by omega, by omega⟩) (fun x9 M1 hM1 => ?_)
          have ex9 : x9 = hbR M0 0 h := by rw [hM1.2, hE.hb]
          refine a_iloadn dX11_warn_75 rfl ?_
          refine a_iand dX11_warn_76 ?_
          rw [ex9]
          refine a_if_eq (tgt := 84) dX11_warn_77 (by decide) (ir _) (fun hb77 => ?_) (fun hb77 => ?_)
          · refine a_iconst dX11_warn_84 ?_
            refine c_istoren (ls' := [_, _, _, _, _]) dX11_warn_85 (by decide) rfl rfl ?_
            refine c_iinc (ls' := [_, _, _, _, _]) dX11_warn_86 rfl (by decide) rfl rfl ?_
            refine a_goto (tgt := 46) dX11_warn_89 (by decide) ?_
            simp only [anF] at kk
            first
            | (have e9 : wdR (hbR M0 0) s h = 1 := by unfold wdR; rw [if_pos (by omega)]
               rw [if_neg (by rw [e9]; decide), show is = 1 by omega] at kk
               first
               | exact ih _ _ _ (by omega) (by omega) (by omega) (hE.tr hM1.1) kk
               | exact ih _ _ _ (by omega) (by omega) (by omega) hE kk)
            | (have e9 : wdR (hbR M0 0) s h = 0 := by unfold wdR; rw [if_neg (by omega)]
               rw [if_pos e9] at kk
               first
               | exact ih _ _ _ (by omega) (by omega) (by omega) (hE.tr hM1.1) kk
               | exact ih _ _ _ (by omega) (by omega) (by omega) hE kk)
            | (rw [show is = 0 by omega] at kk
               rw [show (if wdR (hbR M0 0) s h = 0 then (0 : Int) else 0) = 0 from by split <;> rfl] at kk
               exact ih _ _ _ (by omega) (by omega) (by omega) hE kk)
          · refine a_iconst dX11_warn_80 ?_
            refine a_goto (tgt := 85) dX11_warn_81 (by decide) ?_
            refine c_istoren (ls' := [_, _, _, _, _]) dX11_warn_85 (by decide) rfl rfl ?_
            refine c_iinc (ls' := [_, _, _, _, _]) dX11_warn_86 rfl (by decide) rfl rfl ?_
            refine a_goto (tgt := 46) dX11_warn_89 (by decide) ?_
            simp only [anF] at kk
            first
            | (have e9 : wdR (hbR M0 0) s h = 1 := by unfold wdR; rw [if_pos (by omega)]
               rw [if_neg (by rw [e9]; decide), show is = 1 by omega] at kk
               first
               | exact ih _ _ _ (by omega) (by omega) (by omega) (hE.tr hM1.1) kk
               | exact ih _ _ _ (by omega) (by omega) (by omega) hE kk)
            | (have e9 : wdR (hbR M0 0) s h = 0 := by unfold wdR; rw [if_neg (by omega)]
               rw [if_pos e9] at kk
               first
               | exact ih _ _ _ (by omega) (by omega) (by omega) (hE.tr hM1.1) kk
               | exact ih _ _ _ (by omega) (by omega) (by omega) hE kk)
            | (rw [show is = 0 by omega] at kk
               rw [show (if wdR (hbR M0 0) s h = 0 then (0 : Int) else 0) = 0 from by split <;> rfl] at kk
               exact ih _ _ _ (by omega) (by omega) (by omega) hE kk)

set_option maxRecDepth 100000 in
set_option maxHeartbeats 4000000 in
theorem tlX11_warn {G : zG} {l : Launch} {L : Nat} {P : zP} {M : zM} {best s v : Int} {Z : zZ} (hP : PFok P) (gi : v = 0 ∨ v = 1) (kk : AW G l mdX11_warn Z 98 [some (aR 209), some (aI (if v = 0 then best else s)), some (aI s), none, none] [] (LAY L) P M 0 0) : AW G l mdX11_warn Z 92 [some (aR 209), some (aI best), some (aI s), some (aI v), none] [] (LAY L) P M 0 0 := by
  refine a_iloadn dX11_warn_92 rfl ?_
  refine a_if_eq (tgt := 98) dX11_warn_93 (by decide) (by rcases gi with z | z <;> exact ⟨by omega, by omega⟩) (fun hb93 => ?_) (fun hb93 => ?_)
  · refine a_forget [3] (ls' := [_, _, _, none, none]) rfl ?_
    first
    | (rw [if_pos (by omega)] at kk; exact kk)
    | (rw [if_neg (by omega)] at kk; exact kk)
  · refine a_iloadn dX11_warn_96 rfl ?_
    refine c_istoren (ls' := [_, _, _, _, _]) dX11_warn_97 (by decide) rfl rfl ?_
    refine a_forget [3] (ls' := [_, _, _, none, none]) rfl ?_
    first
    | (rw [if_pos (by omega)] at kk; exact kk)
    | (rw [if_neg (by omega)] at kk; exact kk)

set_option maxRecDepth 100000 in
set_option maxHeartbeats 4000000 in
theorem lpX11_warn {G : zG} {l : Launch} {L : Nat} {P : zP} {M0 : zM} (hP : PFok P) (hi : RI M0 0) : ∀ (n : Nat) (s best : Int) (M : zM) (g0 : 0 ≤ s) (g1 : s + n = b_ishl 1 (M0 209 12)) (gb : -1 ≤ best ∧ best ≤ 64) (hE : Es M0 M), AW G l mdX11_warn (zany (LAY L) P (fun r M' => Es M0 M' ∧ r = wnR (hbR M0 0) (M0 209 12).toNat n s best)) 13 [some (aR 209), some (aI best), some (aI s), none, none] [] (LAY L) P M 0 0 := by
  intro n
  induction n with
  | zero =>
    intro s best M g0 g1 gb hE
    have q1 := hi.1.1
    have q2 := shl1 q1.1 q1.2
    have b1 := myR_in s
    have b2 := myR_in best
    refine a_iloadn dX11_warn_13 rfl ?_
    refine a_iconst dX11_warn_14 ?_
    refine a_aloadn dX11_warn_15 rfl ?_
    refine b_getI (j' := 12) dX11_warn_16 flX11_201 rfl rfl (L209 L) (fun hr16 => ?_)
    have e8 : M 209 12 = M0 209 12 := hE _ _ (by decide) (by decide) (by omega)
    rw [e8] at hr16
    rw [e8]
    refine a_ishl dX11_warn_19 ?_
    refine a_icmp_ge (tgt := 104) dX11_warn_20 (by decide) ⟨by omega, by omega⟩ ⟨by omega, by omega⟩ (fun hb20 => ?_) (fun hb20 => ?_)
    · refine a_iloadn dX11_warn_104 rfl ?_
      exact a_ireturn dX11_warn_105 rfl rfl rfl (zany_i ⟨hE, rfl⟩)
    · exfalso; omega
  | succ n ih =>
    intro s best M g0 g1 gb hE
    have q1 := hi.1.1
    have q2 := shl1 q1.1 q1.2
    have b1 := myR_in s
    have b2 := myR_in best
    refine a_iloadn dX11_warn_13 rfl ?_
    refine a_iconst dX11_warn_14 ?_
    refine a_aloadn dX11_warn_15 rfl ?_
    refine b_getI (j' := 12) dX11_warn_16 flX11_201 rfl rfl (L209 L) (fun hr16 => ?_)
    have e8 : M 209 12 = M0 209 12 := hE _ _ (by decide) (by decide) (by omega)
    rw [e8] at hr16
    rw [e8]
    refine a_ishl dX11_warn_19 ?_
    refine a_icmp_ge (tgt := 104) dX11_warn_20 (by decide) ⟨by omega, by omega⟩ ⟨by omega, by omega⟩ (fun hb20 => ?_) (fun hb20 => ?_)
    · exfalso; omega
    · refine a_iloadn dX11_warn_23 rfl ?_
      refine a_if_lt (tgt := 41) dX11_warn_24 (by decide) ⟨by omega, by omega⟩ (fun hb24 => ?_) (fun hb24 => ?_)
      · refine a_iconst dX11_warn_41 ?_
        refine c_istoren (ls' := [_, _, _, _, _]) dX11_warn_42 (by decide) rfl rfl ?_
        refine a_iconst dX11_warn_43 ?_
        refine c_istore (ls' := [_, _, _, _, _]) dX11_warn_44 (by decide) rfl rfl ?_
        refine lpX11_warn_in hP hi (M0 209 12).toNat 0 1 M (by omega) (by omega) (Or.inr rfl) hE (fun M' hE' => ?_)
        rw [(anF_zall _ _ _).1]
        have z01 := zall01 (wdR (hbR M0 0) s) (M0 209 12).toNat 0
        refine tlX11_warn hP z01 ?_
        refine c_iinc (ls' := [_, _, _, _, _]) dX11_warn_98 rfl (by decide) rfl rfl ?_
        refine a_goto (tgt := 13) dX11_warn_101 (by decide) ?_
        simp only [wnR]
        rw [if_neg (by omega)]
        exact ih _ _ M' (by omega) (by omega) (by split <;> omega) hE'
      · refine a_iloadn dX11_warn_27 rfl ?_
        refine a_callS (as := [_]) dX11_warn_28 mvX11_470 ⟨by decide, by decide⟩ rfl rfl (Nat.le_of_ble_eq_true rfl) ⟨rfl, rfl⟩ ⟨by decide, by decide⟩ m_X11_manyOf ?_
        refine a_stk (st' := [aI (myR s)]) rfl ?_
        refine a_iloadn dX11_warn_31 rfl ?_
        refine a_callS (as := [_]) dX11_warn_32 mvX11_470 ⟨by decide, by decide⟩ rfl rfl (Nat.le_of_ble_eq_true rfl) ⟨rfl, rfl⟩ ⟨by decide, by decide⟩ m_X11_manyOf ?_
        refine a_stk (st' := [aI (myR best), aI (myR s)]) rfl ?_
        refine a_icmp_lt (tgt := 41) dX11_warn_35 (by decide) ⟨by omega, by omega⟩ ⟨by omega, by omega⟩ (fun hb35 => ?_) (fun hb35 => ?_)
        · refine a_iconst dX11_warn_41 ?_
          refine c_istoren (ls' := [_, _, _, _, _]) dX11_warn_42 (by decide) rfl rfl ?_
          refine a_iconst dX11_warn_43 ?_
          refine c_istore (ls' := [_, _, _, _, _]) dX11_warn_44 (by decide) rfl rfl ?_
          refine lpX11_warn_in hP hi (M0 209 12).toNat 0 1 M (by omega) (by omega) (Or.inr rfl) hE (fun M' hE' => ?_)
          rw [(anF_zall _ _ _).1]
          have z01 := zall01 (wdR (hbR M0 0) s) (M0 209 12).toNat 0
          refine tlX11_warn hP z01 ?_
          refine c_iinc (ls' := [_, _, _, _, _]) dX11_warn_98 rfl (by decide) rfl rfl ?_
          refine a_goto (tgt := 13) dX11_warn_101 (by decide) ?_
          simp only [wnR]
          rw [if_neg (by omega)]
          exact ih _ _ M' (by omega) (by omega) (by split <;> omega) hE'
        · refine a_goto (tgt := 98) dX11_warn_38 (by decide) ?_
          refine c_iinc (ls' := [_, _, _, _, _]) dX11_warn_98 rfl (by decide) rfl rfl ?_
          refine a_goto (tgt := 13) dX11_warn_101 (by decide) ?_
          simp only [wnR]
          rw [if_pos (by omega)]
          exact ih _ _ M (by omega) (by omega) gb hE

set_option maxRecDepth 100000 in
set_option maxHeartbeats 4000000 in
theorem m_X11_warn {G : zG} {l : Launch} {L : Nat} {P : zP} {M : zM}  (hv : RV P M) : AM G l yX11_warn mdX11_warn [aR 209] (LAY L) P M (zany (LAY L) P (fun r M' => Rn M M' ∧ ∃ Mb, Pb M Mb ∧ r = wnR (hbR Mb 0) (M 209 12).toNat (b_ishl 1 (M 209 12)).toNat 0 (-1))) := by
  have hP := hv.1
  have q0 := hv.2.1.1.1.1
  refine AM.go [some (aR 209), none, none, none, none] rfl (Nat.le_of_ble_eq_true rfl) ?_ (by decide) rfl rfl
  refine a_aloadn dX11_warn_0 rfl ?_
  refine a_iconst dX11_warn_1 ?_
  refine a_putI (j' := 2) dX11_warn_2 flX11_124 rfl rfl (L209 L) (by decide) rfl ⟨by omega, by omega⟩ ?_
  obtain ⟨Mt, hMt⟩ : ∃ Mt, Mt = sm M 209 2 0 := ⟨_, rfl⟩
  rw [← hMt]
  obtain ⟨hvt, hnt, e12, eT⟩ := th_all hv hMt
  refine a_aloadn dX11_warn_5 rfl ?_
  refine a_callVv (as := []) (q := 209) dX11_warn_6 mvX11_322 ⟨by decide, by decide⟩ (L209 L) rfl rfl rfl (Nat.le_of_ble_eq_true rfl) ⟨rfl, rfl⟩ ⟨by decide, by decide⟩ (m_X11_plainTried hP) ?_
  have hpb := ptM_pb hnt
  have hnp := hpb.rn hv
  have hvp := hnp.rv hv
  obtain ⟨Mb, hMb⟩ : ∃ Mb, Mb = ptM Mt := ⟨_, rfl⟩
  rw [← hMb] at hpb hnp hvp ⊢
  have q12 : Mb 209 12 = M 209 12 := hnp.1 209 12 (by omega)
  refine a_iconst dX11_warn_9 ?_
  refine c_istoren (ls' := [_, _, _, _, _]) dX11_warn_10 (by decide) rfl rfl ?_
  refine a_iconst dX11_warn_11 ?_
  refine c_istoren (ls' := [_, _, _, _, _]) dX11_warn_12 (by decide) rfl rfl ?_
  have q2 := shl1 q0.1 q0.2
  refine AW.mono2 (lpX11_warn hP hvp.2.1.1 (b_ishl 1 (M 209 12)).toNat 0 (-1) Mb (by omega) (by rw [q12]; omega) (by omega) (Es.rf Mb)) ?_
  rintro r lay P' M' ⟨z1, z2, x, z3, z4, z5⟩
  exact ⟨z1, z2, x, z3, hnp.es z4, Mb, hpb, by rw [← q12]; rw [q12] at z5 ⊢; exact z5⟩
