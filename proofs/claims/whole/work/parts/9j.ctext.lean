section ZCTX
theorem to_at (L : Nat) {P : zP} {t : Nat} (h : PFok P) (ht : t = 4 ∨ t = 23) : ToA L P t := by
  rcases ht with e | e <;> subst e
  · exact to_toldA L h
  · exact to_toldB L h
theorem a_rtV {G : zG} {l : Launch} {md : zMd} {Z : zZ} {pc : Nat} {ls : List (Option av)} {st : List av} {L : Nat} {P : zP} {M : zM} {k n : Nat} {y : MethodName} {md2 : zMd} {idx nA : Nat} {C : String} {as : List av} {st0 : List av} {q ci : Nat} {T : u_T} {N : Nat} {t : Nat} {nn : Int} {M0 : zM} (d : decode md.2.2.1 pc = .ok (.invokevirtual idx, 3)) (hm : MV md.1 idx C y md2 nA) (hR : RM md md2) (hk : (LAY L)[q]? = some (.inr ci)) (hc : vwCl[ci]? = some (C, T, N)) (hn : as.length = nA) (hst : as.reverse ++ aR q :: st = st0) (hcat : (st.map zcat1).sum ≤ 8) (hz : md2.2.2.2.2.2.cells = 0 ∧ md2.2.2.2.2.2.slots = 0) (hkn : k ≤ md.2.2.2.2.2.cells ∧ n ≤ md.2.2.2.2.2.slots) (hM : AM G l y md2 (aR q :: as) (LAY L) P M (zrt L t P M0 nn))
    (kk : ∀ (x : Int) (P' : zP) (M' : zM), PR P P' → PFok P' → (∃ (Ma Mc : zM) (N : Nat), clT t M0 Ma ∧ CuR (M0 3) nn N (sm (sm Ma 42 6 0) 42 7 (-1)) Mc ∧ M' = rdL t (nn + 1).toNat Mc) → x = (if M' 42 6 = 0 then 1 else 0) → AW G l md Z (pc + 3) ls (aI x :: st) (LAY L) P' M' k n) : AW G l md Z pc ls st0 (LAY L) P M k n := by
  refine a_invV d hm hR hk hc hn hst hcat (by rw [hz.1, hz.2]; exact hkn) hM ?_
  rintro r lay' P'' M'' ⟨rfl, hp, hf, Ma, Mc, N9, h1, h2, h3, rfl⟩
  rw [hz.1, hz.2]
  exact kk _ P'' M'' hp hf ⟨Ma, Mc, N9, h1, h2, h3⟩ rfl
/-- what text does: the class's -/
def zct (L t d : Nat) (P : zP) (M : zM) (nn : Int) : zZ := fun r lay P' M' => lay = LAY L ∧ PFok P' ∧ ((¬ (0 ≤ nn ∧ nn ≤ M 2 1) ∧ r = some (aI (-2)) ∧ M' = M ∧ P' = P) ∨ ((0 ≤ nn ∧ nn ≤ M 2 1) ∧ ∃ (Ma Mc : zM) (N : Nat) (Mf : zM), clT d (sm M 2 1 0) Ma ∧ CuR (M 3) nn N (sm (sm Ma 42 6 0) 42 7 (-1)) Mc ∧ Mf = rdL d (nn + 1).toNat Mc ∧ ((Mf 42 6 ≠ 0 ∧ r = some (aI (-1)) ∧ M' = Mf ∧ P' 2 2 = some t ∧ P' 2 3 = some d ∧ P' 50 0 = some t) ∨ (Mf 42 6 = 0 ∧ r = some (aI (Mf d 0)) ∧ P' 2 2 = some d ∧ P' 2 3 = some t ∧ P' 50 0 = some d ∧ ∃ M1, BgR (agM d Mf) 61 d M1 ∧ M' = sm (sm (sm (sm M1 201 6 0) 201 7 (-1)) 79 2 0) 2 10 0))))
end ZCTX

set_option maxRecDepth 100000 in
set_option maxHeartbeats 4000000 in
theorem tdX10_text {G : zG} {l : Launch} {L : Nat} {P : zP} {t d : Nat} {Mf : zM} {Z : zZ} {nn : Int} (hP : PFok P) (hd : d = 4 ∨ d = 23) (h22 : P 2 2 = some d) (h50 : P 50 0 = some d) (hI : ToI Mf d) (hZ : ∀ M1, BgR (agM d Mf) 61 d M1 → Z (some (aI (Mf d 0))) (LAY L) P (sm (sm (sm (sm M1 201 6 0) 201 7 (-1)) 79 2 0) 2 10 0)) : AW G l mdX10_text Z 70 [some (aR 2), some (aI nn), some (aR t)] [] (LAY L) P Mf 0 0 := by
  have hD := to_at L hP hd
  have hI2 : ToI (agM d Mf) d := hI.eq (fun k a b => by unfold agM; rw [sm_n (by omega), sm_n (by omega), sm_n (by omega), sm_n (by omega), sm_n (by omega)])
  refine a_aloadn dX10_text_70 rfl ?_
  refine a_getR (j' := 5) (y := 50) dX10_text_71 flX10_35 rfl rfl (L2 L) (p2_5 hP) ?_
  refine a_callVv (as := []) (q := 50) dX10_text_74 mvX10_78 ⟨by decide, by decide⟩ (L50 L) rfl rfl rfl (Nat.le_of_ble_eq_true rfl) ⟨rfl, rfl⟩ ⟨by decide, by decide⟩ (m_X0_asItGoes hP h50 hD hd hI) ?_
  refine a_aloadn dX10_text_77 rfl ?_
  refine a_getR (j' := 7) (y := 61) dX10_text_78 flX10_51 rfl rfl (L2 L) (p2_7 hP) ?_
  refine a_aloadn dX10_text_81 rfl ?_
  refine a_getR (j' := 2) (y := d) dX10_text_82 flX10_16 rfl rfl (L2 L) h22 ?_
  refine a_relVv (as := [_]) (q := 61) dX10_text_85 mvX10_81 ⟨by decide, by decide⟩ (L61 L) rfl rfl rfl (Nat.le_of_ble_eq_true rfl) ⟨rfl, rfl⟩ ⟨by decide, by decide⟩ (m_X5_begin (st_now L hP) hD (by decide) (by omega) hI2) (fun M1 hM1 => ?_)
  have e0 : M1 d = Mf d := by rw [hM1.2.2.2.2 d (by omega)]; (try unfold agM); rw [sm_n (by omega), sm_n (by omega), sm_n (by omega), sm_n (by omega), sm_n (by omega)]
  refine a_aloadn dX10_text_88 rfl ?_
  refine a_getR (j' := 12) (y := 201) dX10_text_89 flX10_71 rfl rfl (L2 L) (p2_12 hP) ?_
  refine a_callVv (as := []) (q := 201) dX10_text_92 mvX10_97 ⟨by decide, by decide⟩ (L201 L) rfl rfl rfl (Nat.le_of_ble_eq_true rfl) ⟨rfl, rfl⟩ ⟨by decide, by decide⟩ (m_X2_clear hP) ?_
  refine a_aloadn dX10_text_95 rfl ?_
  refine a_getR (j' := 11) (y := 79) dX10_text_96 flX10_64 rfl rfl (L2 L) (p2_11 hP) ?_
  refine a_callVv (as := []) (q := 79) dX10_text_99 mvX10_100 ⟨by decide, by decide⟩ (L79 L) rfl rfl rfl (Nat.le_of_ble_eq_true rfl) ⟨rfl, rfl⟩ ⟨by decide, by decide⟩ (m_X9_clear hP) ?_
  refine a_aloadn dX10_text_102 rfl ?_
  refine a_iconst dX10_text_103 ?_
  refine a_putZ (j' := 10) dX10_text_104 flX10_101 rfl rfl (L2 L) (by decide) rfl (by omega) ?_
  refine a_aloadn dX10_text_107 rfl ?_
  refine a_getR (j' := 2) (y := d) dX10_text_108 flX10_16 rfl rfl (L2 L) h22 ?_
  refine b_getI (j' := 0) dX10_text_111 flX10_105 rfl rfl hD.1.2.1 (fun hr111 => ?_)
  have e9 : (sm (sm (sm (sm M1 201 6 0) 201 7 (-1)) 79 2 0) 2 10 0) d 0 = Mf d 0 := by rw [sm_n (by omega), sm_n (by omega), sm_n (by omega), sm_n (by omega), e0]
  rw [e9]
  exact a_ireturn dX10_text_114 rfl rfl rfl (hZ M1 hM1)

set_option maxRecDepth 100000 in
set_option maxHeartbeats 4000000 in
theorem tcX10_text {G : zG} {l : Launch} {L : Nat} {P : zP} {t d : Nat} {Mf : zM} {Z : zZ} {nn : Int} (hP : PFok P) (hd : d = 4 ∨ d = 23) (h22 : P 2 2 = some d) (hI : ToI Mf d) (hZ : ∀ M1, BgR (agM d Mf) 61 d M1 → Z (some (aI (Mf d 0))) (LAY L) (sp P 50 0 (some d)) (sm (sm (sm (sm M1 201 6 0) 201 7 (-1)) 79 2 0) 2 10 0)) : AW G l mdX10_text Z 59 [some (aR 2), some (aI nn), some (aR t)] [] (LAY L) P Mf 0 0 := by
  have hD := to_at L hP hd
  refine a_aloadn dX10_text_59 rfl ?_
  refine a_getR (j' := 5) (y := 50) dX10_text_60 flX10_35 rfl rfl (L2 L) (p2_5 hP) ?_
  refine a_aloadn dX10_text_63 rfl ?_
  refine a_getR (j' := 2) (y := d) dX10_text_64 flX10_16 rfl rfl (L2 L) h22 ?_
  refine a_putR (j' := 0) dX10_text_67 flX10_96 rfl rfl (L50 L) (by decide) rfl ?_
  exact tdX10_text (PF_off hP (by decide +kernel) _) hd (by rw [sp_n (by decide)]; exact h22) (sp_s _ _ _ _) hI hZ

set_option maxRecDepth 100000 in
set_option maxHeartbeats 4000000 in
theorem tbX10_text {G : zG} {l : Launch} {L : Nat} {P : zP} {t d : Nat} {Mf : zM} {Z : zZ} {nn : Int} {x : Int} (hP : PFok P) (ht : t = 4 ∨ t = 23) (hd : d = 4 ∨ d = 23) (h22 : P 2 2 = some t) (h23 : P 2 3 = some d) (hI : ToI Mf d) (hx : x = if Mf 42 6 = 0 then 1 else 0) (hZ0 : Mf 42 6 ≠ 0 → Z (some (aI (-1))) (LAY L) P Mf) (hZ : Mf 42 6 = 0 → ∀ M1, BgR (agM d Mf) 61 d M1 → Z (some (aI (Mf d 0))) (LAY L) (sp (sp (sp P 2 2 (some d)) 2 3 (some t)) 50 0 (some d)) (sm (sm (sm (sm M1 201 6 0) 201 7 (-1)) 79 2 0) 2 10 0)) : AW G l mdX10_text Z 36 [some (aR 2), some (aI nn), none] [aI x] (LAY L) P Mf 0 0 := by
  have hT := to_at L hP ht
  have hD := to_at L hP hd
  have hx2 : (x = 1 ∧ Mf 42 6 = 0) ∨ (x = 0 ∧ Mf 42 6 ≠ 0) := by rw [hx]; split <;> omega
  refine a_if_ne (tgt := 41) dX10_text_36 (by decide) (by rcases hx2 with h | h <;> (rw [h.1]; decide)) (fun hb36 => ?_) (fun hb36 => ?_)
  · refine a_aloadn dX10_text_41 rfl ?_
    refine a_getR (j' := 2) (y := t) dX10_text_42 flX10_16 rfl rfl (L2 L) h22 ?_
    refine c_astoren (ls' := [_, _, _]) dX10_text_45 (by decide) rfl rfl ?_
    refine a_aloadn dX10_text_46 rfl ?_
    refine a_aloadn dX10_text_47 rfl ?_
    refine a_getR (j' := 3) (y := d) dX10_text_48 flX10_20 rfl rfl (L2 L) h23 ?_
    refine a_putR (j' := 2) dX10_text_51 flX10_16 rfl rfl (L2 L) (by decide) rfl ?_
    refine a_aloadn dX10_text_54 rfl ?_
    refine a_aloadn dX10_text_55 rfl ?_
    refine a_putR (j' := 3) dX10_text_56 flX10_20 rfl rfl (L2 L) (by decide) rfl ?_
    exact tcX10_text (PF_off (PF_off hP (by decide +kernel) _) (by decide +kernel) _) hd (by rw [sp_k (by decide), sp_s]) hI (hZ (by omega))
  · refine a_iconst dX10_text_39 ?_
    exact a_ireturn dX10_text_40 rfl rfl rfl (hZ0 (by omega))

set_option maxRecDepth 100000 in
set_option maxHeartbeats 4000000 in
theorem m_X10_text {G : zG} {l : Launch} {L : Nat} {P : zP} {M : zM} {t d : Nat} {nn : Int} (hP : PFok P) (htd : (t = 4 ∧ d = 23) ∨ (t = 23 ∧ d = 4)) (h22 : P 2 2 = some t) (h23 : P 2 3 = some d) (h50 : P 50 0 = some t) (hL : ∀ k : Int, 0 ≤ k → k < 21 → M 44 k = lngF k) (hR : ∀ i : Int, 0 ≤ i → i < 14 → M 1 i = rnk i) (hI : ToI M d) (ht : M 2 1 ≤ 700) (hi : inR nn) : AM G l yX10_text mdX10_text [aR 2, aI nn] (LAY L) P M (zct L t d P M nn) := by
  have hD := to_at L hP (t := d) (by omega)
  refine AM.go [some (aR 2), some (aI nn), none] rfl (Nat.le_of_ble_eq_true rfl) ?_ (by decide) rfl rfl
  refine a_iloadn dX10_text_0 rfl ?_
  refine a_if_lt (tgt := 12) dX10_text_1 (by decide) hi (fun hb1 => ?_) (fun hb1 => ?_)
  · refine a_bipush (w := (-2)) dX10_text_12 (by decide) ?_
    exact a_ireturn dX10_text_14 rfl rfl rfl ⟨rfl, hP, Or.inl ⟨by omega, rfl, rfl, rfl⟩⟩
  · refine a_iloadn dX10_text_4 rfl ?_
    refine a_aloadn dX10_text_5 rfl ?_
    refine b_getI (j' := 1) dX10_text_6 flX10_84 rfl rfl (L2 L) (fun hr6 => ?_)
    refine a_icmp_le (tgt := 15) dX10_text_9 (by decide) hi hr6 (fun hb9 => ?_) (fun hb9 => ?_)
    · refine a_aloadn dX10_text_15 rfl ?_
      refine a_iconst dX10_text_16 ?_
      refine a_putI (j' := 1) dX10_text_17 flX10_84 rfl rfl (L2 L) (by decide) rfl ⟨by omega, by omega⟩ ?_
      refine a_aloadn dX10_text_20 rfl ?_
      refine a_getR (j' := 4) (y := 42) dX10_text_21 flX10_28 rfl rfl (L2 L) (p2_4 hP) ?_
      refine a_aloadn dX10_text_24 rfl ?_
      refine a_getR (j' := 0) (y := 3) dX10_text_25 flX10_9 rfl rfl (L2 L) (p2_0 hP) ?_
      refine a_iloadn dX10_text_28 rfl ?_
      refine a_aloadn dX10_text_29 rfl ?_
      refine a_getR (j' := 3) (y := d) dX10_text_30 flX10_20 rfl rfl (L2 L) h23 ?_
      refine a_rtV (as := [_, _, _]) (q := 42) dX10_text_33 mvX10_92 ⟨by decide, by decide⟩ (L42 L) rfl rfl rfl (Nat.le_of_ble_eq_true rfl) ⟨rfl, rfl⟩ ⟨by decide, by decide⟩ (m_X4_read (t := d) hP hD (by omega) ⟨by omega, by omega⟩ (fun k a b => by rw [sm_n (by decide)]; exact hL k a b) (fun k a b => by rw [sm_n (by decide)]; exact hR k a b) (hI.eq (fun k a b => sm_n (by omega)))) (fun x33 P1 M1 hP1 fP1 eM1 xM1 => ?_)
      obtain ⟨Ma, Mc, N9, q1, q2, q3⟩ := eM1
      rw [sm_n (show 3 ≠ 2 by decide)] at q2
      have ri := rd_ini (t := d) (nn := nn) (by omega) ⟨by omega, by omega⟩ (hI.eq (M' := sm M 2 1 0) (fun k a b => sm_n (by omega))) (fun k a b => by rw [sm_n (by decide)]; exact hR k a b) q1 (by rw [sm_n (show 3 ≠ 2 by decide)]; exact q2)
      have rI := (rdL_I (t := d) (by omega) (nn + 1).toNat Mc ri.1).1
      rw [← q3] at rI
      have a22 : P1 2 2 = some t := by rw [hP1 2 2 (by omega) (by omega)]; exact h22
      have a23 : P1 2 3 = some d := by rw [hP1 2 3 (by omega) (by omega)]; exact h23
      have a50 : P1 50 0 = some t := by rw [hP1 50 0 (by omega) (by omega)]; exact h50
      refine tbX10_text (t := t) (d := d) fP1 (by omega) (by omega) a22 a23 rI.2.1 xM1 (fun z => ?_) (fun z M2 hM2 => ?_)
      · exact ⟨rfl, fP1, Or.inr ⟨by omega, Ma, Mc, N9, M1, q1, q2, q3, Or.inl ⟨z, rfl, rfl, a22, a23, a50⟩⟩⟩
      · refine ⟨rfl, PF_off (PF_off (PF_off fP1 (by decide +kernel) _) (by decide +kernel) _) (by decide +kernel) _, Or.inr ⟨by omega, Ma, Mc, N9, M1, q1, q2, q3, Or.inr ⟨z, rfl, ?_, ?_, sp_s _ _ _ _, M2, hM2, rfl⟩⟩⟩
        · rw [sp_n (by decide), sp_k (by decide), sp_s]
        · rw [sp_n (by decide), sp_s]
    · refine a_bipush (w := (-2)) dX10_text_12 (by decide) ?_
      exact a_ireturn dX10_text_14 rfl rfl rfl ⟨rfl, hP, Or.inl ⟨by omega, rfl, rfl, rfl⟩⟩
