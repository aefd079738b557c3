theorem m_knowsMany {G : zG} {l : Launch} {L : Nat} {P : zP} {M : zM} {b h : Int} (hP : PFok P) (hI : TxI M) (hb : b = 0 ∨ b = 1) (hh : 0 ≤ h ∧ h < 6) : AM G l yX11_knowsMany mdX11_knowsMany [aR 209, aI b, aI h] (LAY L) P M (zdet (some (aI (kmM M b h))) (LAY L) P M) := m_X11_knowsMany hP hI hb hh

set_option maxRecDepth 100000 in
set_option maxHeartbeats 4000000 in
theorem m_layNames {G : zG} {l : Launch} {L : Nat} {P : zP} {M : zM} {b h o kd : Int} (hP : PFok P) (hb : b = 0 ∨ b = 1) (hi : RI M b) (h0 : 0 ≤ h) (h1 : h < 6) (o0 : 0 ≤ o) (o1 : o < 6) (hk : 0 ≤ kd ∧ kd ≤ 9) : AM G l yX11_layNames mdX11_layNames [aR 209, aI b, aI h, aI o, aI kd] (LAY L) P M (zrel none (LAY L) P (fun M' => (∀ (k : Nat) (i : Int), k ≠ 231 → M' k i = M k i) ∧ ∀ i : Int, 0 ≤ i → i < 7 → M' 231 i = nmf (M 233 (6 * b + h)) (M 234 (6 * b + h)) (iabs (M 233 (6 * b + h) - M 233 (6 * b + o))) kd (M 236 (36 * b + 6 * h + o)) (kmM M b h) (M 238 b) i)) := by
  have q1 := hi.2.2.1.1 h h0 h1
  have q3 := hi.2.2.1.2.1 h h0 h1
  have q6 := kmM_in hi.1 b h
  have q7 := hi.2.2.1.2.2.2
  have q2 := hi.2.2.1.1 o o0 o1
  have q4 := hi.2.2.1.2.2.1 (6 * h + o) (by omega) (by omega)
  rw [show 36 * b + (6 * h + o) = 36 * b + 6 * h + o by omega] at q4
  have q8 := iabs_99 q1 q2
  refine AM.go [some (aR 209), some (aI b), some (aI h), some (aI o), some (aI kd)] rfl (Nat.le_of_ble_eq_true rfl) ?_ (by decide) rfl rfl
  refine a_aloadn dX11_layNames_0 rfl ?_
  refine a_getR (j' := 45) (y := 231) dX11_layNames_1 flX11_78 rfl rfl (L209 L) (p209_45 hP) ?_
  refine a_iconst dX11_layNames_4 ?_
  refine a_aloadn dX11_layNames_5 rfl ?_
  refine a_getR (j' := 48) (y := 233) dX11_layNames_6 flX11_85 rfl rfl (L209 L) (p209_48 hP) ?_
  refine a_bipush (w := 6) dX11_layNames_9 (by decide) ?_
  refine a_iloadn dX11_layNames_11 rfl ?_
  refine a_imul dX11_layNames_12 ?_
  refine a_iloadn dX11_layNames_13 rfl ?_
  refine a_iadd dX11_layNames_14 ?_
  refine b_iald (N := 12) dX11_layNames_15 (L233 L) (by decide) (by omega) (by omega) (fun hr15 => ?_)
  refine a_i2l dX11_layNames_16 ⟨by omega, by omega⟩ ?_
  refine a_last (N := 7) dX11_layNames_17 (L231 L) (by decide) (by decide) (by decide) (by decide) ⟨by omega, by omega⟩ ?_
  refine a_aloadn dX11_layNames_18 rfl ?_
  refine a_getR (j' := 45) (y := 231) dX11_layNames_19 flX11_78 rfl rfl (L209 L) (p209_45 hP) ?_
  refine a_iconst dX11_layNames_22 ?_
  refine a_aloadn dX11_layNames_23 rfl ?_
  refine a_getR (j' := 49) (y := 234) dX11_layNames_24 flX11_88 rfl rfl (L209 L) (p209_49 hP) ?_
  refine a_bipush (w := 6) dX11_layNames_27 (by decide) ?_
  refine a_iloadn dX11_layNames_29 rfl ?_
  refine a_imul dX11_layNames_30 ?_
  refine a_iloadn dX11_layNames_31 rfl ?_
  refine a_iadd dX11_layNames_32 ?_
  refine b_iald (N := 12) dX11_layNames_33 (L234 L) (by decide) (by omega) (by omega) (fun hr33 => ?_)
  have e33 : (sm M 231 0 (M 233 (6 * b + h))) 234 (6 * b + h) = M 234 (6 * b + h) := by rw [sm_n (by decide)]
  rw [e33] at hr33
  rw [e33]
  refine a_i2l dX11_layNames_34 ⟨by omega, by omega⟩ ?_
  refine a_last (N := 7) dX11_layNames_35 (L231 L) (by decide) (by decide) (by decide) (by decide) ⟨by omega, by omega⟩ ?_
  refine a_aloadn dX11_layNames_36 rfl ?_
  refine a_getR (j' := 45) (y := 231) dX11_layNames_37 flX11_78 rfl rfl (L209 L) (p209_45 hP) ?_
  refine a_iconst dX11_layNames_40 ?_
  refine a_iloadn dX11_layNames_41 rfl ?_
  refine a_if_ge (tgt := 49) dX11_layNames_42 (by decide) ⟨by omega, by omega⟩ (fun hb42 => ?_) (fun hb42 => ?_)
  · refine a_aloadn dX11_layNames_49 rfl ?_
    refine a_getR (j' := 48) (y := 233) dX11_layNames_50 flX11_85 rfl rfl (L209 L) (p209_48 hP) ?_
    refine a_bipush (w := 6) dX11_layNames_53 (by decide) ?_
    refine a_iloadn dX11_layNames_55 rfl ?_
    refine a_imul dX11_layNames_56 ?_
    refine a_iloadn dX11_layNames_57 rfl ?_
    refine a_iadd dX11_layNames_58 ?_
    refine b_iald (N := 12) dX11_layNames_59 (L233 L) (by decide) (by omega) (by omega) (fun hr59 => ?_)
    have e59 : (sm (sm M 231 0 (M 233 (6 * b + h))) 231 1 (M 234 (6 * b + h))) 233 (6 * b + h) = M 233 (6 * b + h) := by rw [sm_n (by decide), sm_n (by decide)]
    rw [e59] at hr59
    rw [e59]
    refine a_aloadn dX11_layNames_60 rfl ?_
    refine a_getR (j' := 48) (y := 233) dX11_layNames_61 flX11_85 rfl rfl (L209 L) (p209_48 hP) ?_
    refine a_bipush (w := 6) dX11_layNames_64 (by decide) ?_
    refine a_iloadn dX11_layNames_66 rfl ?_
    refine a_imul dX11_layNames_67 ?_
    refine a_iloadn dX11_layNames_68 rfl ?_
    refine a_iadd dX11_layNames_69 ?_
    refine b_iald (N := 12) dX11_layNames_70 (L233 L) (by decide) (by omega) (by omega) (fun hr70 => ?_)
    have e70 : (sm (sm M 231 0 (M 233 (6 * b + h))) 231 1 (M 234 (6 * b + h))) 233 (6 * b + o) = M 233 (6 * b + o) := by rw [sm_n (by decide), sm_n (by decide)]
    rw [e70] at hr70
    rw [e70]
    refine a_callS (as := [_, _]) dX11_layNames_71 mvX11_355 ⟨by decide, by decide⟩ rfl rfl (Nat.le_of_ble_eq_true rfl) ⟨rfl, rfl⟩ ⟨by decide, by decide⟩ (m_X11_apart ⟨by omega, by omega⟩ ⟨by omega, by omega⟩) ?_
    refine a_i2l dX11_layNames_74 ⟨by omega, by omega⟩ ?_
    refine a_last (N := 7) dX11_layNames_75 (L231 L) (by decide) (by decide) (by decide) (by decide) ⟨by omega, by omega⟩ ?_
    refine a_aloadn dX11_layNames_76 rfl ?_
    refine a_getR (j' := 45) (y := 231) dX11_layNames_77 flX11_78 rfl rfl (L209 L) (p209_45 hP) ?_
    refine a_iconst dX11_layNames_80 ?_
    refine a_iload dX11_layNames_81 rfl ?_
    refine a_i2l dX11_layNames_83 ⟨by omega, by omega⟩ ?_
    refine a_last (N := 7) dX11_layNames_84 (L231 L) (by decide) (by decide) (by decide) (by decide) ⟨by omega, by omega⟩ ?_
    refine a_aloadn dX11_layNames_85 rfl ?_
    refine a_getR (j' := 45) (y := 231) dX11_layNames_86 flX11_78 rfl rfl (L209 L) (p209_45 hP) ?_
    refine a_iconst dX11_layNames_89 ?_
    refine a_iloadn dX11_layNames_90 rfl ?_
    refine a_if_ge (tgt := 98) dX11_layNames_91 (by decide) ⟨by omega, by omega⟩ (fun hb91 => ?_) (fun hb91 => ?_)
    · refine a_aloadn dX11_layNames_98 rfl ?_
      refine a_getR (j' := 51) (y := 236) dX11_layNames_99 flX11_94 rfl rfl (L209 L) (p209_51 hP) ?_
      refine a_bipush (w := 36) dX11_layNames_102 (by decide) ?_
      refine a_iloadn dX11_layNames_104 rfl ?_
      refine a_imul dX11_layNames_105 ?_
      refine a_bipush (w := 6) dX11_layNames_106 (by decide) ?_
      refine a_iloadn dX11_layNames_108 rfl ?_
      refine a_imul dX11_layNames_109 ?_
      refine a_iadd dX11_layNames_110 ?_
      refine a_iloadn dX11_layNames_111 rfl ?_
      refine a_iadd dX11_layNames_112 ?_
      refine b_iald (N := 72) dX11_layNames_113 (L236 L) (by decide) (by omega) (by omega) (fun hr113 => ?_)
      have e113 : (sm (sm (sm (sm M 231 0 (M 233 (6 * b + h))) 231 1 (M 234 (6 * b + h))) 231 2 (iabs (M 233 (6 * b + h) - M 233 (6 * b + o)))) 231 3 kd) 236 (36 * b + 6 * h + o) = M 236 (36 * b + 6 * h + o) := by rw [sm_n (by decide), sm_n (by decide), sm_n (by decide), sm_n (by decide)]
      rw [e113] at hr113
      rw [e113]
      refine a_i2l dX11_layNames_114 ⟨by omega, by omega⟩ ?_
      refine a_last (N := 7) dX11_layNames_115 (L231 L) (by decide) (by decide) (by decide) (by decide) ⟨by omega, by omega⟩ ?_
      refine a_aloadn dX11_layNames_116 rfl ?_
      refine a_getR (j' := 45) (y := 231) dX11_layNames_117 flX11_78 rfl rfl (L209 L) (p209_45 hP) ?_
      refine a_iconst dX11_layNames_120 ?_
      refine a_aloadn dX11_layNames_121 rfl ?_
      refine a_iloadn dX11_layNames_122 rfl ?_
      refine a_iloadn dX11_layNames_123 rfl ?_
      refine a_callV (as := [_, _]) (q := 209) dX11_layNames_124 mvX11_358 ⟨by decide, by decide⟩ (L209 L) rfl rfl rfl (Nat.le_of_ble_eq_true rfl) ⟨rfl, rfl⟩ ⟨by decide, by decide⟩ (m_knowsMany hP (show TxI (sm (sm (sm (sm (sm M 231 0 (M 233 (6 * b + h))) 231 1 (M 234 (6 * b + h))) 231 2 (iabs (M 233 (6 * b + h) - M 233 (6 * b + o)))) 231 3 kd) 231 4 (M 236 (36 * b + 6 * h + o))) from Es.txi (M0 := M) (fun k i a1 a2 a3 => by rw [sm_n a1, sm_n a1, sm_n a1, sm_n a1, sm_n a1]) hi.1) hb ⟨h0, h1⟩) ?_
      have hkm : kmM (sm (sm (sm (sm (sm M 231 0 (M 233 (6 * b + h))) 231 1 (M 234 (6 * b + h))) 231 2 (iabs (M 233 (6 * b + h) - M 233 (6 * b + o)))) 231 3 kd) 231 4 (M 236 (36 * b + 6 * h + o))) b h = kmM M b h := Es.km (M0 := M) (fun k i a1 a2 a3 => by rw [sm_n a1, sm_n a1, sm_n a1, sm_n a1, sm_n a1]) b h
      rw [hkm]
      refine a_i2l dX11_layNames_127 ⟨by omega, by omega⟩ ?_
      refine a_last (N := 7) dX11_layNames_128 (L231 L) (by decide) (by decide) (by decide) (by decide) ⟨by omega, by omega⟩ ?_
      refine a_aloadn dX11_layNames_129 rfl ?_
      refine a_getR (j' := 45) (y := 231) dX11_layNames_130 flX11_78 rfl rfl (L209 L) (p209_45 hP) ?_
      refine a_bipush (w := 6) dX11_layNames_133 (by decide) ?_
      refine a_aloadn dX11_layNames_135 rfl ?_
      refine a_getR (j' := 53) (y := 238) dX11_layNames_136 flX11_100 rfl rfl (L209 L) (p209_53 hP) ?_
      refine a_iloadn dX11_layNames_139 rfl ?_
      refine b_iald (N := 2) dX11_layNames_140 (L238 L) (by decide) (by omega) (by omega) (fun hr140 => ?_)
      have e140 : (sm (sm (sm (sm (sm (sm M 231 0 (M 233 (6 * b + h))) 231 1 (M 234 (6 * b + h))) 231 2 (iabs (M 233 (6 * b + h) - M 233 (6 * b + o)))) 231 3 kd) 231 4 (M 236 (36 * b + 6 * h + o))) 231 5 (kmM M b h)) 238 b = M 238 b := by rw [sm_n (by decide), sm_n (by decide), sm_n (by decide), sm_n (by decide), sm_n (by decide), sm_n (by decide)]
      rw [e140] at hr140
      rw [e140]
      refine a_i2l dX11_layNames_141 ⟨by omega, by omega⟩ ?_
      refine a_last (N := 7) dX11_layNames_142 (L231 L) (by decide) (by decide) (by decide) (by decide) ⟨by omega, by omega⟩ ?_
      exact a_return dX11_layNames_143 rfl rfl rfl (zrel_V ⟨fun k i hk9 => by rw [sm_n hk9, sm_n hk9, sm_n hk9, sm_n hk9, sm_n hk9, sm_n hk9, sm_n hk9], fun i i0 i1 => by
      rcases (show i = 0 ∨ i = 1 ∨ i = 2 ∨ i = 3 ∨ i = 4 ∨ i = 5 ∨ i = 6 by omega) with rfl | rfl | rfl | rfl | rfl | rfl | rfl <;> simp [sm, ur, us, nmf]⟩)
    · exfalso; omega
  · exfalso; omega

set_option maxRecDepth 100000 in
set_option maxHeartbeats 4000000 in
theorem m_layNamesN {G : zG} {l : Launch} {L : Nat} {P : zP} {M : zM} {b h kd : Int} (hP : PFok P) (hb : b = 0 ∨ b = 1) (hi : RI M b) (h0 : 0 ≤ h) (h1 : h < 6) (hk : 0 ≤ kd ∧ kd ≤ 9) : AM G l yX11_layNames mdX11_layNames [aR 209, aI b, aI h, aI (-1), aI kd] (LAY L) P M (zrel none (LAY L) P (fun M' => (∀ (k : Nat) (i : Int), k ≠ 231 → M' k i = M k i) ∧ ∀ i : Int, 0 ≤ i → i < 7 → M' 231 i = nmf (M 233 (6 * b + h)) (M 234 (6 * b + h)) (0) kd (0) (kmM M b h) (M 238 b) i)) := by
  have q1 := hi.2.2.1.1 h h0 h1
  have q3 := hi.2.2.1.2.1 h h0 h1
  have q6 := kmM_in hi.1 b h
  have q7 := hi.2.2.1.2.2.2
  refine AM.go [some (aR 209), some (aI b), some (aI h), some (aI (-1)), some (aI kd)] rfl (Nat.le_of_ble_eq_true rfl) ?_ (by decide) rfl rfl
  refine a_aloadn dX11_layNames_0 rfl ?_
  refine a_getR (j' := 45) (y := 231) dX11_layNames_1 flX11_78 rfl rfl (L209 L) (p209_45 hP) ?_
  refine a_iconst dX11_layNames_4 ?_
  refine a_aloadn dX11_layNames_5 rfl ?_
  refine a_getR (j' := 48) (y := 233) dX11_layNames_6 flX11_85 rfl rfl (L209 L) (p209_48 hP) ?_
  refine a_bipush (w := 6) dX11_layNames_9 (by decide) ?_
  refine a_iloadn dX11_layNames_11 rfl ?_
  refine a_imul dX11_layNames_12 ?_
  refine a_iloadn dX11_layNames_13 rfl ?_
  refine a_iadd dX11_layNames_14 ?_
  refine b_iald (N := 12) dX11_layNames_15 (L233 L) (by decide) (by omega) (by omega) (fun hr15 => ?_)
  refine a_i2l dX11_layNames_16 ⟨by omega, by omega⟩ ?_
  refine a_last (N := 7) dX11_layNames_17 (L231 L) (by decide) (by decide) (by decide) (by decide) ⟨by omega, by omega⟩ ?_
  refine a_aloadn dX11_layNames_18 rfl ?_
  refine a_getR (j' := 45) (y := 231) dX11_layNames_19 flX11_78 rfl rfl (L209 L) (p209_45 hP) ?_
  refine a_iconst dX11_layNames_22 ?_
  refine a_aloadn dX11_layNames_23 rfl ?_
  refine a_getR (j' := 49) (y := 234) dX11_layNames_24 flX11_88 rfl rfl (L209 L) (p209_49 hP) ?_
  refine a_bipush (w := 6) dX11_layNames_27 (by decide) ?_
  refine a_iloadn dX11_layNames_29 rfl ?_
  refine a_imul dX11_layNames_30 ?_
  refine a_iloadn dX11_layNames_31 rfl ?_
  refine a_iadd dX11_layNames_32 ?_
  refine b_iald (N := 12) dX11_layNames_33 (L234 L) (by decide) (by omega) (by omega) (fun hr33 => ?_)
  have e33 : (sm M 231 0 (M 233 (6 * b + h))) 234 (6 * b + h) = M 234 (6 * b + h) := by rw [sm_n (by decide)]
  rw [e33] at hr33
  rw [e33]
  refine a_i2l dX11_layNames_34 ⟨by omega, by omega⟩ ?_
  refine a_last (N := 7) dX11_layNames_35 (L231 L) (by decide) (by decide) (by decide) (by decide) ⟨by omega, by omega⟩ ?_
  refine a_aloadn dX11_layNames_36 rfl ?_
  refine a_getR (j' := 45) (y := 231) dX11_layNames_37 flX11_78 rfl rfl (L209 L) (p209_45 hP) ?_
  refine a_iconst dX11_layNames_40 ?_
  refine a_iloadn dX11_layNames_41 rfl ?_
  refine a_if_ge (tgt := 49) dX11_layNames_42 (by decide) ⟨by omega, by omega⟩ (fun hb42 => ?_) (fun hb42 => ?_)
  · exfalso; omega
  · refine a_lconst (w := 0) dX11_layNames_45 (by decide) ?_
    refine a_goto (tgt := 75) dX11_layNames_46 (by decide) ?_
    refine a_last (N := 7) dX11_layNames_75 (L231 L) (by decide) (by decide) (by decide) (by decide) ⟨by omega, by omega⟩ ?_
    refine a_aloadn dX11_layNames_76 rfl ?_
    refine a_getR (j' := 45) (y := 231) dX11_layNames_77 flX11_78 rfl rfl (L209 L) (p209_45 hP) ?_
    refine a_iconst dX11_layNames_80 ?_
    refine a_iload dX11_layNames_81 rfl ?_
    refine a_i2l dX11_layNames_83 ⟨by omega, by omega⟩ ?_
    refine a_last (N := 7) dX11_layNames_84 (L231 L) (by decide) (by decide) (by decide) (by decide) ⟨by omega, by omega⟩ ?_
    refine a_aloadn dX11_layNames_85 rfl ?_
    refine a_getR (j' := 45) (y := 231) dX11_layNames_86 flX11_78 rfl rfl (L209 L) (p209_45 hP) ?_
    refine a_iconst dX11_layNames_89 ?_
    refine a_iloadn dX11_layNames_90 rfl ?_
    refine a_if_ge (tgt := 98) dX11_layNames_91 (by decide) ⟨by omega, by omega⟩ (fun hb91 => ?_) (fun hb91 => ?_)
    · exfalso; omega
    · refine a_lconst (w := 0) dX11_layNames_94 (by decide) ?_
      refine a_goto (tgt := 115) dX11_layNames_95 (by decide) ?_
      refine a_last (N := 7) dX11_layNames_115 (L231 L) (by decide) (by decide) (by decide) (by decide) ⟨by omega, by omega⟩ ?_
      refine a_aloadn dX11_layNames_116 rfl ?_
      refine a_getR (j' := 45) (y := 231) dX11_layNames_117 flX11_78 rfl rfl (L209 L) (p209_45 hP) ?_
      refine a_iconst dX11_layNames_120 ?_
      refine a_aloadn dX11_layNames_121 rfl ?_
      refine a_iloadn dX11_layNames_122 rfl ?_
      refine a_iloadn dX11_layNames_123 rfl ?_
      refine a_callV (as := [_, _]) (q := 209) dX11_layNames_124 mvX11_358 ⟨by decide, by decide⟩ (L209 L) rfl rfl rfl (Nat.le_of_ble_eq_true rfl) ⟨rfl, rfl⟩ ⟨by decide, by decide⟩ (m_knowsMany hP (show TxI (sm (sm (sm (sm (sm M 231 0 (M 233 (6 * b + h))) 231 1 (M 234 (6 * b + h))) 231 2 (0)) 231 3 kd) 231 4 (0)) from Es.txi (M0 := M) (fun k i a1 a2 a3 => by rw [sm_n a1, sm_n a1, sm_n a1, sm_n a1, sm_n a1]) hi.1) hb ⟨h0, h1⟩) ?_
      have hkm : kmM (sm (sm (sm (sm (sm M 231 0 (M 233 (6 * b + h))) 231 1 (M 234 (6 * b + h))) 231 2 (0)) 231 3 kd) 231 4 (0)) b h = kmM M b h := Es.km (M0 := M) (fun k i a1 a2 a3 => by rw [sm_n a1, sm_n a1, sm_n a1, sm_n a1, sm_n a1]) b h
      rw [hkm]
      refine a_i2l dX11_layNames_127 ⟨by omega, by omega⟩ ?_
      refine a_last (N := 7) dX11_layNames_128 (L231 L) (by decide) (by decide) (by decide) (by decide) ⟨by omega, by omega⟩ ?_
      refine a_aloadn dX11_layNames_129 rfl ?_
      refine a_getR (j' := 45) (y := 231) dX11_layNames_130 flX11_78 rfl rfl (L209 L) (p209_45 hP) ?_
      refine a_bipush (w := 6) dX11_layNames_133 (by decide) ?_
      refine a_aloadn dX11_layNames_135 rfl ?_
      refine a_getR (j' := 53) (y := 238) dX11_layNames_136 flX11_100 rfl rfl (L209 L) (p209_53 hP) ?_
      refine a_iloadn dX11_layNames_139 rfl ?_
      refine b_iald (N := 2) dX11_layNames_140 (L238 L) (by decide) (by omega) (by omega) (fun hr140 => ?_)
      have e140 : (sm (sm (sm (sm (sm (sm M 231 0 (M 233 (6 * b + h))) 231 1 (M 234 (6 * b + h))) 231 2 (0)) 231 3 kd) 231 4 (0)) 231 5 (kmM M b h)) 238 b = M 238 b := by rw [sm_n (by decide), sm_n (by decide), sm_n (by decide), sm_n (by decide), sm_n (by decide), sm_n (by decide)]
      rw [e140] at hr140
      rw [e140]
      refine a_i2l dX11_layNames_141 ⟨by omega, by omega⟩ ?_
      refine a_last (N := 7) dX11_layNames_142 (L231 L) (by decide) (by decide) (by decide) (by decide) ⟨by omega, by omega⟩ ?_
      exact a_return dX11_layNames_143 rfl rfl rfl (zrel_V ⟨fun k i hk9 => by rw [sm_n hk9, sm_n hk9, sm_n hk9, sm_n hk9, sm_n hk9, sm_n hk9, sm_n hk9], fun i i0 i1 => by
      rcases (show i = 0 ∨ i = 1 ∨ i = 2 ∨ i = 3 ∨ i = 4 ∨ i = 5 ∨ i = 6 by omega) with rfl | rfl | rfl | rfl | rfl | rfl | rfl <;> simp [sm, ur, us, nmf]⟩)

set_option maxRecDepth 100000 in
set_option maxHeartbeats 4000000 in
theorem m_X11_boundLaw {G : zG} {l : Launch} {L : Nat} {P : zP} {M : zM} {w wo lo hi : Int} (hP : PFok P) (hw : 0 ≤ w ∧ w < 3) (hL : LrI M w) (hN : NrI M) (hlo : inR lo) (hhi : inR hi) : AM G l yX11_boundLaw mdX11_boundLaw [aR 209, aI w, aI wo, aI lo, aI hi] (LAY L) P M (zany (LAY L) P (fun x M' => Er M M' ∧ x = lawE (rlf M w (M 231)) wo lo hi)) := by
  refine AM.go [some (aR 209), some (aI w), some (aI wo), some (aI lo), some (aI hi), none, none] rfl (Nat.le_of_ble_eq_true rfl) ?_ (by decide) rfl rfl
  refine a_aloadn dX11_boundLaw_0 rfl ?_
  refine a_getR (j' := 31) (y := 223) dX11_boundLaw_1 flX11_54 rfl rfl (L209 L) (p209_31 hP) ?_
  refine a_iloadn dX11_boundLaw_4 rfl ?_
  refine b_zald (N := 6) dX11_boundLaw_5 (L223 L) (by decide) (by omega) (by omega) (fun hr5 => ?_)
  refine a_if_ne (tgt := 11) dX11_boundLaw_6 (by decide) (by rcases hr5 with z | z <;> exact ⟨by omega, by omega⟩) (fun hb6 => ?_) (fun hb6 => ?_)
  · refine a_aloadn dX11_boundLaw_11 rfl ?_
    refine a_iloadn dX11_boundLaw_12 rfl ?_
    refine a_anyLV (as := [_]) (q := 209) dX11_boundLaw_13 mvX11_365 ⟨by decide, by decide⟩ (L209 L) rfl rfl rfl (Nat.le_of_ble_eq_true rfl) ⟨rfl, rfl⟩ ⟨by decide, by decide⟩ (m_X11_lawOf hP hw hL hb6 hN) (fun x9 M1 hM1 => ?_)
    have hrl : rlf M w (M 231) = rLaw (M 231) (M 226) (M 227) (M 228) (M 224 w) (M 225 w - M 224 w).toNat := by unfold rlf; rw [if_neg hb6]
    rw [← hrl] at hM1
    refine c_lstore (ls' := [_, _, _, _, _, _, _]) dX11_boundLaw_16 (by decide) rfl rfl ?_
    refine a_aloadn dX11_boundLaw_18 rfl ?_
    refine b_getZ (j' := 47) dX11_boundLaw_19 flX11_296 rfl rfl (L209 L) (fun hr19 => ?_)
    refine a_if_eq (tgt := 27) dX11_boundLaw_22 (by decide) (by rcases hr19 with z | z <;> exact ⟨by omega, by omega⟩) (fun hb22 => ?_) (fun hb22 => ?_)
    · have hv := (hM1.2.resolve_right (fun z => by omega)).2
      have hxm := hM1.1.2
      have hxl : inL x9 := ⟨by omega, by omega⟩
      refine a_lload dX11_boundLaw_27 rfl ?_
      refine a_iloadn dX11_boundLaw_29 rfl ?_
      refine a_i2l dX11_boundLaw_30 ⟨by omega, by omega⟩ ?_
      refine c_lcmp dX11_boundLaw_31 hxl ⟨by omega, by omega⟩ (fun r31 hq31 => ?_)
      refine a_if_ge (tgt := 39) dX11_boundLaw_32 (by decide) ⟨by omega, by omega⟩ (fun hb32 => ?_) (fun hb32 => ?_)
      · refine a_lload dX11_boundLaw_39 rfl ?_
        refine a_iload dX11_boundLaw_41 rfl ?_
        refine a_i2l dX11_boundLaw_43 ⟨by omega, by omega⟩ ?_
        refine c_lcmp dX11_boundLaw_44 hxl ⟨by omega, by omega⟩ (fun r44 hq44 => ?_)
        refine a_if_le (tgt := 53) dX11_boundLaw_45 (by decide) ⟨by omega, by omega⟩ (fun hb45 => ?_) (fun hb45 => ?_)
        · refine a_lload dX11_boundLaw_53 rfl ?_
          refine a_l2i dX11_boundLaw_55 ?_
          exact a_ireturn dX11_boundLaw_56 rfl rfl rfl (zany_i ⟨hM1.1.1, by rw [hv, lawE_s]; first | (rw [if_pos (by omega)]; done) | (rw [if_neg (by omega), if_pos (by omega)]; done) | (rw [if_neg (by omega), if_neg (by omega)]; done)⟩)
        · refine a_iload dX11_boundLaw_48 rfl ?_
          refine a_goto (tgt := 56) dX11_boundLaw_50 (by decide) ?_
          exact a_ireturn dX11_boundLaw_56 rfl rfl rfl (zany_i ⟨hM1.1.1, by rw [hv, lawE_s]; first | (rw [if_pos (by omega)]; done) | (rw [if_neg (by omega), if_pos (by omega)]; done) | (rw [if_neg (by omega), if_neg (by omega)]; done)⟩)
      · refine a_iloadn dX11_boundLaw_35 rfl ?_
        refine a_goto (tgt := 56) dX11_boundLaw_36 (by decide) ?_
        exact a_ireturn dX11_boundLaw_56 rfl rfl rfl (zany_i ⟨hM1.1.1, by rw [hv, lawE_s]; first | (rw [if_pos (by omega)]; done) | (rw [if_neg (by omega), if_pos (by omega)]; done) | (rw [if_neg (by omega), if_neg (by omega)]; done)⟩)
    · refine a_iloadn dX11_boundLaw_25 rfl ?_
      exact a_ireturn dX11_boundLaw_26 rfl rfl rfl (zany_i ⟨hM1.1.1, by rw [(hM1.2.resolve_left (fun z => by omega)).2.1]; rfl⟩)
  · refine a_iloadn dX11_boundLaw_9 rfl ?_
    exact a_ireturn dX11_boundLaw_10 rfl rfl rfl (zany_i ⟨Er.rf M, by unfold rlf; rw [if_pos hb6]; rfl⟩)
