/-- house's own room: a throw makes one cell -/
abbrev mdX10h : zMd := (RX10, "house", cX10_house, 3, some .int, { frames := 14, cells := 1, slots := 6, locals := 1200 })
set_option maxRecDepth 100000 in
set_option maxHeartbeats 4000000 in
theorem hsX10_good {G : zG} {l : Launch} {L : Nat} {P : zP} {M : zM} {t : Nat} {h w : Int} (hv : CV L P M t) (hh : 0 ≤ h ∧ h < M t 2) (hw : 0 ≤ w ∧ w ≤ 6) : AW G l mdX10h (zany (LAY L) P (fun r M' => Cn t M M' ∧ r = hsC9 M t w h)) 18 [some (aR 2), some (aI h), some (aI w)] [] (LAY L) P M 0 0 := by
  have hP := hv.1.1
  have h6 : h < 6 := by have := hv.2.1.1.1.2; omega
  have c0 : Cn t M M := ⟨Cq.rf M, hv.2.2.2.1⟩
  have ce : ∀ M', Ec M M' → Cn t M M' := fun M' e => ⟨e.cq, by rw [e 50 1 (by decide) (by decide) (by omega)]; exact hv.2.2.2.1⟩
  refine a_iloadn dX10_house_18 rfl ?_
  have hc : w = 0 ∨ w = 1 ∨ w = 2 ∨ w = 3 ∨ w = 4 ∨ w = 5 ∨ w = 6 := by omega
  rcases hc with e | e | e | e | e | e | e <;> subst e
  · refine a_tabIn (tgt := 60) dX10_house_19 (by decide) (by decide) (by decide) rfl (by decide) ?_
    refine a_aloadn dX10_house_60 rfl ?_
    refine a_getR (j' := 7) (y := 61) dX10_house_61 flX10_51 rfl rfl (L2 L) (p2_7 hP) ?_
    refine a_getR (j' := 0) (y := 62) dX10_house_64 flX10_132 rfl rfl (L61 L) (p61_0 hP) ?_
    refine a_iloadn dX10_house_67 rfl ?_
    refine b_iald dX10_house_68 (L62 L) (by decide) (by omega) (by omega) (fun _ => ?_)
    exact a_widen (by decide) (by decide) (a_ireturn dX10_house_69 rfl rfl rfl (zany_i ⟨c0, rfl⟩))
  · refine a_tabIn (tgt := 70) dX10_house_19 (by decide) (by decide) (by decide) rfl (by decide) ?_
    refine a_aloadn dX10_house_70 rfl ?_
    refine a_getR (j' := 7) (y := 61) dX10_house_71 flX10_51 rfl rfl (L2 L) (p2_7 hP) ?_
    refine a_getR (j' := 1) (y := 63) dX10_house_74 flX10_135 rfl rfl (L61 L) (p61_1 hP) ?_
    refine a_iloadn dX10_house_77 rfl ?_
    refine b_iald dX10_house_78 (L63 L) (by decide) (by omega) (by omega) (fun _ => ?_)
    exact a_widen (by decide) (by decide) (a_ireturn dX10_house_79 rfl rfl rfl (zany_i ⟨c0, rfl⟩))
  · refine a_tabIn (tgt := 80) dX10_house_19 (by decide) (by decide) (by decide) rfl (by decide) ?_
    refine a_aloadn dX10_house_80 rfl ?_
    refine a_getR (j' := 5) (y := 50) dX10_house_81 flX10_35 rfl rfl (L2 L) (p2_5 hP) ?_
    refine a_aloadn dX10_house_84 rfl ?_
    refine a_getR (j' := 7) (y := 61) dX10_house_85 flX10_51 rfl rfl (L2 L) (p2_7 hP) ?_
    refine a_iloadn dX10_house_88 rfl ?_
    refine a_anyV (as := [_, _]) (q := 50) dX10_house_89 mvX10_138 ⟨by decide, by decide⟩ (L50 L) rfl rfl rfl (Nat.le_of_ble_eq_true rfl) ⟨rfl, rfl⟩ ⟨by decide, by decide⟩ (m_X0_heardBy hv.1 hv.2.1 hh.1 h6) (fun r M1 hM1 => ?_)
    exact a_widen (by decide) (by decide) (a_ireturn dX10_house_92 rfl rfl rfl (zany_i ⟨ce M1 hM1.1, hM1.2⟩))
  · refine a_tabIn (tgt := 93) dX10_house_19 (by decide) (by decide) (by decide) rfl (by decide) ?_
    refine a_aloadn dX10_house_93 rfl ?_
    refine a_getR (j' := 5) (y := 50) dX10_house_94 flX10_35 rfl rfl (L2 L) (p2_5 hP) ?_
    refine a_aloadn dX10_house_97 rfl ?_
    refine a_getR (j' := 7) (y := 61) dX10_house_98 flX10_51 rfl rfl (L2 L) (p2_7 hP) ?_
    refine a_iloadn dX10_house_101 rfl ?_
    refine a_anyV (as := [_, _]) (q := 50) dX10_house_102 mvX10_142 ⟨by decide, by decide⟩ (L50 L) rfl rfl rfl (Nat.le_of_ble_eq_true rfl) ⟨rfl, rfl⟩ ⟨by decide, by decide⟩ (m_X0_hearersOf hv.1 hv.2.1 hh.1 h6) (fun r M1 hM1 => ?_)
    exact a_widen (by decide) (by decide) (a_ireturn dX10_house_105 rfl rfl rfl (zany_i ⟨ce M1 hM1.1, hM1.2⟩))
  · refine a_tabIn (tgt := 106) dX10_house_19 (by decide) (by decide) (by decide) rfl (by decide) ?_
    refine a_aloadn dX10_house_106 rfl ?_
    refine a_getR (j' := 7) (y := 61) dX10_house_107 flX10_51 rfl rfl (L2 L) (p2_7 hP) ?_
    refine a_getR (j' := 2) (y := 64) dX10_house_110 flX10_145 rfl rfl (L61 L) (p61_2 hP) ?_
    refine a_iloadn dX10_house_113 rfl ?_
    refine b_iald dX10_house_114 (L64 L) (by decide) (by omega) (by omega) (fun _ => ?_)
    exact a_widen (by decide) (by decide) (a_ireturn dX10_house_115 rfl rfl rfl (zany_i ⟨c0, rfl⟩))
  · refine a_tabIn (tgt := 116) dX10_house_19 (by decide) (by decide) (by decide) rfl (by decide) ?_
    refine a_aloadn dX10_house_116 rfl ?_
    refine a_getR (j' := 7) (y := 61) dX10_house_117 flX10_51 rfl rfl (L2 L) (p2_7 hP) ?_
    refine a_iloadn dX10_house_120 rfl ?_
    refine a_callV (as := [_]) (q := 61) dX10_house_121 mvX10_148 ⟨by decide, by decide⟩ (L61 L) rfl rfl rfl (Nat.le_of_ble_eq_true rfl) ⟨rfl, rfl⟩ ⟨by decide, by decide⟩ (m_X5_knowersOf (st_now L hP)) ?_
    exact a_widen (by decide) (by decide) (a_ireturn dX10_house_124 rfl rfl rfl (zany_i ⟨c0, rfl⟩))
  · refine a_tabIn (tgt := 125) dX10_house_19 (by decide) (by decide) (by decide) rfl (by decide) ?_
    refine a_aloadn dX10_house_125 rfl ?_
    refine a_getR (j' := 7) (y := 61) dX10_house_126 flX10_51 rfl rfl (L2 L) (p2_7 hP) ?_
    refine a_getR (j' := 3) (y := 65) dX10_house_129 flX10_151 rfl rfl (L61 L) (p61_3 hP) ?_
    refine a_iloadn dX10_house_132 rfl ?_
    refine b_iald dX10_house_133 (L65 L) (by decide) (by omega) (by omega) (fun _ => ?_)
    exact a_widen (by decide) (by decide) (a_ireturn dX10_house_134 rfl rfl rfl (zany_i ⟨c0, rfl⟩))
