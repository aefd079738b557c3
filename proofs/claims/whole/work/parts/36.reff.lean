set_option maxRecDepth 100000 in
set_option maxHeartbeats 4000000 in
theorem hgA0 {G : zG} {l : Launch} {L : Nat} {P : zP} {M Ma : zM} {b : Int} {Z : zZ} (hP : PFok P) (hb : b = 0 ∨ b = 1) (hE : Es Ma M) (hf : Ma 209 58 ≠ 0) (hi : TxI Ma) (kk : AW G l mdX11_hourGoes Z 60 [some (aR 209), some (aI b), none, none] [] (LAY L) P M 0 0) : AW G l mdX11_hourGoes Z 2 [some (aR 209), some (aI b), some (aI 0), none] [] (LAY L) P M 0 0 := by
  refine a_iloadn dX11_hourGoes_2 rfl ?_
  refine a_aloadn dX11_hourGoes_3 rfl ?_
  refine b_getI (j' := 13) dX11_hourGoes_4 flX11_204 rfl rfl (L209 L) (fun hr4 => ?_)
  have q1 := hi.2.1
  have e4 : M 209 13 = Ma 209 13 := hE _ _ (by decide) (by decide) (by omega)
  rw [e4] at hr4
  rw [e4]
  refine a_icmp_ge (tgt := 60) dX11_hourGoes_7 (by decide) ⟨by omega, by omega⟩ ⟨by omega, by omega⟩ (fun hb7 => ?_) (fun hb7 => ?_)
  · refine a_forget [2] (ls' := [_, _, none, none]) rfl kk
  · refine a_aloadn dX11_hourGoes_10 rfl ?_
    refine b_getZ (j' := 58) dX11_hourGoes_11 flX11_343 rfl rfl (L209 L) (fun hr11 => ?_)
    have e11 : M 209 58 = Ma 209 58 := hE _ _ (by decide) (by decide) (by omega)
    rw [e11] at hr11
    rw [e11]
    refine a_if_ne (tgt := 60) dX11_hourGoes_14 (by decide) (by rcases hr11 with z | z <;> exact ⟨by omega, by omega⟩) (fun hb14 => ?_) (fun hb14 => ?_)
    · refine a_forget [2] (ls' := [_, _, none, none]) rfl kk
    · exfalso; omega

set_option maxRecDepth 100000 in
set_option maxHeartbeats 4000000 in
theorem hgA {G : zG} {l : Launch} {L : Nat} {P : zP} {b : Int} {Z : zZ} (hP : PFok P) (hb : b = 0 ∨ b = 1) : ∀ (n : Nat) (i : Int) (M Ma : zM) (g0 : 0 ≤ i) (g1 : i + n = Ma 209 13) (hE : Es Ma M) (hI : RI Ma b) (hf : Ma 209 58 = 0) (kk : ∀ M' : zM, Es (tdR b n i Ma) M' → AW G l mdX11_hourGoes Z 60 [some (aR 209), some (aI b), none, none] [] (LAY L) P M' 0 0), AW G l mdX11_hourGoes Z 2 [some (aR 209), some (aI b), some (aI i), none] [] (LAY L) P M 0 0 := by
  intro n
  induction n with
  | zero =>
    intro i M Ma g0 g1 hE hI hf kk
    have q1 := hI.1.2.1
    refine a_iloadn dX11_hourGoes_2 rfl ?_
    refine a_aloadn dX11_hourGoes_3 rfl ?_
    refine b_getI (j' := 13) dX11_hourGoes_4 flX11_204 rfl rfl (L209 L) (fun hr4 => ?_)
    have e4 : M 209 13 = Ma 209 13 := hE _ _ (by decide) (by decide) (by omega)
    rw [e4] at hr4
    rw [e4]
    refine a_icmp_ge (tgt := 60) dX11_hourGoes_7 (by decide) ⟨by omega, by omega⟩ ⟨by omega, by omega⟩ (fun hb7 => ?_) (fun hb7 => ?_)
    · refine a_forget [2] (ls' := [_, _, none, none]) rfl (kk _ hE)
    · exfalso; omega
  | succ n ih =>
    intro i M Ma g0 g1 hE hI hf kk
    have q1 := hI.1.2.1
    refine a_iloadn dX11_hourGoes_2 rfl ?_
    refine a_aloadn dX11_hourGoes_3 rfl ?_
    refine b_getI (j' := 13) dX11_hourGoes_4 flX11_204 rfl rfl (L209 L) (fun hr4 => ?_)
    have e4 : M 209 13 = Ma 209 13 := hE _ _ (by decide) (by decide) (by omega)
    rw [e4] at hr4
    rw [e4]
    refine a_icmp_ge (tgt := 60) dX11_hourGoes_7 (by decide) ⟨by omega, by omega⟩ ⟨by omega, by omega⟩ (fun hb7 => ?_) (fun hb7 => ?_)
    · exfalso; omega
    · refine a_aloadn dX11_hourGoes_10 rfl ?_
      refine b_getZ (j' := 58) dX11_hourGoes_11 flX11_343 rfl rfl (L209 L) (fun hr11 => ?_)
      have e11 : M 209 58 = Ma 209 58 := hE _ _ (by decide) (by decide) (by omega)
      rw [e11] at hr11
      rw [e11]
      refine a_if_ne (tgt := 60) dX11_hourGoes_14 (by decide) (by rcases hr11 with z | z <;> exact ⟨by omega, by omega⟩) (fun hb14 => ?_) (fun hb14 => ?_)
      · exfalso; omega
      · refine a_aloadn dX11_hourGoes_17 rfl ?_
        refine a_getR (j' := 26) (y := 218) dX11_hourGoes_18 flX11_39 rfl rfl (L209 L) (p209_26 hP) ?_
        refine a_iloadn dX11_hourGoes_21 rfl ?_
        refine b_iald (N := 20) dX11_hourGoes_22 (L218 L) (by decide) (by omega) (by omega) (fun hr22 => ?_)
        have q2 := hI.1.2.2.2.2.2.1 i (by omega) (by omega)
        have e22 : M 218 i = Ma 218 i := hE _ _ (by decide) (by decide) (by omega)
        rw [e22] at hr22
        rw [e22]
        refine a_aloadn dX11_hourGoes_23 rfl ?_
        refine a_getR (j' := 53) (y := 238) dX11_hourGoes_24 flX11_100 rfl rfl (L209 L) (p209_53 hP) ?_
        refine a_iloadn dX11_hourGoes_27 rfl ?_
        refine b_iald (N := 2) dX11_hourGoes_28 (L238 L) (by decide) (by omega) (by omega) (fun hr28 => ?_)
        have e28 : M 238 b = Ma 238 b := hE _ _ (by decide) (by decide) (by omega)
        rw [e28] at hr28
        rw [e28]
        refine a_icmp_ne (tgt := 54) dX11_hourGoes_29 (by decide) ⟨by omega, by omega⟩ ⟨by omega, by omega⟩ (fun hb29 => ?_) (fun hb29 => ?_)
        · refine c_iinc (ls' := [_, _, _, _]) dX11_hourGoes_54 rfl (by decide) rfl rfl ?_
          refine a_goto (tgt := 2) dX11_hourGoes_57 (by decide) ?_
          simp only [tdR] at kk
          first
          | (rw [if_neg hb29] at kk; exact ih _ _ _ (by omega) (by omega) hE hI hf kk)
          | (rw [if_pos hb29] at kk; exact ih _ _ (sm Ma 233 (6 * b + Ma 217 i) (Ma 219 i)) (by omega) (by rw [sm_n (by decide)]; omega) (hE.sm2 _ _ _) (((Fb.rf b Ma).sm _ (by omega)).ri hI (hI.2.2.1.d q2.2.2)) (by rw [sm_n (by decide)]; exact hf) kk)
        · refine a_aloadn dX11_hourGoes_32 rfl ?_
          refine a_getR (j' := 48) (y := 233) dX11_hourGoes_33 flX11_85 rfl rfl (L209 L) (p209_48 hP) ?_
          refine a_bipush (w := 6) dX11_hourGoes_36 (by decide) ?_
          refine a_iloadn dX11_hourGoes_38 rfl ?_
          refine a_imul dX11_hourGoes_39 ?_
          refine a_aloadn dX11_hourGoes_40 rfl ?_
          refine a_getR (j' := 25) (y := 217) dX11_hourGoes_41 flX11_36 rfl rfl (L209 L) (p209_25 hP) ?_
          refine a_iloadn dX11_hourGoes_44 rfl ?_
          refine b_iald (N := 20) dX11_hourGoes_45 (L217 L) (by decide) (by omega) (by omega) (fun hr45 => ?_)
          have e45 : M 217 i = Ma 217 i := hE _ _ (by decide) (by decide) (by omega)
          rw [e45] at hr45
          rw [e45]
          refine a_iadd dX11_hourGoes_46 ?_
          refine a_aloadn dX11_hourGoes_47 rfl ?_
          refine a_getR (j' := 27) (y := 219) dX11_hourGoes_48 flX11_42 rfl rfl (L209 L) (p209_27 hP) ?_
          refine a_iloadn dX11_hourGoes_51 rfl ?_
          refine b_iald (N := 20) dX11_hourGoes_52 (L219 L) (by decide) (by omega) (by omega) (fun hr52 => ?_)
          have e52 : M 219 i = Ma 219 i := hE _ _ (by decide) (by decide) (by omega)
          rw [e52] at hr52
          rw [e52]
          refine a_iast (N := 12) dX11_hourGoes_53 (L233 L) (by decide) (by decide) (by omega) (by omega) ⟨by omega, by omega⟩ ?_
          refine c_iinc (ls' := [_, _, _, _]) dX11_hourGoes_54 rfl (by decide) rfl rfl ?_
          refine a_goto (tgt := 2) dX11_hourGoes_57 (by decide) ?_
          simp only [tdR] at kk
          first
          | (rw [if_neg hb29] at kk; exact ih _ _ _ (by omega) (by omega) hE hI hf kk)
          | (rw [if_pos hb29] at kk; exact ih _ _ (sm Ma 233 (6 * b + Ma 217 i) (Ma 219 i)) (by omega) (by rw [sm_n (by decide)]; omega) (hE.sm2 _ _ _) (((Fb.rf b Ma).sm _ (by omega)).ri hI (hI.2.2.1.d q2.2.2)) (by rw [sm_n (by decide)]; exact hf) kk)

set_option maxRecDepth 100000 in
set_option maxHeartbeats 4000000 in
theorem hgB {G : zG} {l : Launch} {L : Nat} {P : zP} {b : Int} {Z : zZ} (hP : PFok P) (hb : b = 0 ∨ b = 1) : ∀ (n : Nat) (i : Int) (M Ma : zM) (g0 : 0 ≤ i) (g1 : i + n = Ma 209 14) (hE : Es Ma M) (hI : RI Ma b) (kk : ∀ M' : zM, Es (srR b n i Ma) M' → AW G l mdX11_hourGoes Z 122 [some (aR 209), some (aI b), none, none] [] (LAY L) P M' 0 0), AW G l mdX11_hourGoes Z 62 [some (aR 209), some (aI b), some (aI i), none] [] (LAY L) P M 0 0 := by
  intro n
  induction n with
  | zero =>
    intro i M Ma g0 g1 hE hI kk
    have q1 := hI.1.2.2.1
    have q3 := hI.1.1
    refine a_iloadn dX11_hourGoes_62 rfl ?_
    refine a_aloadn dX11_hourGoes_63 rfl ?_
    refine b_getI (j' := 14) dX11_hourGoes_64 flX11_207 rfl rfl (L209 L) (fun hr64 => ?_)
    have e64 : M 209 14 = Ma 209 14 := hE _ _ (by decide) (by decide) (by omega)
    rw [e64] at hr64
    rw [e64]
    refine a_icmp_ge (tgt := 122) dX11_hourGoes_67 (by decide) ⟨by omega, by omega⟩ ⟨by omega, by omega⟩ (fun hb67 => ?_) (fun hb67 => ?_)
    · refine a_forget [2] (ls' := [_, _, none, none]) rfl (kk _ hE)
    · exfalso; omega
  | succ n ih =>
    intro i M Ma g0 g1 hE hI kk
    have q1 := hI.1.2.2.1
    have q3 := hI.1.1
    refine a_iloadn dX11_hourGoes_62 rfl ?_
    refine a_aloadn dX11_hourGoes_63 rfl ?_
    refine b_getI (j' := 14) dX11_hourGoes_64 flX11_207 rfl rfl (L209 L) (fun hr64 => ?_)
    have e64 : M 209 14 = Ma 209 14 := hE _ _ (by decide) (by decide) (by omega)
    rw [e64] at hr64
    rw [e64]
    refine a_icmp_ge (tgt := 122) dX11_hourGoes_67 (by decide) ⟨by omega, by omega⟩ ⟨by omega, by omega⟩ (fun hb67 => ?_) (fun hb67 => ?_)
    · exfalso; omega
    · refine a_aloadn dX11_hourGoes_70 rfl ?_
      refine a_getR (j' := 29) (y := 221) dX11_hourGoes_71 flX11_48 rfl rfl (L209 L) (p209_29 hP) ?_
      refine a_iloadn dX11_hourGoes_74 rfl ?_
      refine b_iald (N := 24) dX11_hourGoes_75 (L221 L) (by decide) (by omega) (by omega) (fun hr75 => ?_)
      have q2 := hI.1.2.2.2.2.2.2.1 i (by omega) (by omega)
      have e75 : M 221 i = Ma 221 i := hE _ _ (by decide) (by decide) (by omega)
      rw [e75] at hr75
      rw [e75]
      refine a_aloadn dX11_hourGoes_76 rfl ?_
      refine a_getR (j' := 53) (y := 238) dX11_hourGoes_77 flX11_100 rfl rfl (L209 L) (p209_53 hP) ?_
      refine a_iloadn dX11_hourGoes_80 rfl ?_
      refine b_iald (N := 2) dX11_hourGoes_81 (L238 L) (by decide) (by omega) (by omega) (fun hr81 => ?_)
      have e81 : M 238 b = Ma 238 b := hE _ _ (by decide) (by decide) (by omega)
      rw [e81] at hr81
      rw [e81]
      refine a_icmp_ne (tgt := 116) dX11_hourGoes_82 (by decide) ⟨by omega, by omega⟩ ⟨by omega, by omega⟩ (fun hb82 => ?_) (fun hb82 => ?_)
      · refine c_iinc (ls' := [_, _, _, _]) dX11_hourGoes_116 rfl (by decide) rfl rfl ?_
        refine a_goto (tgt := 62) dX11_hourGoes_119 (by decide) ?_
        simp only [srR] at kk
        first
        | (rw [if_neg (fun z => hb82 z.1)] at kk; exact ih _ _ _ (by omega) (by omega) hE hI kk)
        | (rw [if_neg (fun z => z.2 hb95)] at kk; exact ih _ _ _ (by omega) (by omega) hE hI kk)
        | (rw [if_pos ⟨hb82, hb95⟩] at kk
           have f := sdR_Fb (b := b) (y := Ma 220 i) (Ma 222 i) ⟨by omega, by omega⟩ (Ma 209 12).toNat 0 Ma 0 (by omega) (by omega)
           have s := sdR_I (b := b) (y := Ma 220 i) (Ma 222 i) ⟨by omega, by omega⟩ (Ma 209 12).toNat 0 Ma 0 hI.2.2.1 (by omega) (by omega)
           exact ih _ _ _ (by omega) (by rw [(sdR_c b _ _ _ _ Ma 0).2]; omega) hM1.1 (f.ri hI s) kk)
      · refine a_aloadn dX11_hourGoes_85 rfl ?_
        refine a_getR (j' := 28) (y := 220) dX11_hourGoes_86 flX11_45 rfl rfl (L209 L) (p209_28 hP) ?_
        refine a_iloadn dX11_hourGoes_89 rfl ?_
        refine b_iald (N := 24) dX11_hourGoes_90 (L220 L) (by decide) (by omega) (by omega) (fun hr90 => ?_)
        have e90 : M 220 i = Ma 220 i := hE _ _ (by decide) (by decide) (by omega)
        rw [e90] at hr90
        rw [e90]
        refine a_aloadn dX11_hourGoes_91 rfl ?_
        refine b_getI (j' := 59) dX11_hourGoes_92 flX11_346 rfl rfl (L209 L) (fun hr92 => ?_)
        have e92 : M 209 59 = Ma 209 59 := hE _ _ (by decide) (by decide) (by omega)
        rw [e92] at hr92
        rw [e92]
        refine a_icmp_eq (tgt := 116) dX11_hourGoes_95 (by decide) ⟨by omega, by omega⟩ ⟨by omega, by omega⟩ (fun hb95 => ?_) (fun hb95 => ?_)
        · refine c_iinc (ls' := [_, _, _, _]) dX11_hourGoes_116 rfl (by decide) rfl rfl ?_
          refine a_goto (tgt := 62) dX11_hourGoes_119 (by decide) ?_
          simp only [srR] at kk
          first
          | (rw [if_neg (fun z => hb82 z.1)] at kk; exact ih _ _ _ (by omega) (by omega) hE hI kk)
          | (rw [if_neg (fun z => z.2 hb95)] at kk; exact ih _ _ _ (by omega) (by omega) hE hI kk)
          | (rw [if_pos ⟨hb82, hb95⟩] at kk
             have f := sdR_Fb (b := b) (y := Ma 220 i) (Ma 222 i) ⟨by omega, by omega⟩ (Ma 209 12).toNat 0 Ma 0 (by omega) (by omega)
             have s := sdR_I (b := b) (y := Ma 220 i) (Ma 222 i) ⟨by omega, by omega⟩ (Ma 209 12).toNat 0 Ma 0 hI.2.2.1 (by omega) (by omega)
             exact ih _ _ _ (by omega) (by rw [(sdR_c b _ _ _ _ Ma 0).2]; omega) hM1.1 (f.ri hI s) kk)
        · refine a_aloadn dX11_hourGoes_98 rfl ?_
          refine a_iloadn dX11_hourGoes_99 rfl ?_
          refine a_aloadn dX11_hourGoes_100 rfl ?_
          refine a_getR (j' := 28) (y := 220) dX11_hourGoes_101 flX11_45 rfl rfl (L209 L) (p209_28 hP) ?_
          refine a_iloadn dX11_hourGoes_104 rfl ?_
          refine b_iald (N := 24) dX11_hourGoes_105 (L220 L) (by decide) (by omega) (by omega) (fun hr105 => ?_)
          have e105 : M 220 i = Ma 220 i := hE _ _ (by decide) (by decide) (by omega)
          rw [e105] at hr105
          rw [e105]
          refine a_aloadn dX11_hourGoes_106 rfl ?_
          refine a_getR (j' := 30) (y := 222) dX11_hourGoes_107 flX11_51 rfl rfl (L209 L) (p209_30 hP) ?_
          refine a_iloadn dX11_hourGoes_110 rfl ?_
          refine b_iald (N := 24) dX11_hourGoes_111 (L222 L) (by decide) (by omega) (by omega) (fun hr111 => ?_)
          have e111 : M 222 i = Ma 222 i := hE _ _ (by decide) (by decide) (by omega)
          rw [e111] at hr111
          rw [e111]
          refine a_anyV (as := [_, _, _]) (q := 209) dX11_hourGoes_112 mvX11_390 ⟨by decide, by decide⟩ (L209 L) rfl rfl rfl (Nat.le_of_ble_eq_true rfl) ⟨rfl, rfl⟩ ⟨by decide, by decide⟩ (m_X11_makes hP hb hE hI (by omega) (by omega) ⟨by omega, by omega⟩) (fun x9 M1 hM1 => ?_)
          refine a_popI dX11_hourGoes_115 ?_
          refine c_iinc (ls' := [_, _, _, _]) dX11_hourGoes_116 rfl (by decide) rfl rfl ?_
          refine a_goto (tgt := 62) dX11_hourGoes_119 (by decide) ?_
          simp only [srR] at kk
          first
          | (rw [if_neg (fun z => hb82 z.1)] at kk; exact ih _ _ _ (by omega) (by omega) hE hI kk)
          | (rw [if_neg (fun z => z.2 hb95)] at kk; exact ih _ _ _ (by omega) (by omega) hE hI kk)
          | (rw [if_pos ⟨hb82, hb95⟩] at kk
             have f := sdR_Fb (b := b) (y := Ma 220 i) (Ma 222 i) ⟨by omega, by omega⟩ (Ma 209 12).toNat 0 Ma 0 (by omega) (by omega)
             have s := sdR_I (b := b) (y := Ma 220 i) (Ma 222 i) ⟨by omega, by omega⟩ (Ma 209 12).toNat 0 Ma 0 hI.2.2.1 (by omega) (by omega)
             exact ih _ _ _ (by omega) (by rw [(sdR_c b _ _ _ _ Ma 0).2]; omega) hM1.1 (f.ri hI s) kk)

set_option maxRecDepth 100000 in
set_option maxHeartbeats 4000000 in
theorem hgC0 {G : zG} {l : Launch} {L : Nat} {P : zP} {M Ma : zM} {b : Int} {Z : zZ} (hP : PFok P) (hb : b = 0 ∨ b = 1) (hE : Es Ma M) (hf : Ma 209 57 ≠ 0) (hi : TxI Ma) (kk : AW G l mdX11_hourGoes Z 207 [some (aR 209), some (aI b), none, none] [] (LAY L) P M 0 0) : AW G l mdX11_hourGoes Z 124 [some (aR 209), some (aI b), some (aI 0), none] [] (LAY L) P M 0 0 := by
  refine a_iloadn dX11_hourGoes_124 rfl ?_
  refine a_aloadn dX11_hourGoes_125 rfl ?_
  refine b_getI (j' := 12) dX11_hourGoes_126 flX11_201 rfl rfl (L209 L) (fun hr126 => ?_)
  have q1 := hi.1
  have e126 : M 209 12 = Ma 209 12 := hE _ _ (by decide) (by decide) (by omega)
  rw [e126] at hr126
  rw [e126]
  refine a_icmp_ge (tgt := 207) dX11_hourGoes_129 (by decide) ⟨by omega, by omega⟩ ⟨by omega, by omega⟩ (fun hb129 => ?_) (fun hb129 => ?_)
  · refine a_forget [2] (ls' := [_, _, none, none]) rfl kk
  · refine a_aloadn dX11_hourGoes_132 rfl ?_
    refine b_getZ (j' := 57) dX11_hourGoes_133 flX11_340 rfl rfl (L209 L) (fun hr133 => ?_)
    have e133 : M 209 57 = Ma 209 57 := hE _ _ (by decide) (by decide) (by omega)
    rw [e133] at hr133
    rw [e133]
    refine a_if_ne (tgt := 207) dX11_hourGoes_136 (by decide) (by rcases hr133 with z | z <;> exact ⟨by omega, by omega⟩) (fun hb136 => ?_) (fun hb136 => ?_)
    · refine a_forget [2] (ls' := [_, _, none, none]) rfl kk
    · exfalso; omega

set_option maxRecDepth 100000 in
set_option maxHeartbeats 4000000 in
theorem hgC {G : zG} {l : Launch} {L : Nat} {P : zP} {b : Int} {Z : zZ} (hP : PFok P) (hb : b = 0 ∨ b = 1) : ∀ (n : Nat) (i : Int) (M Ma : zM) (g0 : 0 ≤ i) (g1 : i + n = Ma 209 12) (hE : Es Ma M) (hI : RI Ma b) (hf : Ma 209 57 = 0) (kk : ∀ M' : zM, Es (drR b n i Ma) M' → AW G l mdX11_hourGoes Z 207 [some (aR 209), some (aI b), none, none] [] (LAY L) P M' 0 0), AW G l mdX11_hourGoes Z 124 [some (aR 209), some (aI b), some (aI i), none] [] (LAY L) P M 0 0 := by
  intro n
  induction n with
  | zero =>
    intro i M Ma g0 g1 hE hI hf kk
    have q1 := hI.1.1
    refine a_iloadn dX11_hourGoes_124 rfl ?_
    refine a_aloadn dX11_hourGoes_125 rfl ?_
    refine b_getI (j' := 12) dX11_hourGoes_126 flX11_201 rfl rfl (L209 L) (fun hr126 => ?_)
    have e126 : M 209 12 = Ma 209 12 := hE _ _ (by decide) (by decide) (by omega)
    rw [e126] at hr126
    rw [e126]
    refine a_icmp_ge (tgt := 207) dX11_hourGoes_129 (by decide) ⟨by omega, by omega⟩ ⟨by omega, by omega⟩ (fun hb129 => ?_) (fun hb129 => ?_)
    · refine a_forget [2] (ls' := [_, _, none, none]) rfl (kk _ hE)
    · exfalso; omega
  | succ n ih =>
    intro i M Ma g0 g1 hE hI hf kk
    have q1 := hI.1.1
    refine a_iloadn dX11_hourGoes_124 rfl ?_
    refine a_aloadn dX11_hourGoes_125 rfl ?_
    refine b_getI (j' := 12) dX11_hourGoes_126 flX11_201 rfl rfl (L209 L) (fun hr126 => ?_)
    have e126 : M 209 12 = Ma 209 12 := hE _ _ (by decide) (by decide) (by omega)
    rw [e126] at hr126
    rw [e126]
    refine a_icmp_ge (tgt := 207) dX11_hourGoes_129 (by decide) ⟨by omega, by omega⟩ ⟨by omega, by omega⟩ (fun hb129 => ?_) (fun hb129 => ?_)
    · exfalso; omega
    · refine a_aloadn dX11_hourGoes_132 rfl ?_
      refine b_getZ (j' := 57) dX11_hourGoes_133 flX11_340 rfl rfl (L209 L) (fun hr133 => ?_)
      have e133 : M 209 57 = Ma 209 57 := hE _ _ (by decide) (by decide) (by omega)
      rw [e133] at hr133
      rw [e133]
      refine a_if_ne (tgt := 207) dX11_hourGoes_136 (by decide) (by rcases hr133 with z | z <;> exact ⟨by omega, by omega⟩) (fun hb136 => ?_) (fun hb136 => ?_)
      · exfalso; omega
      · refine a_aloadn dX11_hourGoes_139 rfl ?_
        refine a_iloadn dX11_hourGoes_140 rfl ?_
        refine a_iloadn dX11_hourGoes_141 rfl ?_
        refine a_iconst dX11_hourGoes_142 ?_
        refine a_iconst dX11_hourGoes_143 ?_
        refine a_relVv (as := [_, _, _, _]) (q := 209) dX11_hourGoes_144 mvX11_368 ⟨by decide, by decide⟩ (L209 L) rfl rfl rfl (Nat.le_of_ble_eq_true rfl) ⟨rfl, rfl⟩ ⟨by decide, by decide⟩ (m_layNamesN hP hb (hE.ri hI) (by omega) (by omega) ⟨by omega, by omega⟩) (fun M1 hM1 => ?_)
        have hI3 := hE.ri hI
        have hE1 : Es M M1 := fun k j a1 _ _ => hM1.1 k j a1
        have hE2 := hE.tr hE1
        have w1 := hI3.2.2.1.1 i (by omega) (by omega)
        have w3 := hI3.2.2.1.2.1 i (by omega) (by omega)
        have w6 := kmM_in hI3.1 b i
        have w7 := hI3.2.2.1.2.2.2
        have q5 := hI.2.2.1.1 i (by omega) (by omega)
        have hrl : rlf M1 2 (M1 231) = rlf Ma 2 (nmf (Ma 233 (6 * b + i)) (Ma 234 (6 * b + i)) 0 0 0 (kmM Ma b i) (Ma 238 b)) := by
          rw [hE2.rlq, ← hE.row (k := 233) (by decide) (by decide) (by decide), ← hE.row (k := 234) (by decide) (by decide) (by decide), ← hE.row (k := 238) (by decide) (by decide) (by decide), ← hE.km]
          exact rlf_cong hI.2.1.2.2 hM1.2
        refine a_aloadn dX11_hourGoes_147 rfl ?_
        refine a_getR (j' := 48) (y := 233) dX11_hourGoes_148 flX11_85 rfl rfl (L209 L) (p209_48 hP) ?_
        refine a_bipush (w := 6) dX11_hourGoes_151 (by decide) ?_
        refine a_iloadn dX11_hourGoes_153 rfl ?_
        refine a_imul dX11_hourGoes_154 ?_
        refine a_iloadn dX11_hourGoes_155 rfl ?_
        refine a_iadd dX11_hourGoes_156 ?_
        refine b_iald (N := 12) dX11_hourGoes_157 (L233 L) (by decide) (by omega) (by omega) (fun hr157 => ?_)
        have e157 : M1 233 (6 * b + i) = Ma 233 (6 * b + i) := hE2 _ _ (by decide) (by decide) (by omega)
        rw [e157] at hr157
        rw [e157]
        refine a_aloadn dX11_hourGoes_158 rfl ?_
        refine a_iconst dX11_hourGoes_159 ?_
        refine a_iconst dX11_hourGoes_160 ?_
        refine a_bipush (w := (-9)) dX11_hourGoes_161 (by decide) ?_
        refine a_bipush (w := 9) dX11_hourGoes_163 (by decide) ?_
        refine a_anyV (as := [_, _, _, _]) (q := 209) dX11_hourGoes_165 mvX11_372 ⟨by decide, by decide⟩ (L209 L) rfl rfl rfl (Nat.le_of_ble_eq_true rfl) ⟨rfl, rfl⟩ ⟨by decide, by decide⟩ (m_X11_boundLaw hP ⟨by decide, by decide⟩ (hE2.lri hI.2.1.2.2) (nmf_lim3 hM1.2 w1 w3 ⟨by omega, by omega⟩ ⟨by omega, by omega⟩ ⟨by omega, by omega⟩ w6 w7) ⟨by decide, by decide⟩ ⟨by decide, by decide⟩) (fun x9 M2 hM2 => ?_)
        have hx := hM2.2
        rw [hrl] at hx
        have hE3 := hE2.tr hM2.1.es
        have qx := lawE_in (r := rlf Ma 2 (nmf (Ma 233 (6 * b + i)) (Ma 234 (6 * b + i)) 0 0 0 (kmM Ma b i) (Ma 238 b))) (w := 0) (lo := -9) (hi := 9) (by decide)
        refine a_iadd dX11_hourGoes_168 ?_
        refine c_istoren (ls' := [_, _, _, _]) dX11_hourGoes_169 (by decide) rfl rfl ?_
        refine a_aloadn dX11_hourGoes_170 rfl ?_
        refine a_getR (j' := 48) (y := 233) dX11_hourGoes_171 flX11_85 rfl rfl (L209 L) (p209_48 hP) ?_
        refine a_bipush (w := 6) dX11_hourGoes_174 (by decide) ?_
        refine a_iloadn dX11_hourGoes_176 rfl ?_
        refine a_imul dX11_hourGoes_177 ?_
        refine a_iloadn dX11_hourGoes_178 rfl ?_
        refine a_iadd dX11_hourGoes_179 ?_
        refine a_iloadn dX11_hourGoes_180 rfl ?_
        refine a_if_ge (tgt := 188) dX11_hourGoes_181 (by decide) ⟨by omega, by omega⟩ (fun hb181 => ?_) (fun hb181 => ?_)
        · refine a_iloadn dX11_hourGoes_188 rfl ?_
          refine a_bipush (w := 99) dX11_hourGoes_189 (by decide) ?_
          refine a_icmp_le (tgt := 199) dX11_hourGoes_191 (by decide) ⟨by omega, by omega⟩ ⟨by omega, by omega⟩ (fun hb191 => ?_) (fun hb191 => ?_)
          · refine a_iloadn dX11_hourGoes_199 rfl ?_
            refine a_iast (N := 12) dX11_hourGoes_200 (L233 L) (by decide) (by decide) (by omega) (by omega) ⟨by omega, by omega⟩ ?_
            refine c_iinc (ls' := [_, _, _, _]) dX11_hourGoes_201 rfl (by decide) rfl rfl ?_
            refine a_goto (tgt := 124) dX11_hourGoes_204 (by decide) ?_
            refine a_forget [3] (ls' := [_, _, _, none]) rfl ?_
            simp only [drR] at kk
            refine ih _ _ (sm Ma 233 (6 * b + i) (drvR Ma b i)) (by omega) (by rw [sm_n (by decide)]; omega) ?_ (((Fb.rf b Ma).sm _ (by omega)).ri hI (hI.2.2.1.d (ct_in (by decide)))) (by rw [sm_n (by decide)]; exact hf) kk
            have hv : drvR Ma b i = ct (Ma 233 (6 * b + i) + x9) 0 99 := by unfold drvR; rw [← hx]
            rw [hv]
            unfold ct
            first
            | (rw [if_pos (by omega)]; exact hE3.sm2 _ _ _)
            | (rw [if_neg (by omega), if_pos (by omega)]; exact hE3.sm2 _ _ _)
            | (rw [if_neg (by omega), if_neg (by omega)]; exact hE3.sm2 _ _ _)
          · refine a_bipush (w := 99) dX11_hourGoes_194 (by decide) ?_
            refine a_goto (tgt := 200) dX11_hourGoes_196 (by decide) ?_
            refine a_iast (N := 12) dX11_hourGoes_200 (L233 L) (by decide) (by decide) (by omega) (by omega) ⟨by omega, by omega⟩ ?_
            refine c_iinc (ls' := [_, _, _, _]) dX11_hourGoes_201 rfl (by decide) rfl rfl ?_
            refine a_goto (tgt := 124) dX11_hourGoes_204 (by decide) ?_
            refine a_forget [3] (ls' := [_, _, _, none]) rfl ?_
            simp only [drR] at kk
            refine ih _ _ (sm Ma 233 (6 * b + i) (drvR Ma b i)) (by omega) (by rw [sm_n (by decide)]; omega) ?_ (((Fb.rf b Ma).sm _ (by omega)).ri hI (hI.2.2.1.d (ct_in (by decide)))) (by rw [sm_n (by decide)]; exact hf) kk
            have hv : drvR Ma b i = ct (Ma 233 (6 * b + i) + x9) 0 99 := by unfold drvR; rw [← hx]
            rw [hv]
            unfold ct
            first
            | (rw [if_pos (by omega)]; exact hE3.sm2 _ _ _)
            | (rw [if_neg (by omega), if_pos (by omega)]; exact hE3.sm2 _ _ _)
            | (rw [if_neg (by omega), if_neg (by omega)]; exact hE3.sm2 _ _ _)
        · refine a_iconst dX11_hourGoes_184 ?_
          refine a_goto (tgt := 200) dX11_hourGoes_185 (by decide) ?_
          refine a_iast (N := 12) dX11_hourGoes_200 (L233 L) (by decide) (by decide) (by omega) (by omega) ⟨by omega, by omega⟩ ?_
          refine c_iinc (ls' := [_, _, _, _]) dX11_hourGoes_201 rfl (by decide) rfl rfl ?_
          refine a_goto (tgt := 124) dX11_hourGoes_204 (by decide) ?_
          refine a_forget [3] (ls' := [_, _, _, none]) rfl ?_
          simp only [drR] at kk
          refine ih _ _ (sm Ma 233 (6 * b + i) (drvR Ma b i)) (by omega) (by rw [sm_n (by decide)]; omega) ?_ (((Fb.rf b Ma).sm _ (by omega)).ri hI (hI.2.2.1.d (ct_in (by decide)))) (by rw [sm_n (by decide)]; exact hf) kk
          have hv : drvR Ma b i = ct (Ma 233 (6 * b + i) + x9) 0 99 := by unfold drvR; rw [← hx]
          rw [hv]
          unfold ct
          first
          | (rw [if_pos (by omega)]; exact hE3.sm2 _ _ _)
          | (rw [if_neg (by omega), if_pos (by omega)]; exact hE3.sm2 _ _ _)
          | (rw [if_neg (by omega), if_neg (by omega)]; exact hE3.sm2 _ _ _)

set_option maxRecDepth 100000 in
set_option maxHeartbeats 4000000 in
theorem hgD {G : zG} {l : Launch} {L : Nat} {P : zP} {b : Int} {Z : zZ} (hP : PFok P) (hb : b = 0 ∨ b = 1) : ∀ (n : Nat) (i : Int) (M Ma : zM) (g0 : 0 ≤ i) (g1 : i + n = Ma 209 12) (hE : Es Ma M) (hI : RJ Ma b) (kk : ∀ M' : zM, Es (fvR b n i Ma) M' → AW G l mdX11_hourGoes Z 259 [some (aR 209), some (aI b), none, none] [] (LAY L) P M' 0 0), AW G l mdX11_hourGoes Z 209 [some (aR 209), some (aI b), some (aI i), none] [] (LAY L) P M 0 0 := by
  intro n
  induction n with
  | zero =>
    intro i M Ma g0 g1 hE hI kk
    have q1 := hI.1.1.1
    obtain ⟨f1, f2, f3, f4, f5⟩ := fmR_all hI
    have hE1 := (fR_cong hE).1
    have hfc := (fR_cong hE).2
    refine a_iloadn dX11_hourGoes_209 rfl ?_
    refine a_aloadn dX11_hourGoes_210 rfl ?_
    refine b_getI (j' := 12) dX11_hourGoes_211 flX11_201 rfl rfl (L209 L) (fun hr211 => ?_)
    have e211 : M 209 12 = Ma 209 12 := hE _ _ (by decide) (by decide) (by omega)
    rw [e211] at hr211
    rw [e211]
    refine a_icmp_ge (tgt := 259) dX11_hourGoes_214 (by decide) ⟨by omega, by omega⟩ ⟨by omega, by omega⟩ (fun hb214 => ?_) (fun hb214 => ?_)
    · refine a_forget [2] (ls' := [_, _, none, none]) rfl (kk _ hE)
    · exfalso; omega
  | succ n ih =>
    intro i M Ma g0 g1 hE hI kk
    have q1 := hI.1.1.1
    obtain ⟨f1, f2, f3, f4, f5⟩ := fmR_all hI
    have hE1 := (fR_cong hE).1
    have hfc := (fR_cong hE).2
    refine a_iloadn dX11_hourGoes_209 rfl ?_
    refine a_aloadn dX11_hourGoes_210 rfl ?_
    refine b_getI (j' := 12) dX11_hourGoes_211 flX11_201 rfl rfl (L209 L) (fun hr211 => ?_)
    have e211 : M 209 12 = Ma 209 12 := hE _ _ (by decide) (by decide) (by omega)
    rw [e211] at hr211
    rw [e211]
    refine a_icmp_ge (tgt := 259) dX11_hourGoes_214 (by decide) ⟨by omega, by omega⟩ ⟨by omega, by omega⟩ (fun hb214 => ?_) (fun hb214 => ?_)
    · exfalso; omega
    · refine a_aloadn dX11_hourGoes_217 rfl ?_
      refine a_callV (as := []) (q := 209) dX11_hourGoes_218 mvX11_394 ⟨by decide, by decide⟩ (L209 L) rfl rfl rfl (Nat.le_of_ble_eq_true rfl) ⟨rfl, rfl⟩ ⟨by decide, by decide⟩ (m_X11_isFading hP (hE.rj hI).2) ?_
      rw [hfc]
      refine a_if_eq (tgt := 253) dX11_hourGoes_221 (by decide) (by unfold fcR; split <;> (try split) <;> (try split) <;> (try split) <;> exact ⟨by omega, by omega⟩) (fun hb221 => ?_) (fun hb221 => ?_)
      · refine c_iinc (ls' := [_, _, _, _]) dX11_hourGoes_253 rfl (by decide) rfl rfl ?_
        refine a_goto (tgt := 209) dX11_hourGoes_256 (by decide) ?_
        simp only [fvR] at kk
        first
        | (rw [if_neg (fun z => by omega)] at kk; exact ih _ _ _ (by omega) (by rw [f4 12 (by decide)]; omega) hE1 f2 kk)
        | (rw [if_pos ⟨hb221, by omega⟩] at kk
           have f := f1.sm (k := 234) (i := 6 * b + i) (Ma 234 (6 * b + i) - 1) (by omega)
           exact ih _ _ _ (by omega) (by rw [sm_n (by decide), f4 12 (by decide)]; omega) (hE1.sm2 _ _ _) ⟨f.ri hI.1 (f2.1.2.2.1.g ⟨by omega, by omega⟩), by rw [sm_n (by decide)]; exact f2.2⟩ kk)
      · refine a_aloadn dX11_hourGoes_224 rfl ?_
        refine a_getR (j' := 49) (y := 234) dX11_hourGoes_225 flX11_88 rfl rfl (L209 L) (p209_49 hP) ?_
        refine a_bipush (w := 6) dX11_hourGoes_228 (by decide) ?_
        refine a_iloadn dX11_hourGoes_230 rfl ?_
        refine a_imul dX11_hourGoes_231 ?_
        refine a_iloadn dX11_hourGoes_232 rfl ?_
        refine a_iadd dX11_hourGoes_233 ?_
        refine b_iald (N := 12) dX11_hourGoes_234 (L234 L) (by decide) (by omega) (by omega) (fun hr234 => ?_)
        have q2 := hI.1.2.2.1.2.1 i (by omega) (by omega)
        have e234 : fmR M 234 (6 * b + i) = Ma 234 (6 * b + i) := by rw [hE1 _ _ (by decide) (by decide) (by omega), f5]
        rw [e234] at hr234
        rw [e234]
        refine a_if_le (tgt := 253) dX11_hourGoes_235 (by decide) ⟨by omega, by omega⟩ (fun hb235 => ?_) (fun hb235 => ?_)
        · refine c_iinc (ls' := [_, _, _, _]) dX11_hourGoes_253 rfl (by decide) rfl rfl ?_
          refine a_goto (tgt := 209) dX11_hourGoes_256 (by decide) ?_
          simp only [fvR] at kk
          first
          | (rw [if_neg (fun z => by omega)] at kk; exact ih _ _ _ (by omega) (by rw [f4 12 (by decide)]; omega) hE1 f2 kk)
          | (rw [if_pos ⟨hb221, by omega⟩] at kk
             have f := f1.sm (k := 234) (i := 6 * b + i) (Ma 234 (6 * b + i) - 1) (by omega)
             exact ih _ _ _ (by omega) (by rw [sm_n (by decide), f4 12 (by decide)]; omega) (hE1.sm2 _ _ _) ⟨f.ri hI.1 (f2.1.2.2.1.g ⟨by omega, by omega⟩), by rw [sm_n (by decide)]; exact f2.2⟩ kk)
        · refine a_aloadn dX11_hourGoes_238 rfl ?_
          refine a_getR (j' := 49) (y := 234) dX11_hourGoes_239 flX11_88 rfl rfl (L209 L) (p209_49 hP) ?_
          refine a_bipush (w := 6) dX11_hourGoes_242 (by decide) ?_
          refine a_iloadn dX11_hourGoes_244 rfl ?_
          refine a_imul dX11_hourGoes_245 ?_
          refine a_iloadn dX11_hourGoes_246 rfl ?_
          refine a_iadd dX11_hourGoes_247 ?_
          refine a_dup2IR dX11_hourGoes_248 ?_
          refine b_iald (N := 12) dX11_hourGoes_249 (L234 L) (by decide) (by omega) (by omega) (fun hr249 => ?_)
          have e249 : fmR M 234 (6 * b + i) = Ma 234 (6 * b + i) := by rw [hE1 _ _ (by decide) (by decide) (by omega), f5]
          rw [e249] at hr249
          rw [e249]
          refine a_iconst dX11_hourGoes_250 ?_
          refine a_isub dX11_hourGoes_251 ?_
          refine a_iast (N := 12) dX11_hourGoes_252 (L234 L) (by decide) (by decide) (by omega) (by omega) ⟨by omega, by omega⟩ ?_
          refine c_iinc (ls' := [_, _, _, _]) dX11_hourGoes_253 rfl (by decide) rfl rfl ?_
          refine a_goto (tgt := 209) dX11_hourGoes_256 (by decide) ?_
          simp only [fvR] at kk
          first
          | (rw [if_neg (fun z => by omega)] at kk; exact ih _ _ _ (by omega) (by rw [f4 12 (by decide)]; omega) hE1 f2 kk)
          | (rw [if_pos ⟨hb221, by omega⟩] at kk
             have f := f1.sm (k := 234) (i := 6 * b + i) (Ma 234 (6 * b + i) - 1) (by omega)
             exact ih _ _ _ (by omega) (by rw [sm_n (by decide), f4 12 (by decide)]; omega) (hE1.sm2 _ _ _) ⟨f.ri hI.1 (f2.1.2.2.1.g ⟨by omega, by omega⟩), by rw [sm_n (by decide)]; exact f2.2⟩ kk)

set_option maxRecDepth 100000 in
set_option maxHeartbeats 4000000 in
theorem hgE {G : zG} {l : Launch} {L : Nat} {P : zP} {M Ma Mb : zM} {b : Int} (hP : PFok P) (hb : b = 0 ∨ b = 1) (hE : Es Mb M) (h8 : Mb 238 = Ma 238) (hq : 0 ≤ Ma 238 b ∧ Ma 238 b ≤ 9999) : AW G l mdX11_hourGoes (zrel none (LAY L) P (fun M' => Es (sm Mb 238 b (Ma 238 b + 1)) M')) 259 [some (aR 209), some (aI b), none, none] [] (LAY L) P M 0 0 := by
  refine a_aloadn dX11_hourGoes_259 rfl ?_
  refine a_getR (j' := 53) (y := 238) dX11_hourGoes_260 flX11_100 rfl rfl (L209 L) (p209_53 hP) ?_
  refine a_iloadn dX11_hourGoes_263 rfl ?_
  refine a_dup2IR dX11_hourGoes_264 ?_
  refine b_iald (N := 2) dX11_hourGoes_265 (L238 L) (by decide) (by omega) (by omega) (fun hr265 => ?_)
  have e265 : M 238 b = Ma 238 b := by rw [hE _ _ (by decide) (by decide) (by omega), h8]
  rw [e265] at hr265
  rw [e265]
  refine a_iconst dX11_hourGoes_266 ?_
  refine a_iadd dX11_hourGoes_267 ?_
  refine a_iast (N := 2) dX11_hourGoes_268 (L238 L) (by decide) (by decide) (by omega) (by omega) ⟨by omega, by omega⟩ ?_
  exact a_return dX11_hourGoes_269 rfl rfl rfl (zrel_V (hE.sm2 _ _ _))

set_option maxRecDepth 100000 in
set_option maxHeartbeats 4000000 in
theorem m_X11_hourGoes {G : zG} {l : Launch} {L : Nat} {P : zP} {M : zM} {Ma : zM} {b : Int} (hP : PFok P) (hb : b = 0 ∨ b = 1) (hE : Es Ma M) (hI : RJ Ma b) (hh : Ma 238 b + 1 ≤ 9999) : AM G l yX11_hourGoes mdX11_hourGoes [aR 209, aI b] (LAY L) P M (zrel none (LAY L) P (fun M' => Es (hourR b Ma) M')) := by
  refine AM.go [some (aR 209), some (aI b), none, none] rfl (Nat.le_of_ble_eq_true rfl) ?_ (by decide) rfl rfl
  refine a_iconst dX11_hourGoes_0 ?_
  refine c_istoren (ls' := [_, _, _, _]) dX11_hourGoes_1 (by decide) rfl rfl ?_
  have t1 := hI.1.1.2.1
  have t2 := hI.1.1.2.2.1
  have t3 := hI.1.1.1
  obtain ⟨a1, a2, a3, a4⟩ := hrR1_all hI
  obtain ⟨b1, b2, b3, b4⟩ := hrR2_all hI
  obtain ⟨c1, c2, c3, c4⟩ := hrR3_all hI
  obtain ⟨d1, d2, d3, d4⟩ := hrR4_all hI
  have kE : ∀ M' : zM, Es (hrR4 b Ma) M' → AW G l mdX11_hourGoes (zrel none (LAY L) P (fun M' => Es (hourR b Ma) M')) 259 [some (aR 209), some (aI b), none, none] [] (LAY L) P M' 0 0 := fun M' hE' => hgE hP hb hE' (by rw [d3]) hI.1.2.2.1.2.2.2
  have kD : ∀ M' : zM, Es (hrR3 b Ma) M' → AW G l mdX11_hourGoes (zrel none (LAY L) P (fun M' => Es (hourR b Ma) M')) 207 [some (aR 209), some (aI b), none, none] [] (LAY L) P M' 0 0 := fun M' hE' => by
    refine a_iconst dX11_hourGoes_207 ?_
    refine c_istoren (ls' := [_, _, _, _]) dX11_hourGoes_208 (by decide) rfl rfl ?_
    exact hgD hP hb (Ma 209 12).toNat 0 M' (hrR3 b Ma) (by omega) (by rw [c4]; omega) hE' c2 kE
  have kC : ∀ M' : zM, Es (hrR2 b Ma) M' → AW G l mdX11_hourGoes (zrel none (LAY L) P (fun M' => Es (hourR b Ma) M')) 122 [some (aR 209), some (aI b), none, none] [] (LAY L) P M' 0 0 := fun M' hE' => by
    refine a_iconst dX11_hourGoes_122 ?_
    refine c_istoren (ls' := [_, _, _, _]) dX11_hourGoes_123 (by decide) rfl rfl ?_
    by_cases hf : Ma 209 57 = 0
    · refine hgC hP hb (Ma 209 12).toNat 0 M' (hrR2 b Ma) (by omega) (by rw [b4]; omega) hE' b2.1 (by rw [b4]; exact hf) (fun M'' h => kD M'' (by unfold hrR3; rw [if_pos hf]; exact h))
    · refine hgC0 hP hb hE' (by rw [b4]; exact hf) b2.1.1 (kD M' (by unfold hrR3; rw [if_neg hf]; exact hE'))
  have kB : ∀ M' : zM, Es (hrR1 b Ma) M' → AW G l mdX11_hourGoes (zrel none (LAY L) P (fun M' => Es (hourR b Ma) M')) 60 [some (aR 209), some (aI b), none, none] [] (LAY L) P M' 0 0 := fun M' hE' => by
    refine a_iconst dX11_hourGoes_60 ?_
    refine c_istoren (ls' := [_, _, _, _]) dX11_hourGoes_61 (by decide) rfl rfl ?_
    exact hgB hP hb (Ma 209 14).toNat 0 M' (hrR1 b Ma) (by omega) (by rw [a4]; omega) hE' a2.1 kC
  by_cases hf : Ma 209 58 = 0
  · exact hgA hP hb (Ma 209 13).toNat 0 M Ma (by omega) (by omega) hE hI.1 hf (fun M' h => kB M' (by unfold hrR1; rw [if_pos hf]; exact h))
  · exact hgA0 hP hb hE hf hI.1.1 (kB M (by unfold hrR1; rw [if_neg hf]; exact hE))

set_option maxRecDepth 100000 in
set_option maxHeartbeats 4000000 in
theorem lpX11_goMany {G : zG} {l : Launch} {L : Nat} {P : zP} {nn : Int} (hP : PFok P) (hn : 0 ≤ nn ∧ nn ≤ 1000) : ∀ (n : Nat) (i : Int) (M Ma : zM) (g0 : 0 ≤ i) (g1 : i + n = nn) (hE : Es Ma M) (hI : RJ Ma 1) (hh : Ma 238 1 + n ≤ 9999), AW G l mdX11_goMany (zrel none (LAY L) P (fun M' => Es (goR 1 n Ma) M')) 2 [some (aR 209), some (aI nn), some (aI i)] [] (LAY L) P M 0 0 := by
  intro n
  induction n with
  | zero =>
    intro i M Ma g0 g1 hE hI hh
    refine a_iloadn dX11_goMany_2 rfl ?_
    refine a_iloadn dX11_goMany_3 rfl ?_
    refine a_icmp_ge (tgt := 18) dX11_goMany_4 (by decide) ⟨by omega, by omega⟩ ⟨by omega, by omega⟩ (fun hb4 => ?_) (fun hb4 => ?_)
    · exact a_return dX11_goMany_18 rfl rfl rfl (zrel_V hE)
    · exfalso; omega
  | succ n ih =>
    intro i M Ma g0 g1 hE hI hh
    refine a_iloadn dX11_goMany_2 rfl ?_
    refine a_iloadn dX11_goMany_3 rfl ?_
    refine a_icmp_ge (tgt := 18) dX11_goMany_4 (by decide) ⟨by omega, by omega⟩ ⟨by omega, by omega⟩ (fun hb4 => ?_) (fun hb4 => ?_)
    · exfalso; omega
    · obtain ⟨p1, p2, p3, p4⟩ := hourR_all hI (by omega)
      refine a_aloadn dX11_goMany_7 rfl ?_
      refine a_iconst dX11_goMany_8 ?_
      refine a_relVv (as := [_]) (q := 209) dX11_goMany_9 mvX11_397 ⟨by decide, by decide⟩ (L209 L) rfl rfl rfl (Nat.le_of_ble_eq_true rfl) ⟨rfl, rfl⟩ ⟨by decide, by decide⟩ (m_X11_hourGoes hP (Or.inr rfl) hE hI (by omega)) (fun M1 hM1 => ?_)
      refine c_iinc (ls' := [_, _, _]) dX11_goMany_12 rfl (by decide) rfl rfl ?_
      refine a_goto (tgt := 2) dX11_goMany_15 (by decide) ?_
      exact ih _ _ (hourR 1 Ma) (by omega) (by omega) hM1 p2 (by rw [p3]; omega)

set_option maxRecDepth 100000 in
set_option maxHeartbeats 4000000 in
theorem m_X11_goMany {G : zG} {l : Launch} {L : Nat} {P : zP} {M : zM} {Ma : zM} {nn : Int} (hP : PFok P) (hn : 0 ≤ nn ∧ nn ≤ 1000) (hE : Es Ma M) (hI : RJ Ma 1) (hh : Ma 238 1 + nn ≤ 9999) : AM G l yX11_goMany mdX11_goMany [aR 209, aI nn] (LAY L) P M (zrel none (LAY L) P (fun M' => Es (goR 1 nn.toNat Ma) M')) := by
  refine AM.go [some (aR 209), some (aI nn), none] rfl (Nat.le_of_ble_eq_true rfl) ?_ (by decide) rfl rfl
  refine a_iconst dX11_goMany_0 ?_
  refine c_istoren (ls' := [_, _, _]) dX11_goMany_1 (by decide) rfl rfl ?_
  exact lpX11_goMany hP hn nn.toNat 0 M Ma (by omega) (by omega) hE hI (by omega)
