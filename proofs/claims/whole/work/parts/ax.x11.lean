section ZXB
def smL (k : Nat) : List Int → Int → zM → zM
  | [], _, M => M
  | v :: r, i, M => smL k r (i + 1) (sm M k i v)
theorem smL_n {k q : Nat} (h : q ≠ k) : ∀ (l : List Int) (i : Int) (M : zM), smL k l i M q = M q
  | [], _, _ => rfl
  | v :: r, i, M => by rw [smL, smL_n h r (i + 1) (sm M k i v), sm_n h]
theorem smL_k {k : Nat} : ∀ (l : List Int) (i j : Int) (M : zM), smL k l i M k j = if i ≤ j ∧ j < i + l.length then l.getD (j - i).toNat 0 else M k j
  | [], i, j, M => by rw [smL, if_neg (by simp <;> omega)]
  | v :: r, i, j, M => by
    rw [smL, smL_k r (i + 1) j (sm M k i v), sm_k]
    by_cases e : j = i
    · subst e
      rw [if_neg (by omega), us_s, if_pos (by simp; omega)]
      simp
    · rw [us_n e]
      by_cases c : i + 1 ≤ j ∧ j < i + 1 + r.length
      · rw [if_pos c, if_pos (by simp; omega)]
        obtain ⟨t, ht⟩ : ∃ t : Nat, j - i = (t : Int) + 1 := ⟨(j - i - 1).toNat, by omega⟩
        rw [show (j - i).toNat = t + 1 by omega, show (j - (i + 1)).toNat = t by omega]
        rfl
      · rw [if_neg c, if_neg (by simp; omega)]
def wdM (M : zM) : zM := sm (sm (sm (sm (sm (sm (sm (sm (sm (sm (sm (sm (sm (sm (sm (sm (sm (sm (sm (sm (sm (sm (sm (sm (sm (sm (sm (sm (sm (sm (sm (sm (sm (sm (sm (sm (sm (sm (sm (sm (sm (sm (sm (sm (sm (sm (sm (sm (sm (sm (sm (sm (sm (sm (sm (sm (sm (sm (sm (sm (sm (sm (sm (sm (sm (sm (sm (sm (sm (sm (sm (sm (sm (sm (sm (sm (sm (sm (sm (sm (sm (sm (sm (sm (sm (sm (sm (sm (sm (sm (sm (sm (sm (sm (sm (sm (sm (sm (sm (sm (sm (sm (sm (sm (sm (sm (sm M 211 0 (104)) 211 1 (111)) 211 2 (117)) 211 3 (115)) 211 4 (101)) 211 5 (32)) 211 6 (116)) 211 7 (117)) 211 8 (114)) 211 9 (110)) 211 10 (32)) 211 11 (115)) 211 12 (111)) 211 13 (117)) 211 14 (110)) 211 15 (100)) 211 16 (32)) 211 17 (110)) 211 18 (101)) 211 19 (97)) 211 20 (114)) 211 21 (32)) 211 22 (111)) 211 23 (102)) 211 24 (116)) 211 25 (101)) 211 26 (110)) 211 27 (32)) 211 28 (102)) 211 29 (97)) 211 30 (100)) 211 31 (101)) 211 32 (32)) 211 33 (115)) 211 34 (101)) 211 35 (101)) 211 36 (100)) 211 37 (32)) 211 38 (108)) 211 39 (97)) 211 40 (119)) 211 41 (32)) 211 42 (114)) 211 43 (101)) 211 44 (97)) 211 45 (99)) 211 46 (104)) 211 47 (32)) 211 48 (108)) 211 49 (101)) 211 50 (97)) 211 51 (114)) 211 52 (110)) 211 53 (32)) 211 54 (100)) 211 55 (114)) 211 56 (105)) 211 57 (102)) 211 58 (116)) 211 59 (32)) 211 60 (97)) 211 61 (110)) 211 62 (100)) 211 63 (32)) 211 64 (111)) 211 65 (114)) 211 66 (32)) 211 67 (110)) 211 68 (111)) 211 69 (116)) 211 70 (32)) 211 71 (100)) 211 72 (105)) 211 73 (97)) 211 74 (108)) 211 75 (32)) 211 76 (103)) 211 77 (97)) 211 78 (105)) 211 79 (110)) 211 80 (32)) 211 81 (102)) 211 82 (97)) 211 83 (114)) 211 84 (32)) 211 85 (107)) 211 86 (105)) 211 87 (110)) 211 88 (100)) 211 89 (32)) 211 90 (104)) 211 91 (101)) 211 92 (97)) 211 93 (114)) 211 94 (100)) 211 95 (32)) 211 96 (107)) 211 97 (110)) 211 98 (111)) 211 99 (119)) 211 100 (115)) 211 101 (32)) 211 102 (104)) 211 103 (111)) 211 104 (117)) 211 105 (114)) 211 106 (32)
set_option maxRecDepth 100000 in
theorem wdM_L (M : zM) : wdM M = smL 211 wrdL 0 M := rfl
def xM (M : zM) : zM := sm (sm (wdM M) 209 5 (-1)) 209 62 (-1)
def pX11 (P : zP) : zP := sp (sp (sp (sp (sp (sp (sp (sp (sp (sp (sp (sp (sp (sp (sp (sp (sp (sp (sp (sp (sp (sp (sp (sp (sp (sp (sp (sp (sp (sp (sp (sp (sp P 209 0 (some 210)) 209 3 (some 211)) 209 20 (some 212)) 209 21 (some 213)) 209 22 (some 214)) 209 23 (some 215)) 209 24 (some 216)) 209 25 (some 217)) 209 26 (some 218)) 209 27 (some 219)) 209 28 (some 220)) 209 29 (some 221)) 209 30 (some 222)) 209 31 (some 223)) 209 32 (some 224)) 209 33 (some 225)) 209 34 (some 226)) 209 35 (some 227)) 209 36 (some 228)) 209 37 (some 229)) 209 38 (some 230)) 209 45 (some 231)) 209 46 (some 232)) 209 48 (some 233)) 209 49 (some 234)) 209 50 (some 235)) 209 51 (some 236)) 209 52 (some 237)) 209 53 (some 238)) 209 63 (some 239)) 209 64 (some 240)) 209 66 (some 241)) 209 68 (some 242)
theorem hY9 (L : Nat) : ∀ k, 209 ≤ k → k < 243 → ((LAY L).take 243)[k]? = (LAY 0)[k]? := fun k h1 h2 => by
  rw [List.getElem?_take, if_pos h2]
  obtain ⟨j, rfl⟩ : ∃ j, k = j + 1 := ⟨k - 1, by omega⟩
  rfl
abbrev mdX11_i : zMd := (RX11, "<init>", cX11_init, 1, none, { frames := 8, cells := 33, slots := 3844, locals := 512 })
theorem obX11_1 : Cond.methodLink RX11 1 Lib.objectInit ∈ zt := zmem (tm0 1238 (by decide +kernel)) rfl
set_option maxRecDepth 100000 in
set_option maxHeartbeats 8000000 in
theorem i_X11 {G : zG} {l : Launch} {L : Nat} {P : zP} {M : zM} (hP : PFok (pX11 P)) (hF0 : FR M P 210) : AM G l yX11_init mdX11_i [aR 209] ((LAY L).take 210) P M (zrel none ((LAY L).take 243) (pX11 P) (BgK (ktM (plM (xM M))))) := by
  refine AM.go [some (aR 209)] rfl (Nat.le_of_ble_eq_true rfl) ?_ (by decide) rfl rfl
  refine a_aloadn dX11_init_0 rfl ?_
  refine a_objI dX11_init_1 ⟨obX11_1, ob_i, ob_c⟩ (Nat.le_of_ble_eq_true rfl) ⟨by decide, by decide⟩ ?_
  refine a_aloadn dX11_init_4 rfl ?_
  refine a_sipush (w := 700) dX11_init_5 (by decide) ?_
  refine a_newa (t := 0) (N := 700) (lay' := (LAY L).take 211) dX11_init_8 acl_0 (Or.inl ⟨rfl, rfl⟩) rfl (by decide) (xkL (by decide)) (by decide) (fun i => (hF0 210 (by decide)).1 i) (fun i => (hF0 210 (by decide)).2 i) (xkS (L210 L)) ⟨Nat.le_of_ble_eq_true rfl, Nat.le_of_ble_eq_true rfl⟩ ?_
  refine a_putFR (dcl := "") (j' := 0) (y := 210) dX11_init_10 flX11_7 rfl rfl (xkG (by decide) (L209 L)) (by decide) rfl rfl ?_
  have hF1 := (hF0.le (show _ ≤ 211 by decide)).sp (q := 209) (i := 0) (v := some 210) (by decide)
  refine a_aloadn dX11_init_13 rfl ?_
  refine a_bipush (w := 107) dX11_init_14 (by decide) ?_
  refine a_newa (t := 0) (N := 107) (lay' := (LAY L).take 212) dX11_init_16 acl_0 (Or.inl ⟨rfl, rfl⟩) rfl (by decide) (xkL (by decide)) (by decide) (fun i => (hF1 211 (by decide)).1 i) (fun i => (hF1 211 (by decide)).2 i) (xkS (L211 L)) ⟨Nat.le_of_ble_eq_true rfl, Nat.le_of_ble_eq_true rfl⟩ ?_
  refine a_dupR dX11_init_18 ?_
  refine a_iconst dX11_init_19 ?_
  refine a_bipush (w := 104) dX11_init_20 (by decide) ?_
  refine a_iast (N := 107) dX11_init_22 (xkG (by decide) (L211 L)) (by decide) (by decide) (by decide) (by decide) ⟨by decide, by decide⟩ ?_
  have hF2 := (hF1.le (show _ ≤ 212 by decide)).sm (q := 211) (i := 0) (v := 104) (by decide)
  refine a_dupR dX11_init_23 ?_
  refine a_iconst dX11_init_24 ?_
  refine a_bipush (w := 111) dX11_init_25 (by decide) ?_
  refine a_iast (N := 107) dX11_init_27 (xkG (by decide) (L211 L)) (by decide) (by decide) (by decide) (by decide) ⟨by decide, by decide⟩ ?_
  have hF3 := (hF2.le (show _ ≤ 212 by decide)).sm (q := 211) (i := 1) (v := 111) (by decide)
  refine a_dupR dX11_init_28 ?_
  refine a_iconst dX11_init_29 ?_
  refine a_bipush (w := 117) dX11_init_30 (by decide) ?_
  refine a_iast (N := 107) dX11_init_32 (xkG (by decide) (L211 L)) (by decide) (by decide) (by decide) (by decide) ⟨by decide, by decide⟩ ?_
  have hF4 := (hF3.le (show _ ≤ 212 by decide)).sm (q := 211) (i := 2) (v := 117) (by decide)
  refine a_dupR dX11_init_33 ?_
  refine a_iconst dX11_init_34 ?_
  refine a_bipush (w := 115) dX11_init_35 (by decide) ?_
  refine a_iast (N := 107) dX11_init_37 (xkG (by decide) (L211 L)) (by decide) (by decide) (by decide) (by decide) ⟨by decide, by decide⟩ ?_
  have hF5 := (hF4.le (show _ ≤ 212 by decide)).sm (q := 211) (i := 3) (v := 115) (by decide)
  refine a_dupR dX11_init_38 ?_
  refine a_iconst dX11_init_39 ?_
  refine a_bipush (w := 101) dX11_init_40 (by decide) ?_
  refine a_iast (N := 107) dX11_init_42 (xkG (by decide) (L211 L)) (by decide) (by decide) (by decide) (by decide) ⟨by decide, by decide⟩ ?_
  have hF6 := (hF5.le (show _ ≤ 212 by decide)).sm (q := 211) (i := 4) (v := 101) (by decide)
  refine a_dupR dX11_init_43 ?_
  refine a_iconst dX11_init_44 ?_
  refine a_bipush (w := 32) dX11_init_45 (by decide) ?_
  refine a_iast (N := 107) dX11_init_47 (xkG (by decide) (L211 L)) (by decide) (by decide) (by decide) (by decide) ⟨by decide, by decide⟩ ?_
  have hF7 := (hF6.le (show _ ≤ 212 by decide)).sm (q := 211) (i := 5) (v := 32) (by decide)
  refine a_dupR dX11_init_48 ?_
  refine a_bipush (w := 6) dX11_init_49 (by decide) ?_
  refine a_bipush (w := 116) dX11_init_51 (by decide) ?_
  refine a_iast (N := 107) dX11_init_53 (xkG (by decide) (L211 L)) (by decide) (by decide) (by decide) (by decide) ⟨by decide, by decide⟩ ?_
  have hF8 := (hF7.le (show _ ≤ 212 by decide)).sm (q := 211) (i := 6) (v := 116) (by decide)
  refine a_dupR dX11_init_54 ?_
  refine a_bipush (w := 7) dX11_init_55 (by decide) ?_
  refine a_bipush (w := 117) dX11_init_57 (by decide) ?_
  refine a_iast (N := 107) dX11_init_59 (xkG (by decide) (L211 L)) (by decide) (by decide) (by decide) (by decide) ⟨by decide, by decide⟩ ?_
  have hF9 := (hF8.le (show _ ≤ 212 by decide)).sm (q := 211) (i := 7) (v := 117) (by decide)
  refine a_dupR dX11_init_60 ?_
  refine a_bipush (w := 8) dX11_init_61 (by decide) ?_
  refine a_bipush (w := 114) dX11_init_63 (by decide) ?_
  refine a_iast (N := 107) dX11_init_65 (xkG (by decide) (L211 L)) (by decide) (by decide) (by decide) (by decide) ⟨by decide, by decide⟩ ?_
  have hF10 := (hF9.le (show _ ≤ 212 by decide)).sm (q := 211) (i := 8) (v := 114) (by decide)
  refine a_dupR dX11_init_66 ?_
  refine a_bipush (w := 9) dX11_init_67 (by decide) ?_
  refine a_bipush (w := 110) dX11_init_69 (by decide) ?_
  refine a_iast (N := 107) dX11_init_71 (xkG (by decide) (L211 L)) (by decide) (by decide) (by decide) (by decide) ⟨by decide, by decide⟩ ?_
  have hF11 := (hF10.le (show _ ≤ 212 by decide)).sm (q := 211) (i := 9) (v := 110) (by decide)
  refine a_dupR dX11_init_72 ?_
  refine a_bipush (w := 10) dX11_init_73 (by decide) ?_
  refine a_bipush (w := 32) dX11_init_75 (by decide) ?_
  refine a_iast (N := 107) dX11_init_77 (xkG (by decide) (L211 L)) (by decide) (by decide) (by decide) (by decide) ⟨by decide, by decide⟩ ?_
  have hF12 := (hF11.le (show _ ≤ 212 by decide)).sm (q := 211) (i := 10) (v := 32) (by decide)
  refine a_dupR dX11_init_78 ?_
  refine a_bipush (w := 11) dX11_init_79 (by decide) ?_
  refine a_bipush (w := 115) dX11_init_81 (by decide) ?_
  refine a_iast (N := 107) dX11_init_83 (xkG (by decide) (L211 L)) (by decide) (by decide) (by decide) (by decide) ⟨by decide, by decide⟩ ?_
  have hF13 := (hF12.le (show _ ≤ 212 by decide)).sm (q := 211) (i := 11) (v := 115) (by decide)
  refine a_dupR dX11_init_84 ?_
  refine a_bipush (w := 12) dX11_init_85 (by decide) ?_
  refine a_bipush (w := 111) dX11_init_87 (by decide) ?_
  refine a_iast (N := 107) dX11_init_89 (xkG (by decide) (L211 L)) (by decide) (by decide) (by decide) (by decide) ⟨by decide, by decide⟩ ?_
  have hF14 := (hF13.le (show _ ≤ 212 by decide)).sm (q := 211) (i := 12) (v := 111) (by decide)
  refine a_dupR dX11_init_90 ?_
  refine a_bipush (w := 13) dX11_init_91 (by decide) ?_
  refine a_bipush (w := 117) dX11_init_93 (by decide) ?_
  refine a_iast (N := 107) dX11_init_95 (xkG (by decide) (L211 L)) (by decide) (by decide) (by decide) (by decide) ⟨by decide, by decide⟩ ?_
  have hF15 := (hF14.le (show _ ≤ 212 by decide)).sm (q := 211) (i := 13) (v := 117) (by decide)
  refine a_dupR dX11_init_96 ?_
  refine a_bipush (w := 14) dX11_init_97 (by decide) ?_
  refine a_bipush (w := 110) dX11_init_99 (by decide) ?_
  refine a_iast (N := 107) dX11_init_101 (xkG (by decide) (L211 L)) (by decide) (by decide) (by decide) (by decide) ⟨by decide, by decide⟩ ?_
  have hF16 := (hF15.le (show _ ≤ 212 by decide)).sm (q := 211) (i := 14) (v := 110) (by decide)
  refine a_dupR dX11_init_102 ?_
  refine a_bipush (w := 15) dX11_init_103 (by decide) ?_
  refine a_bipush (w := 100) dX11_init_105 (by decide) ?_
  refine a_iast (N := 107) dX11_init_107 (xkG (by decide) (L211 L)) (by decide) (by decide) (by decide) (by decide) ⟨by decide, by decide⟩ ?_
  have hF17 := (hF16.le (show _ ≤ 212 by decide)).sm (q := 211) (i := 15) (v := 100) (by decide)
  refine a_dupR dX11_init_108 ?_
  refine a_bipush (w := 16) dX11_init_109 (by decide) ?_
  refine a_bipush (w := 32) dX11_init_111 (by decide) ?_
  refine a_iast (N := 107) dX11_init_113 (xkG (by decide) (L211 L)) (by decide) (by decide) (by decide) (by decide) ⟨by decide, by decide⟩ ?_
  have hF18 := (hF17.le (show _ ≤ 212 by decide)).sm (q := 211) (i := 16) (v := 32) (by decide)
  refine a_dupR dX11_init_114 ?_
  refine a_bipush (w := 17) dX11_init_115 (by decide) ?_
  refine a_bipush (w := 110) dX11_init_117 (by decide) ?_
  refine a_iast (N := 107) dX11_init_119 (xkG (by decide) (L211 L)) (by decide) (by decide) (by decide) (by decide) ⟨by decide, by decide⟩ ?_
  have hF19 := (hF18.le (show _ ≤ 212 by decide)).sm (q := 211) (i := 17) (v := 110) (by decide)
  refine a_dupR dX11_init_120 ?_
  refine a_bipush (w := 18) dX11_init_121 (by decide) ?_
  refine a_bipush (w := 101) dX11_init_123 (by decide) ?_
  refine a_iast (N := 107) dX11_init_125 (xkG (by decide) (L211 L)) (by decide) (by decide) (by decide) (by decide) ⟨by decide, by decide⟩ ?_
  have hF20 := (hF19.le (show _ ≤ 212 by decide)).sm (q := 211) (i := 18) (v := 101) (by decide)
  refine a_dupR dX11_init_126 ?_
  refine a_bipush (w := 19) dX11_init_127 (by decide) ?_
  refine a_bipush (w := 97) dX11_init_129 (by decide) ?_
  refine a_iast (N := 107) dX11_init_131 (xkG (by decide) (L211 L)) (by decide) (by decide) (by decide) (by decide) ⟨by decide, by decide⟩ ?_
  have hF21 := (hF20.le (show _ ≤ 212 by decide)).sm (q := 211) (i := 19) (v := 97) (by decide)
  refine a_dupR dX11_init_132 ?_
  refine a_bipush (w := 20) dX11_init_133 (by decide) ?_
  refine a_bipush (w := 114) dX11_init_135 (by decide) ?_
  refine a_iast (N := 107) dX11_init_137 (xkG (by decide) (L211 L)) (by decide) (by decide) (by decide) (by decide) ⟨by decide, by decide⟩ ?_
  have hF22 := (hF21.le (show _ ≤ 212 by decide)).sm (q := 211) (i := 20) (v := 114) (by decide)
  refine a_dupR dX11_init_138 ?_
  refine a_bipush (w := 21) dX11_init_139 (by decide) ?_
  refine a_bipush (w := 32) dX11_init_141 (by decide) ?_
  refine a_iast (N := 107) dX11_init_143 (xkG (by decide) (L211 L)) (by decide) (by decide) (by decide) (by decide) ⟨by decide, by decide⟩ ?_
  have hF23 := (hF22.le (show _ ≤ 212 by decide)).sm (q := 211) (i := 21) (v := 32) (by decide)
  refine a_dupR dX11_init_144 ?_
  refine a_bipush (w := 22) dX11_init_145 (by decide) ?_
  refine a_bipush (w := 111) dX11_init_147 (by decide) ?_
  refine a_iast (N := 107) dX11_init_149 (xkG (by decide) (L211 L)) (by decide) (by decide) (by decide) (by decide) ⟨by decide, by decide⟩ ?_
  have hF24 := (hF23.le (show _ ≤ 212 by decide)).sm (q := 211) (i := 22) (v := 111) (by decide)
  refine a_dupR dX11_init_150 ?_
  refine a_bipush (w := 23) dX11_init_151 (by decide) ?_
  refine a_bipush (w := 102) dX11_init_153 (by decide) ?_
  refine a_iast (N := 107) dX11_init_155 (xkG (by decide) (L211 L)) (by decide) (by decide) (by decide) (by decide) ⟨by decide, by decide⟩ ?_
  have hF25 := (hF24.le (show _ ≤ 212 by decide)).sm (q := 211) (i := 23) (v := 102) (by decide)
  refine a_dupR dX11_init_156 ?_
  refine a_bipush (w := 24) dX11_init_157 (by decide) ?_
  refine a_bipush (w := 116) dX11_init_159 (by decide) ?_
  refine a_iast (N := 107) dX11_init_161 (xkG (by decide) (L211 L)) (by decide) (by decide) (by decide) (by decide) ⟨by decide, by decide⟩ ?_
  have hF26 := (hF25.le (show _ ≤ 212 by decide)).sm (q := 211) (i := 24) (v := 116) (by decide)
  refine a_dupR dX11_init_162 ?_
  refine a_bipush (w := 25) dX11_init_163 (by decide) ?_
  refine a_bipush (w := 101) dX11_init_165 (by decide) ?_
  refine a_iast (N := 107) dX11_init_167 (xkG (by decide) (L211 L)) (by decide) (by decide) (by decide) (by decide) ⟨by decide, by decide⟩ ?_
  have hF27 := (hF26.le (show _ ≤ 212 by decide)).sm (q := 211) (i := 25) (v := 101) (by decide)
  refine a_dupR dX11_init_168 ?_
  refine a_bipush (w := 26) dX11_init_169 (by decide) ?_
  refine a_bipush (w := 110) dX11_init_171 (by decide) ?_
  refine a_iast (N := 107) dX11_init_173 (xkG (by decide) (L211 L)) (by decide) (by decide) (by decide) (by decide) ⟨by decide, by decide⟩ ?_
  have hF28 := (hF27.le (show _ ≤ 212 by decide)).sm (q := 211) (i := 26) (v := 110) (by decide)
  refine a_dupR dX11_init_174 ?_
  refine a_bipush (w := 27) dX11_init_175 (by decide) ?_
  refine a_bipush (w := 32) dX11_init_177 (by decide) ?_
  refine a_iast (N := 107) dX11_init_179 (xkG (by decide) (L211 L)) (by decide) (by decide) (by decide) (by decide) ⟨by decide, by decide⟩ ?_
  have hF29 := (hF28.le (show _ ≤ 212 by decide)).sm (q := 211) (i := 27) (v := 32) (by decide)
  refine a_dupR dX11_init_180 ?_
  refine a_bipush (w := 28) dX11_init_181 (by decide) ?_
  refine a_bipush (w := 102) dX11_init_183 (by decide) ?_
  refine a_iast (N := 107) dX11_init_185 (xkG (by decide) (L211 L)) (by decide) (by decide) (by decide) (by decide) ⟨by decide, by decide⟩ ?_
  have hF30 := (hF29.le (show _ ≤ 212 by decide)).sm (q := 211) (i := 28) (v := 102) (by decide)
  refine a_dupR dX11_init_186 ?_
  refine a_bipush (w := 29) dX11_init_187 (by decide) ?_
  refine a_bipush (w := 97) dX11_init_189 (by decide) ?_
  refine a_iast (N := 107) dX11_init_191 (xkG (by decide) (L211 L)) (by decide) (by decide) (by decide) (by decide) ⟨by decide, by decide⟩ ?_
  have hF31 := (hF30.le (show _ ≤ 212 by decide)).sm (q := 211) (i := 29) (v := 97) (by decide)
  refine a_dupR dX11_init_192 ?_
  refine a_bipush (w := 30) dX11_init_193 (by decide) ?_
  refine a_bipush (w := 100) dX11_init_195 (by decide) ?_
  refine a_iast (N := 107) dX11_init_197 (xkG (by decide) (L211 L)) (by decide) (by decide) (by decide) (by decide) ⟨by decide, by decide⟩ ?_
  have hF32 := (hF31.le (show _ ≤ 212 by decide)).sm (q := 211) (i := 30) (v := 100) (by decide)
  refine a_dupR dX11_init_198 ?_
  refine a_bipush (w := 31) dX11_init_199 (by decide) ?_
  refine a_bipush (w := 101) dX11_init_201 (by decide) ?_
  refine a_iast (N := 107) dX11_init_203 (xkG (by decide) (L211 L)) (by decide) (by decide) (by decide) (by decide) ⟨by decide, by decide⟩ ?_
  have hF33 := (hF32.le (show _ ≤ 212 by decide)).sm (q := 211) (i := 31) (v := 101) (by decide)
  refine a_dupR dX11_init_204 ?_
  refine a_bipush (w := 32) dX11_init_205 (by decide) ?_
  refine a_bipush (w := 32) dX11_init_207 (by decide) ?_
  refine a_iast (N := 107) dX11_init_209 (xkG (by decide) (L211 L)) (by decide) (by decide) (by decide) (by decide) ⟨by decide, by decide⟩ ?_
  have hF34 := (hF33.le (show _ ≤ 212 by decide)).sm (q := 211) (i := 32) (v := 32) (by decide)
  refine a_dupR dX11_init_210 ?_
  refine a_bipush (w := 33) dX11_init_211 (by decide) ?_
  refine a_bipush (w := 115) dX11_init_213 (by decide) ?_
  refine a_iast (N := 107) dX11_init_215 (xkG (by decide) (L211 L)) (by decide) (by decide) (by decide) (by decide) ⟨by decide, by decide⟩ ?_
  have hF35 := (hF34.le (show _ ≤ 212 by decide)).sm (q := 211) (i := 33) (v := 115) (by decide)
  refine a_dupR dX11_init_216 ?_
  refine a_bipush (w := 34) dX11_init_217 (by decide) ?_
  refine a_bipush (w := 101) dX11_init_219 (by decide) ?_
  refine a_iast (N := 107) dX11_init_221 (xkG (by decide) (L211 L)) (by decide) (by decide) (by decide) (by decide) ⟨by decide, by decide⟩ ?_
  have hF36 := (hF35.le (show _ ≤ 212 by decide)).sm (q := 211) (i := 34) (v := 101) (by decide)
  refine a_dupR dX11_init_222 ?_
  refine a_bipush (w := 35) dX11_init_223 (by decide) ?_
  refine a_bipush (w := 101) dX11_init_225 (by decide) ?_
  refine a_iast (N := 107) dX11_init_227 (xkG (by decide) (L211 L)) (by decide) (by decide) (by decide) (by decide) ⟨by decide, by decide⟩ ?_
  have hF37 := (hF36.le (show _ ≤ 212 by decide)).sm (q := 211) (i := 35) (v := 101) (by decide)
  refine a_dupR dX11_init_228 ?_
  refine a_bipush (w := 36) dX11_init_229 (by decide) ?_
  refine a_bipush (w := 100) dX11_init_231 (by decide) ?_
  refine a_iast (N := 107) dX11_init_233 (xkG (by decide) (L211 L)) (by decide) (by decide) (by decide) (by decide) ⟨by decide, by decide⟩ ?_
  have hF38 := (hF37.le (show _ ≤ 212 by decide)).sm (q := 211) (i := 36) (v := 100) (by decide)
  refine a_dupR dX11_init_234 ?_
  refine a_bipush (w := 37) dX11_init_235 (by decide) ?_
  refine a_bipush (w := 32) dX11_init_237 (by decide) ?_
  refine a_iast (N := 107) dX11_init_239 (xkG (by decide) (L211 L)) (by decide) (by decide) (by decide) (by decide) ⟨by decide, by decide⟩ ?_
  have hF39 := (hF38.le (show _ ≤ 212 by decide)).sm (q := 211) (i := 37) (v := 32) (by decide)
  refine a_dupR dX11_init_240 ?_
  refine a_bipush (w := 38) dX11_init_241 (by decide) ?_
  refine a_bipush (w := 108) dX11_init_243 (by decide) ?_
  refine a_iast (N := 107) dX11_init_245 (xkG (by decide) (L211 L)) (by decide) (by decide) (by decide) (by decide) ⟨by decide, by decide⟩ ?_
  have hF40 := (hF39.le (show _ ≤ 212 by decide)).sm (q := 211) (i := 38) (v := 108) (by decide)
  refine a_dupR dX11_init_246 ?_
  refine a_bipush (w := 39) dX11_init_247 (by decide) ?_
  refine a_bipush (w := 97) dX11_init_249 (by decide) ?_
  refine a_iast (N := 107) dX11_init_251 (xkG (by decide) (L211 L)) (by decide) (by decide) (by decide) (by decide) ⟨by decide, by decide⟩ ?_
  have hF41 := (hF40.le (show _ ≤ 212 by decide)).sm (q := 211) (i := 39) (v := 97) (by decide)
  refine a_dupR dX11_init_252 ?_
  refine a_bipush (w := 40) dX11_init_253 (by decide) ?_
  refine a_bipush (w := 119) dX11_init_255 (by decide) ?_
  refine a_iast (N := 107) dX11_init_257 (xkG (by decide) (L211 L)) (by decide) (by decide) (by decide) (by decide) ⟨by decide, by decide⟩ ?_
  have hF42 := (hF41.le (show _ ≤ 212 by decide)).sm (q := 211) (i := 40) (v := 119) (by decide)
  refine a_dupR dX11_init_258 ?_
  refine a_bipush (w := 41) dX11_init_259 (by decide) ?_
  refine a_bipush (w := 32) dX11_init_261 (by decide) ?_
  refine a_iast (N := 107) dX11_init_263 (xkG (by decide) (L211 L)) (by decide) (by decide) (by decide) (by decide) ⟨by decide, by decide⟩ ?_
  have hF43 := (hF42.le (show _ ≤ 212 by decide)).sm (q := 211) (i := 41) (v := 32) (by decide)
  refine a_dupR dX11_init_264 ?_
  refine a_bipush (w := 42) dX11_init_265 (by decide) ?_
  refine a_bipush (w := 114) dX11_init_267 (by decide) ?_
  refine a_iast (N := 107) dX11_init_269 (xkG (by decide) (L211 L)) (by decide) (by decide) (by decide) (by decide) ⟨by decide, by decide⟩ ?_
  have hF44 := (hF43.le (show _ ≤ 212 by decide)).sm (q := 211) (i := 42) (v := 114) (by decide)
  refine a_dupR dX11_init_270 ?_
  refine a_bipush (w := 43) dX11_init_271 (by decide) ?_
  refine a_bipush (w := 101) dX11_init_273 (by decide) ?_
  refine a_iast (N := 107) dX11_init_275 (xkG (by decide) (L211 L)) (by decide) (by decide) (by decide) (by decide) ⟨by decide, by decide⟩ ?_
  have hF45 := (hF44.le (show _ ≤ 212 by decide)).sm (q := 211) (i := 43) (v := 101) (by decide)
  refine a_dupR dX11_init_276 ?_
  refine a_bipush (w := 44) dX11_init_277 (by decide) ?_
  refine a_bipush (w := 97) dX11_init_279 (by decide) ?_
  refine a_iast (N := 107) dX11_init_281 (xkG (by decide) (L211 L)) (by decide) (by decide) (by decide) (by decide) ⟨by decide, by decide⟩ ?_
  have hF46 := (hF45.le (show _ ≤ 212 by decide)).sm (q := 211) (i := 44) (v := 97) (by decide)
  refine a_dupR dX11_init_282 ?_
  refine a_bipush (w := 45) dX11_init_283 (by decide) ?_
  refine a_bipush (w := 99) dX11_init_285 (by decide) ?_
  refine a_iast (N := 107) dX11_init_287 (xkG (by decide) (L211 L)) (by decide) (by decide) (by decide) (by decide) ⟨by decide, by decide⟩ ?_
  have hF47 := (hF46.le (show _ ≤ 212 by decide)).sm (q := 211) (i := 45) (v := 99) (by decide)
  refine a_dupR dX11_init_288 ?_
  refine a_bipush (w := 46) dX11_init_289 (by decide) ?_
  refine a_bipush (w := 104) dX11_init_291 (by decide) ?_
  refine a_iast (N := 107) dX11_init_293 (xkG (by decide) (L211 L)) (by decide) (by decide) (by decide) (by decide) ⟨by decide, by decide⟩ ?_
  have hF48 := (hF47.le (show _ ≤ 212 by decide)).sm (q := 211) (i := 46) (v := 104) (by decide)
  refine a_dupR dX11_init_294 ?_
  refine a_bipush (w := 47) dX11_init_295 (by decide) ?_
  refine a_bipush (w := 32) dX11_init_297 (by decide) ?_
  refine a_iast (N := 107) dX11_init_299 (xkG (by decide) (L211 L)) (by decide) (by decide) (by decide) (by decide) ⟨by decide, by decide⟩ ?_
  have hF49 := (hF48.le (show _ ≤ 212 by decide)).sm (q := 211) (i := 47) (v := 32) (by decide)
  refine a_dupR dX11_init_300 ?_
  refine a_bipush (w := 48) dX11_init_301 (by decide) ?_
  refine a_bipush (w := 108) dX11_init_303 (by decide) ?_
  refine a_iast (N := 107) dX11_init_305 (xkG (by decide) (L211 L)) (by decide) (by decide) (by decide) (by decide) ⟨by decide, by decide⟩ ?_
  have hF50 := (hF49.le (show _ ≤ 212 by decide)).sm (q := 211) (i := 48) (v := 108) (by decide)
  refine a_dupR dX11_init_306 ?_
  refine a_bipush (w := 49) dX11_init_307 (by decide) ?_
  refine a_bipush (w := 101) dX11_init_309 (by decide) ?_
  refine a_iast (N := 107) dX11_init_311 (xkG (by decide) (L211 L)) (by decide) (by decide) (by decide) (by decide) ⟨by decide, by decide⟩ ?_
  have hF51 := (hF50.le (show _ ≤ 212 by decide)).sm (q := 211) (i := 49) (v := 101) (by decide)
  refine a_dupR dX11_init_312 ?_
  refine a_bipush (w := 50) dX11_init_313 (by decide) ?_
  refine a_bipush (w := 97) dX11_init_315 (by decide) ?_
  refine a_iast (N := 107) dX11_init_317 (xkG (by decide) (L211 L)) (by decide) (by decide) (by decide) (by decide) ⟨by decide, by decide⟩ ?_
  have hF52 := (hF51.le (show _ ≤ 212 by decide)).sm (q := 211) (i := 50) (v := 97) (by decide)
  refine a_dupR dX11_init_318 ?_
  refine a_bipush (w := 51) dX11_init_319 (by decide) ?_
  refine a_bipush (w := 114) dX11_init_321 (by decide) ?_
  refine a_iast (N := 107) dX11_init_323 (xkG (by decide) (L211 L)) (by decide) (by decide) (by decide) (by decide) ⟨by decide, by decide⟩ ?_
  have hF53 := (hF52.le (show _ ≤ 212 by decide)).sm (q := 211) (i := 51) (v := 114) (by decide)
  refine a_dupR dX11_init_324 ?_
  refine a_bipush (w := 52) dX11_init_325 (by decide) ?_
  refine a_bipush (w := 110) dX11_init_327 (by decide) ?_
  refine a_iast (N := 107) dX11_init_329 (xkG (by decide) (L211 L)) (by decide) (by decide) (by decide) (by decide) ⟨by decide, by decide⟩ ?_
  have hF54 := (hF53.le (show _ ≤ 212 by decide)).sm (q := 211) (i := 52) (v := 110) (by decide)
  refine a_dupR dX11_init_330 ?_
  refine a_bipush (w := 53) dX11_init_331 (by decide) ?_
  refine a_bipush (w := 32) dX11_init_333 (by decide) ?_
  refine a_iast (N := 107) dX11_init_335 (xkG (by decide) (L211 L)) (by decide) (by decide) (by decide) (by decide) ⟨by decide, by decide⟩ ?_
  have hF55 := (hF54.le (show _ ≤ 212 by decide)).sm (q := 211) (i := 53) (v := 32) (by decide)
  refine a_dupR dX11_init_336 ?_
  refine a_bipush (w := 54) dX11_init_337 (by decide) ?_
  refine a_bipush (w := 100) dX11_init_339 (by decide) ?_
  refine a_iast (N := 107) dX11_init_341 (xkG (by decide) (L211 L)) (by decide) (by decide) (by decide) (by decide) ⟨by decide, by decide⟩ ?_
  have hF56 := (hF55.le (show _ ≤ 212 by decide)).sm (q := 211) (i := 54) (v := 100) (by decide)
  refine a_dupR dX11_init_342 ?_
  refine a_bipush (w := 55) dX11_init_343 (by decide) ?_
  refine a_bipush (w := 114) dX11_init_345 (by decide) ?_
  refine a_iast (N := 107) dX11_init_347 (xkG (by decide) (L211 L)) (by decide) (by decide) (by decide) (by decide) ⟨by decide, by decide⟩ ?_
  have hF57 := (hF56.le (show _ ≤ 212 by decide)).sm (q := 211) (i := 55) (v := 114) (by decide)
  refine a_dupR dX11_init_348 ?_
  refine a_bipush (w := 56) dX11_init_349 (by decide) ?_
  refine a_bipush (w := 105) dX11_init_351 (by decide) ?_
  refine a_iast (N := 107) dX11_init_353 (xkG (by decide) (L211 L)) (by decide) (by decide) (by decide) (by decide) ⟨by decide, by decide⟩ ?_
  have hF58 := (hF57.le (show _ ≤ 212 by decide)).sm (q := 211) (i := 56) (v := 105) (by decide)
  refine a_dupR dX11_init_354 ?_
  refine a_bipush (w := 57) dX11_init_355 (by decide) ?_
  refine a_bipush (w := 102) dX11_init_357 (by decide) ?_
  refine a_iast (N := 107) dX11_init_359 (xkG (by decide) (L211 L)) (by decide) (by decide) (by decide) (by decide) ⟨by decide, by decide⟩ ?_
  have hF59 := (hF58.le (show _ ≤ 212 by decide)).sm (q := 211) (i := 57) (v := 102) (by decide)
  refine a_dupR dX11_init_360 ?_
  refine a_bipush (w := 58) dX11_init_361 (by decide) ?_
  refine a_bipush (w := 116) dX11_init_363 (by decide) ?_
  refine a_iast (N := 107) dX11_init_365 (xkG (by decide) (L211 L)) (by decide) (by decide) (by decide) (by decide) ⟨by decide, by decide⟩ ?_
  have hF60 := (hF59.le (show _ ≤ 212 by decide)).sm (q := 211) (i := 58) (v := 116) (by decide)
  refine a_dupR dX11_init_366 ?_
  refine a_bipush (w := 59) dX11_init_367 (by decide) ?_
  refine a_bipush (w := 32) dX11_init_369 (by decide) ?_
  refine a_iast (N := 107) dX11_init_371 (xkG (by decide) (L211 L)) (by decide) (by decide) (by decide) (by decide) ⟨by decide, by decide⟩ ?_
  have hF61 := (hF60.le (show _ ≤ 212 by decide)).sm (q := 211) (i := 59) (v := 32) (by decide)
  refine a_dupR dX11_init_372 ?_
  refine a_bipush (w := 60) dX11_init_373 (by decide) ?_
  refine a_bipush (w := 97) dX11_init_375 (by decide) ?_
  refine a_iast (N := 107) dX11_init_377 (xkG (by decide) (L211 L)) (by decide) (by decide) (by decide) (by decide) ⟨by decide, by decide⟩ ?_
  have hF62 := (hF61.le (show _ ≤ 212 by decide)).sm (q := 211) (i := 60) (v := 97) (by decide)
  refine a_dupR dX11_init_378 ?_
  refine a_bipush (w := 61) dX11_init_379 (by decide) ?_
  refine a_bipush (w := 110) dX11_init_381 (by decide) ?_
  refine a_iast (N := 107) dX11_init_383 (xkG (by decide) (L211 L)) (by decide) (by decide) (by decide) (by decide) ⟨by decide, by decide⟩ ?_
  have hF63 := (hF62.le (show _ ≤ 212 by decide)).sm (q := 211) (i := 61) (v := 110) (by decide)
  refine a_dupR dX11_init_384 ?_
  refine a_bipush (w := 62) dX11_init_385 (by decide) ?_
  refine a_bipush (w := 100) dX11_init_387 (by decide) ?_
  refine a_iast (N := 107) dX11_init_389 (xkG (by decide) (L211 L)) (by decide) (by decide) (by decide) (by decide) ⟨by decide, by decide⟩ ?_
  have hF64 := (hF63.le (show _ ≤ 212 by decide)).sm (q := 211) (i := 62) (v := 100) (by decide)
  refine a_dupR dX11_init_390 ?_
  refine a_bipush (w := 63) dX11_init_391 (by decide) ?_
  refine a_bipush (w := 32) dX11_init_393 (by decide) ?_
  refine a_iast (N := 107) dX11_init_395 (xkG (by decide) (L211 L)) (by decide) (by decide) (by decide) (by decide) ⟨by decide, by decide⟩ ?_
  have hF65 := (hF64.le (show _ ≤ 212 by decide)).sm (q := 211) (i := 63) (v := 32) (by decide)
  refine a_dupR dX11_init_396 ?_
  refine a_bipush (w := 64) dX11_init_397 (by decide) ?_
  refine a_bipush (w := 111) dX11_init_399 (by decide) ?_
  refine a_iast (N := 107) dX11_init_401 (xkG (by decide) (L211 L)) (by decide) (by decide) (by decide) (by decide) ⟨by decide, by decide⟩ ?_
  have hF66 := (hF65.le (show _ ≤ 212 by decide)).sm (q := 211) (i := 64) (v := 111) (by decide)
  refine a_dupR dX11_init_402 ?_
  refine a_bipush (w := 65) dX11_init_403 (by decide) ?_
  refine a_bipush (w := 114) dX11_init_405 (by decide) ?_
  refine a_iast (N := 107) dX11_init_407 (xkG (by decide) (L211 L)) (by decide) (by decide) (by decide) (by decide) ⟨by decide, by decide⟩ ?_
  have hF67 := (hF66.le (show _ ≤ 212 by decide)).sm (q := 211) (i := 65) (v := 114) (by decide)
  refine a_dupR dX11_init_408 ?_
  refine a_bipush (w := 66) dX11_init_409 (by decide) ?_
  refine a_bipush (w := 32) dX11_init_411 (by decide) ?_
  refine a_iast (N := 107) dX11_init_413 (xkG (by decide) (L211 L)) (by decide) (by decide) (by decide) (by decide) ⟨by decide, by decide⟩ ?_
  have hF68 := (hF67.le (show _ ≤ 212 by decide)).sm (q := 211) (i := 66) (v := 32) (by decide)
  refine a_dupR dX11_init_414 ?_
  refine a_bipush (w := 67) dX11_init_415 (by decide) ?_
  refine a_bipush (w := 110) dX11_init_417 (by decide) ?_
  refine a_iast (N := 107) dX11_init_419 (xkG (by decide) (L211 L)) (by decide) (by decide) (by decide) (by decide) ⟨by decide, by decide⟩ ?_
  have hF69 := (hF68.le (show _ ≤ 212 by decide)).sm (q := 211) (i := 67) (v := 110) (by decide)
  refine a_dupR dX11_init_420 ?_
  refine a_bipush (w := 68) dX11_init_421 (by decide) ?_
  refine a_bipush (w := 111) dX11_init_423 (by decide) ?_
  refine a_iast (N := 107) dX11_init_425 (xkG (by decide) (L211 L)) (by decide) (by decide) (by decide) (by decide) ⟨by decide, by decide⟩ ?_
  have hF70 := (hF69.le (show _ ≤ 212 by decide)).sm (q := 211) (i := 68) (v := 111) (by decide)
  refine a_dupR dX11_init_426 ?_
  refine a_bipush (w := 69) dX11_init_427 (by decide) ?_
  refine a_bipush (w := 116) dX11_init_429 (by decide) ?_
  refine a_iast (N := 107) dX11_init_431 (xkG (by decide) (L211 L)) (by decide) (by decide) (by decide) (by decide) ⟨by decide, by decide⟩ ?_
  have hF71 := (hF70.le (show _ ≤ 212 by decide)).sm (q := 211) (i := 69) (v := 116) (by decide)
  refine a_dupR dX11_init_432 ?_
  refine a_bipush (w := 70) dX11_init_433 (by decide) ?_
  refine a_bipush (w := 32) dX11_init_435 (by decide) ?_
  refine a_iast (N := 107) dX11_init_437 (xkG (by decide) (L211 L)) (by decide) (by decide) (by decide) (by decide) ⟨by decide, by decide⟩ ?_
  have hF72 := (hF71.le (show _ ≤ 212 by decide)).sm (q := 211) (i := 70) (v := 32) (by decide)
  refine a_dupR dX11_init_438 ?_
  refine a_bipush (w := 71) dX11_init_439 (by decide) ?_
  refine a_bipush (w := 100) dX11_init_441 (by decide) ?_
  refine a_iast (N := 107) dX11_init_443 (xkG (by decide) (L211 L)) (by decide) (by decide) (by decide) (by decide) ⟨by decide, by decide⟩ ?_
  have hF73 := (hF72.le (show _ ≤ 212 by decide)).sm (q := 211) (i := 71) (v := 100) (by decide)
  refine a_dupR dX11_init_444 ?_
  refine a_bipush (w := 72) dX11_init_445 (by decide) ?_
  refine a_bipush (w := 105) dX11_init_447 (by decide) ?_
  refine a_iast (N := 107) dX11_init_449 (xkG (by decide) (L211 L)) (by decide) (by decide) (by decide) (by decide) ⟨by decide, by decide⟩ ?_
  have hF74 := (hF73.le (show _ ≤ 212 by decide)).sm (q := 211) (i := 72) (v := 105) (by decide)
  refine a_dupR dX11_init_450 ?_
  refine a_bipush (w := 73) dX11_init_451 (by decide) ?_
  refine a_bipush (w := 97) dX11_init_453 (by decide) ?_
  refine a_iast (N := 107) dX11_init_455 (xkG (by decide) (L211 L)) (by decide) (by decide) (by decide) (by decide) ⟨by decide, by decide⟩ ?_
  have hF75 := (hF74.le (show _ ≤ 212 by decide)).sm (q := 211) (i := 73) (v := 97) (by decide)
  refine a_dupR dX11_init_456 ?_
  refine a_bipush (w := 74) dX11_init_457 (by decide) ?_
  refine a_bipush (w := 108) dX11_init_459 (by decide) ?_
  refine a_iast (N := 107) dX11_init_461 (xkG (by decide) (L211 L)) (by decide) (by decide) (by decide) (by decide) ⟨by decide, by decide⟩ ?_
  have hF76 := (hF75.le (show _ ≤ 212 by decide)).sm (q := 211) (i := 74) (v := 108) (by decide)
  refine a_dupR dX11_init_462 ?_
  refine a_bipush (w := 75) dX11_init_463 (by decide) ?_
  refine a_bipush (w := 32) dX11_init_465 (by decide) ?_
  refine a_iast (N := 107) dX11_init_467 (xkG (by decide) (L211 L)) (by decide) (by decide) (by decide) (by decide) ⟨by decide, by decide⟩ ?_
  have hF77 := (hF76.le (show _ ≤ 212 by decide)).sm (q := 211) (i := 75) (v := 32) (by decide)
  refine a_dupR dX11_init_468 ?_
  refine a_bipush (w := 76) dX11_init_469 (by decide) ?_
  refine a_bipush (w := 103) dX11_init_471 (by decide) ?_
  refine a_iast (N := 107) dX11_init_473 (xkG (by decide) (L211 L)) (by decide) (by decide) (by decide) (by decide) ⟨by decide, by decide⟩ ?_
  have hF78 := (hF77.le (show _ ≤ 212 by decide)).sm (q := 211) (i := 76) (v := 103) (by decide)
  refine a_dupR dX11_init_474 ?_
  refine a_bipush (w := 77) dX11_init_475 (by decide) ?_
  refine a_bipush (w := 97) dX11_init_477 (by decide) ?_
  refine a_iast (N := 107) dX11_init_479 (xkG (by decide) (L211 L)) (by decide) (by decide) (by decide) (by decide) ⟨by decide, by decide⟩ ?_
  have hF79 := (hF78.le (show _ ≤ 212 by decide)).sm (q := 211) (i := 77) (v := 97) (by decide)
  refine a_dupR dX11_init_480 ?_
  refine a_bipush (w := 78) dX11_init_481 (by decide) ?_
  refine a_bipush (w := 105) dX11_init_483 (by decide) ?_
  refine a_iast (N := 107) dX11_init_485 (xkG (by decide) (L211 L)) (by decide) (by decide) (by decide) (by decide) ⟨by decide, by decide⟩ ?_
  have hF80 := (hF79.le (show _ ≤ 212 by decide)).sm (q := 211) (i := 78) (v := 105) (by decide)
  refine a_dupR dX11_init_486 ?_
  refine a_bipush (w := 79) dX11_init_487 (by decide) ?_
  refine a_bipush (w := 110) dX11_init_489 (by decide) ?_
  refine a_iast (N := 107) dX11_init_491 (xkG (by decide) (L211 L)) (by decide) (by decide) (by decide) (by decide) ⟨by decide, by decide⟩ ?_
  have hF81 := (hF80.le (show _ ≤ 212 by decide)).sm (q := 211) (i := 79) (v := 110) (by decide)
  refine a_dupR dX11_init_492 ?_
  refine a_bipush (w := 80) dX11_init_493 (by decide) ?_
  refine a_bipush (w := 32) dX11_init_495 (by decide) ?_
  refine a_iast (N := 107) dX11_init_497 (xkG (by decide) (L211 L)) (by decide) (by decide) (by decide) (by decide) ⟨by decide, by decide⟩ ?_
  have hF82 := (hF81.le (show _ ≤ 212 by decide)).sm (q := 211) (i := 80) (v := 32) (by decide)
  refine a_dupR dX11_init_498 ?_
  refine a_bipush (w := 81) dX11_init_499 (by decide) ?_
  refine a_bipush (w := 102) dX11_init_501 (by decide) ?_
  refine a_iast (N := 107) dX11_init_503 (xkG (by decide) (L211 L)) (by decide) (by decide) (by decide) (by decide) ⟨by decide, by decide⟩ ?_
  have hF83 := (hF82.le (show _ ≤ 212 by decide)).sm (q := 211) (i := 81) (v := 102) (by decide)
  refine a_dupR dX11_init_504 ?_
  refine a_bipush (w := 82) dX11_init_505 (by decide) ?_
  refine a_bipush (w := 97) dX11_init_507 (by decide) ?_
  refine a_iast (N := 107) dX11_init_509 (xkG (by decide) (L211 L)) (by decide) (by decide) (by decide) (by decide) ⟨by decide, by decide⟩ ?_
  have hF84 := (hF83.le (show _ ≤ 212 by decide)).sm (q := 211) (i := 82) (v := 97) (by decide)
  refine a_dupR dX11_init_510 ?_
  refine a_bipush (w := 83) dX11_init_511 (by decide) ?_
  refine a_bipush (w := 114) dX11_init_513 (by decide) ?_
  refine a_iast (N := 107) dX11_init_515 (xkG (by decide) (L211 L)) (by decide) (by decide) (by decide) (by decide) ⟨by decide, by decide⟩ ?_
  have hF85 := (hF84.le (show _ ≤ 212 by decide)).sm (q := 211) (i := 83) (v := 114) (by decide)
  refine a_dupR dX11_init_516 ?_
  refine a_bipush (w := 84) dX11_init_517 (by decide) ?_
  refine a_bipush (w := 32) dX11_init_519 (by decide) ?_
  refine a_iast (N := 107) dX11_init_521 (xkG (by decide) (L211 L)) (by decide) (by decide) (by decide) (by decide) ⟨by decide, by decide⟩ ?_
  have hF86 := (hF85.le (show _ ≤ 212 by decide)).sm (q := 211) (i := 84) (v := 32) (by decide)
  refine a_dupR dX11_init_522 ?_
  refine a_bipush (w := 85) dX11_init_523 (by decide) ?_
  refine a_bipush (w := 107) dX11_init_525 (by decide) ?_
  refine a_iast (N := 107) dX11_init_527 (xkG (by decide) (L211 L)) (by decide) (by decide) (by decide) (by decide) ⟨by decide, by decide⟩ ?_
  have hF87 := (hF86.le (show _ ≤ 212 by decide)).sm (q := 211) (i := 85) (v := 107) (by decide)
  refine a_dupR dX11_init_528 ?_
  refine a_bipush (w := 86) dX11_init_529 (by decide) ?_
  refine a_bipush (w := 105) dX11_init_531 (by decide) ?_
  refine a_iast (N := 107) dX11_init_533 (xkG (by decide) (L211 L)) (by decide) (by decide) (by decide) (by decide) ⟨by decide, by decide⟩ ?_
  have hF88 := (hF87.le (show _ ≤ 212 by decide)).sm (q := 211) (i := 86) (v := 105) (by decide)
  refine a_dupR dX11_init_534 ?_
  refine a_bipush (w := 87) dX11_init_535 (by decide) ?_
  refine a_bipush (w := 110) dX11_init_537 (by decide) ?_
  refine a_iast (N := 107) dX11_init_539 (xkG (by decide) (L211 L)) (by decide) (by decide) (by decide) (by decide) ⟨by decide, by decide⟩ ?_
  have hF89 := (hF88.le (show _ ≤ 212 by decide)).sm (q := 211) (i := 87) (v := 110) (by decide)
  refine a_dupR dX11_init_540 ?_
  refine a_bipush (w := 88) dX11_init_541 (by decide) ?_
  refine a_bipush (w := 100) dX11_init_543 (by decide) ?_
  refine a_iast (N := 107) dX11_init_545 (xkG (by decide) (L211 L)) (by decide) (by decide) (by decide) (by decide) ⟨by decide, by decide⟩ ?_
  have hF90 := (hF89.le (show _ ≤ 212 by decide)).sm (q := 211) (i := 88) (v := 100) (by decide)
  refine a_dupR dX11_init_546 ?_
  refine a_bipush (w := 89) dX11_init_547 (by decide) ?_
  refine a_bipush (w := 32) dX11_init_549 (by decide) ?_
  refine a_iast (N := 107) dX11_init_551 (xkG (by decide) (L211 L)) (by decide) (by decide) (by decide) (by decide) ⟨by decide, by decide⟩ ?_
  have hF91 := (hF90.le (show _ ≤ 212 by decide)).sm (q := 211) (i := 89) (v := 32) (by decide)
  refine a_dupR dX11_init_552 ?_
  refine a_bipush (w := 90) dX11_init_553 (by decide) ?_
  refine a_bipush (w := 104) dX11_init_555 (by decide) ?_
  refine a_iast (N := 107) dX11_init_557 (xkG (by decide) (L211 L)) (by decide) (by decide) (by decide) (by decide) ⟨by decide, by decide⟩ ?_
  have hF92 := (hF91.le (show _ ≤ 212 by decide)).sm (q := 211) (i := 90) (v := 104) (by decide)
  refine a_dupR dX11_init_558 ?_
  refine a_bipush (w := 91) dX11_init_559 (by decide) ?_
  refine a_bipush (w := 101) dX11_init_561 (by decide) ?_
  refine a_iast (N := 107) dX11_init_563 (xkG (by decide) (L211 L)) (by decide) (by decide) (by decide) (by decide) ⟨by decide, by decide⟩ ?_
  have hF93 := (hF92.le (show _ ≤ 212 by decide)).sm (q := 211) (i := 91) (v := 101) (by decide)
  refine a_dupR dX11_init_564 ?_
  refine a_bipush (w := 92) dX11_init_565 (by decide) ?_
  refine a_bipush (w := 97) dX11_init_567 (by decide) ?_
  refine a_iast (N := 107) dX11_init_569 (xkG (by decide) (L211 L)) (by decide) (by decide) (by decide) (by decide) ⟨by decide, by decide⟩ ?_
  have hF94 := (hF93.le (show _ ≤ 212 by decide)).sm (q := 211) (i := 92) (v := 97) (by decide)
  refine a_dupR dX11_init_570 ?_
  refine a_bipush (w := 93) dX11_init_571 (by decide) ?_
  refine a_bipush (w := 114) dX11_init_573 (by decide) ?_
  refine a_iast (N := 107) dX11_init_575 (xkG (by decide) (L211 L)) (by decide) (by decide) (by decide) (by decide) ⟨by decide, by decide⟩ ?_
  have hF95 := (hF94.le (show _ ≤ 212 by decide)).sm (q := 211) (i := 93) (v := 114) (by decide)
  refine a_dupR dX11_init_576 ?_
  refine a_bipush (w := 94) dX11_init_577 (by decide) ?_
  refine a_bipush (w := 100) dX11_init_579 (by decide) ?_
  refine a_iast (N := 107) dX11_init_581 (xkG (by decide) (L211 L)) (by decide) (by decide) (by decide) (by decide) ⟨by decide, by decide⟩ ?_
  have hF96 := (hF95.le (show _ ≤ 212 by decide)).sm (q := 211) (i := 94) (v := 100) (by decide)
  refine a_dupR dX11_init_582 ?_
  refine a_bipush (w := 95) dX11_init_583 (by decide) ?_
  refine a_bipush (w := 32) dX11_init_585 (by decide) ?_
  refine a_iast (N := 107) dX11_init_587 (xkG (by decide) (L211 L)) (by decide) (by decide) (by decide) (by decide) ⟨by decide, by decide⟩ ?_
  have hF97 := (hF96.le (show _ ≤ 212 by decide)).sm (q := 211) (i := 95) (v := 32) (by decide)
  refine a_dupR dX11_init_588 ?_
  refine a_bipush (w := 96) dX11_init_589 (by decide) ?_
  refine a_bipush (w := 107) dX11_init_591 (by decide) ?_
  refine a_iast (N := 107) dX11_init_593 (xkG (by decide) (L211 L)) (by decide) (by decide) (by decide) (by decide) ⟨by decide, by decide⟩ ?_
  have hF98 := (hF97.le (show _ ≤ 212 by decide)).sm (q := 211) (i := 96) (v := 107) (by decide)
  refine a_dupR dX11_init_594 ?_
  refine a_bipush (w := 97) dX11_init_595 (by decide) ?_
  refine a_bipush (w := 110) dX11_init_597 (by decide) ?_
  refine a_iast (N := 107) dX11_init_599 (xkG (by decide) (L211 L)) (by decide) (by decide) (by decide) (by decide) ⟨by decide, by decide⟩ ?_
  have hF99 := (hF98.le (show _ ≤ 212 by decide)).sm (q := 211) (i := 97) (v := 110) (by decide)
  refine a_dupR dX11_init_600 ?_
  refine a_bipush (w := 98) dX11_init_601 (by decide) ?_
  refine a_bipush (w := 111) dX11_init_603 (by decide) ?_
  refine a_iast (N := 107) dX11_init_605 (xkG (by decide) (L211 L)) (by decide) (by decide) (by decide) (by decide) ⟨by decide, by decide⟩ ?_
  have hF100 := (hF99.le (show _ ≤ 212 by decide)).sm (q := 211) (i := 98) (v := 111) (by decide)
  refine a_dupR dX11_init_606 ?_
  refine a_bipush (w := 99) dX11_init_607 (by decide) ?_
  refine a_bipush (w := 119) dX11_init_609 (by decide) ?_
  refine a_iast (N := 107) dX11_init_611 (xkG (by decide) (L211 L)) (by decide) (by decide) (by decide) (by decide) ⟨by decide, by decide⟩ ?_
  have hF101 := (hF100.le (show _ ≤ 212 by decide)).sm (q := 211) (i := 99) (v := 119) (by decide)
  refine a_dupR dX11_init_612 ?_
  refine a_bipush (w := 100) dX11_init_613 (by decide) ?_
  refine a_bipush (w := 115) dX11_init_615 (by decide) ?_
  refine a_iast (N := 107) dX11_init_617 (xkG (by decide) (L211 L)) (by decide) (by decide) (by decide) (by decide) ⟨by decide, by decide⟩ ?_
  have hF102 := (hF101.le (show _ ≤ 212 by decide)).sm (q := 211) (i := 100) (v := 115) (by decide)
  refine a_dupR dX11_init_618 ?_
  refine a_bipush (w := 101) dX11_init_619 (by decide) ?_
  refine a_bipush (w := 32) dX11_init_621 (by decide) ?_
  refine a_iast (N := 107) dX11_init_623 (xkG (by decide) (L211 L)) (by decide) (by decide) (by decide) (by decide) ⟨by decide, by decide⟩ ?_
  have hF103 := (hF102.le (show _ ≤ 212 by decide)).sm (q := 211) (i := 101) (v := 32) (by decide)
  refine a_dupR dX11_init_624 ?_
  refine a_bipush (w := 102) dX11_init_625 (by decide) ?_
  refine a_bipush (w := 104) dX11_init_627 (by decide) ?_
  refine a_iast (N := 107) dX11_init_629 (xkG (by decide) (L211 L)) (by decide) (by decide) (by decide) (by decide) ⟨by decide, by decide⟩ ?_
  have hF104 := (hF103.le (show _ ≤ 212 by decide)).sm (q := 211) (i := 102) (v := 104) (by decide)
  refine a_dupR dX11_init_630 ?_
  refine a_bipush (w := 103) dX11_init_631 (by decide) ?_
  refine a_bipush (w := 111) dX11_init_633 (by decide) ?_
  refine a_iast (N := 107) dX11_init_635 (xkG (by decide) (L211 L)) (by decide) (by decide) (by decide) (by decide) ⟨by decide, by decide⟩ ?_
  have hF105 := (hF104.le (show _ ≤ 212 by decide)).sm (q := 211) (i := 103) (v := 111) (by decide)
  refine a_dupR dX11_init_636 ?_
  refine a_bipush (w := 104) dX11_init_637 (by decide) ?_
  refine a_bipush (w := 117) dX11_init_639 (by decide) ?_
  refine a_iast (N := 107) dX11_init_641 (xkG (by decide) (L211 L)) (by decide) (by decide) (by decide) (by decide) ⟨by decide, by decide⟩ ?_
  have hF106 := (hF105.le (show _ ≤ 212 by decide)).sm (q := 211) (i := 104) (v := 117) (by decide)
  refine a_dupR dX11_init_642 ?_
  refine a_bipush (w := 105) dX11_init_643 (by decide) ?_
  refine a_bipush (w := 114) dX11_init_645 (by decide) ?_
  refine a_iast (N := 107) dX11_init_647 (xkG (by decide) (L211 L)) (by decide) (by decide) (by decide) (by decide) ⟨by decide, by decide⟩ ?_
  have hF107 := (hF106.le (show _ ≤ 212 by decide)).sm (q := 211) (i := 105) (v := 114) (by decide)
  refine a_dupR dX11_init_648 ?_
  refine a_bipush (w := 106) dX11_init_649 (by decide) ?_
  refine a_bipush (w := 32) dX11_init_651 (by decide) ?_
  refine a_iast (N := 107) dX11_init_653 (xkG (by decide) (L211 L)) (by decide) (by decide) (by decide) (by decide) ⟨by decide, by decide⟩ ?_
  have hF108 := (hF107.le (show _ ≤ 212 by decide)).sm (q := 211) (i := 106) (v := 32) (by decide)
  refine a_putFR (dcl := "") (j' := 3) (y := 211) dX11_init_654 flX11_13 rfl rfl (xkG (by decide) (L209 L)) (by decide) rfl rfl ?_
  have hF109 := (hF108.le (show _ ≤ 212 by decide)).sp (q := 209) (i := 3) (v := some 211) (by decide)
  refine a_aloadn dX11_init_657 rfl ?_
  refine a_iconst dX11_init_658 ?_
  refine a_putI (j' := 5) dX11_init_659 flX11_16 rfl rfl (xkG (by decide) (L209 L)) (by decide) rfl ⟨by decide, by decide⟩ ?_
  have hF110 := (hF109.le (show _ ≤ 212 by decide)).sm (q := 209) (i := 5) (v := -1) (by decide)
  refine a_aloadn dX11_init_662 rfl ?_
  refine a_iconst dX11_init_663 ?_
  refine a_newa (t := 1) (N := 4) (lay' := (LAY L).take 213) dX11_init_664 acl_1 (Or.inr (Or.inl ⟨rfl, rfl⟩)) rfl (by decide) (xkL (by decide)) (by decide) (fun i => (hF110 212 (by decide)).1 i) (fun i => (hF110 212 (by decide)).2 i) (xkS (L212 L)) ⟨Nat.le_of_ble_eq_true rfl, Nat.le_of_ble_eq_true rfl⟩ ?_
  refine a_putFR (dcl := "") (j' := 20) (y := 212) dX11_init_666 flX11_20 rfl rfl (xkG (by decide) (L209 L)) (by decide) rfl rfl ?_
  have hF111 := (hF110.le (show _ ≤ 213 by decide)).sp (q := 209) (i := 20) (v := some 212) (by decide)
  refine a_aloadn dX11_init_669 rfl ?_
  refine a_bipush (w := 8) dX11_init_670 (by decide) ?_
  refine a_newa (t := 0) (N := 8) (lay' := (LAY L).take 214) dX11_init_672 acl_0 (Or.inl ⟨rfl, rfl⟩) rfl (by decide) (xkL (by decide)) (by decide) (fun i => (hF111 213 (by decide)).1 i) (fun i => (hF111 213 (by decide)).2 i) (xkS (L213 L)) ⟨Nat.le_of_ble_eq_true rfl, Nat.le_of_ble_eq_true rfl⟩ ?_
  refine a_putFR (dcl := "") (j' := 21) (y := 213) dX11_init_674 flX11_24 rfl rfl (xkG (by decide) (L209 L)) (by decide) rfl rfl ?_
  have hF112 := (hF111.le (show _ ≤ 214 by decide)).sp (q := 209) (i := 21) (v := some 213) (by decide)
  refine a_aloadn dX11_init_677 rfl ?_
  refine a_bipush (w := 12) dX11_init_678 (by decide) ?_
  refine a_newa (t := 0) (N := 12) (lay' := (LAY L).take 215) dX11_init_680 acl_0 (Or.inl ⟨rfl, rfl⟩) rfl (by decide) (xkL (by decide)) (by decide) (fun i => (hF112 214 (by decide)).1 i) (fun i => (hF112 214 (by decide)).2 i) (xkS (L214 L)) ⟨Nat.le_of_ble_eq_true rfl, Nat.le_of_ble_eq_true rfl⟩ ?_
  refine a_putFR (dcl := "") (j' := 22) (y := 214) dX11_init_682 flX11_27 rfl rfl (xkG (by decide) (L209 L)) (by decide) rfl rfl ?_
  have hF113 := (hF112.le (show _ ≤ 215 by decide)).sp (q := 209) (i := 22) (v := some 214) (by decide)
  refine a_aloadn dX11_init_685 rfl ?_
  refine a_bipush (w := 12) dX11_init_686 (by decide) ?_
  refine a_newa (t := 0) (N := 12) (lay' := (LAY L).take 216) dX11_init_688 acl_0 (Or.inl ⟨rfl, rfl⟩) rfl (by decide) (xkL (by decide)) (by decide) (fun i => (hF113 215 (by decide)).1 i) (fun i => (hF113 215 (by decide)).2 i) (xkS (L215 L)) ⟨Nat.le_of_ble_eq_true rfl, Nat.le_of_ble_eq_true rfl⟩ ?_
  refine a_putFR (dcl := "") (j' := 23) (y := 215) dX11_init_690 flX11_30 rfl rfl (xkG (by decide) (L209 L)) (by decide) rfl rfl ?_
  have hF114 := (hF113.le (show _ ≤ 216 by decide)).sp (q := 209) (i := 23) (v := some 215) (by decide)
  refine a_aloadn dX11_init_693 rfl ?_
  refine a_bipush (w := 12) dX11_init_694 (by decide) ?_
  refine a_newa (t := 0) (N := 12) (lay' := (LAY L).take 217) dX11_init_696 acl_0 (Or.inl ⟨rfl, rfl⟩) rfl (by decide) (xkL (by decide)) (by decide) (fun i => (hF114 216 (by decide)).1 i) (fun i => (hF114 216 (by decide)).2 i) (xkS (L216 L)) ⟨Nat.le_of_ble_eq_true rfl, Nat.le_of_ble_eq_true rfl⟩ ?_
  refine a_putFR (dcl := "") (j' := 24) (y := 216) dX11_init_698 flX11_33 rfl rfl (xkG (by decide) (L209 L)) (by decide) rfl rfl ?_
  have hF115 := (hF114.le (show _ ≤ 217 by decide)).sp (q := 209) (i := 24) (v := some 216) (by decide)
  refine a_aloadn dX11_init_701 rfl ?_
  refine a_bipush (w := 20) dX11_init_702 (by decide) ?_
  refine a_newa (t := 0) (N := 20) (lay' := (LAY L).take 218) dX11_init_704 acl_0 (Or.inl ⟨rfl, rfl⟩) rfl (by decide) (xkL (by decide)) (by decide) (fun i => (hF115 217 (by decide)).1 i) (fun i => (hF115 217 (by decide)).2 i) (xkS (L217 L)) ⟨Nat.le_of_ble_eq_true rfl, Nat.le_of_ble_eq_true rfl⟩ ?_
  refine a_putFR (dcl := "") (j' := 25) (y := 217) dX11_init_706 flX11_36 rfl rfl (xkG (by decide) (L209 L)) (by decide) rfl rfl ?_
  have hF116 := (hF115.le (show _ ≤ 218 by decide)).sp (q := 209) (i := 25) (v := some 217) (by decide)
  refine a_aloadn dX11_init_709 rfl ?_
  refine a_bipush (w := 20) dX11_init_710 (by decide) ?_
  refine a_newa (t := 0) (N := 20) (lay' := (LAY L).take 219) dX11_init_712 acl_0 (Or.inl ⟨rfl, rfl⟩) rfl (by decide) (xkL (by decide)) (by decide) (fun i => (hF116 218 (by decide)).1 i) (fun i => (hF116 218 (by decide)).2 i) (xkS (L218 L)) ⟨Nat.le_of_ble_eq_true rfl, Nat.le_of_ble_eq_true rfl⟩ ?_
  refine a_putFR (dcl := "") (j' := 26) (y := 218) dX11_init_714 flX11_39 rfl rfl (xkG (by decide) (L209 L)) (by decide) rfl rfl ?_
  have hF117 := (hF116.le (show _ ≤ 219 by decide)).sp (q := 209) (i := 26) (v := some 218) (by decide)
  refine a_aloadn dX11_init_717 rfl ?_
  refine a_bipush (w := 20) dX11_init_718 (by decide) ?_
  refine a_newa (t := 0) (N := 20) (lay' := (LAY L).take 220) dX11_init_720 acl_0 (Or.inl ⟨rfl, rfl⟩) rfl (by decide) (xkL (by decide)) (by decide) (fun i => (hF117 219 (by decide)).1 i) (fun i => (hF117 219 (by decide)).2 i) (xkS (L219 L)) ⟨Nat.le_of_ble_eq_true rfl, Nat.le_of_ble_eq_true rfl⟩ ?_
  refine a_putFR (dcl := "") (j' := 27) (y := 219) dX11_init_722 flX11_42 rfl rfl (xkG (by decide) (L209 L)) (by decide) rfl rfl ?_
  have hF118 := (hF117.le (show _ ≤ 220 by decide)).sp (q := 209) (i := 27) (v := some 219) (by decide)
  refine a_aloadn dX11_init_725 rfl ?_
  refine a_bipush (w := 24) dX11_init_726 (by decide) ?_
  refine a_newa (t := 0) (N := 24) (lay' := (LAY L).take 221) dX11_init_728 acl_0 (Or.inl ⟨rfl, rfl⟩) rfl (by decide) (xkL (by decide)) (by decide) (fun i => (hF118 220 (by decide)).1 i) (fun i => (hF118 220 (by decide)).2 i) (xkS (L220 L)) ⟨Nat.le_of_ble_eq_true rfl, Nat.le_of_ble_eq_true rfl⟩ ?_
  refine a_putFR (dcl := "") (j' := 28) (y := 220) dX11_init_730 flX11_45 rfl rfl (xkG (by decide) (L209 L)) (by decide) rfl rfl ?_
  have hF119 := (hF118.le (show _ ≤ 221 by decide)).sp (q := 209) (i := 28) (v := some 220) (by decide)
  refine a_aloadn dX11_init_733 rfl ?_
  refine a_bipush (w := 24) dX11_init_734 (by decide) ?_
  refine a_newa (t := 0) (N := 24) (lay' := (LAY L).take 222) dX11_init_736 acl_0 (Or.inl ⟨rfl, rfl⟩) rfl (by decide) (xkL (by decide)) (by decide) (fun i => (hF119 221 (by decide)).1 i) (fun i => (hF119 221 (by decide)).2 i) (xkS (L221 L)) ⟨Nat.le_of_ble_eq_true rfl, Nat.le_of_ble_eq_true rfl⟩ ?_
  refine a_putFR (dcl := "") (j' := 29) (y := 221) dX11_init_738 flX11_48 rfl rfl (xkG (by decide) (L209 L)) (by decide) rfl rfl ?_
  have hF120 := (hF119.le (show _ ≤ 222 by decide)).sp (q := 209) (i := 29) (v := some 221) (by decide)
  refine a_aloadn dX11_init_741 rfl ?_
  refine a_bipush (w := 24) dX11_init_742 (by decide) ?_
  refine a_newa (t := 0) (N := 24) (lay' := (LAY L).take 223) dX11_init_744 acl_0 (Or.inl ⟨rfl, rfl⟩) rfl (by decide) (xkL (by decide)) (by decide) (fun i => (hF120 222 (by decide)).1 i) (fun i => (hF120 222 (by decide)).2 i) (xkS (L222 L)) ⟨Nat.le_of_ble_eq_true rfl, Nat.le_of_ble_eq_true rfl⟩ ?_
  refine a_putFR (dcl := "") (j' := 30) (y := 222) dX11_init_746 flX11_51 rfl rfl (xkG (by decide) (L209 L)) (by decide) rfl rfl ?_
  have hF121 := (hF120.le (show _ ≤ 223 by decide)).sp (q := 209) (i := 30) (v := some 222) (by decide)
  refine a_aloadn dX11_init_749 rfl ?_
  refine a_bipush (w := 6) dX11_init_750 (by decide) ?_
  refine a_newa (t := 1) (N := 6) (lay' := (LAY L).take 224) dX11_init_752 acl_1 (Or.inr (Or.inl ⟨rfl, rfl⟩)) rfl (by decide) (xkL (by decide)) (by decide) (fun i => (hF121 223 (by decide)).1 i) (fun i => (hF121 223 (by decide)).2 i) (xkS (L223 L)) ⟨Nat.le_of_ble_eq_true rfl, Nat.le_of_ble_eq_true rfl⟩ ?_
  refine a_putFR (dcl := "") (j' := 31) (y := 223) dX11_init_754 flX11_54 rfl rfl (xkG (by decide) (L209 L)) (by decide) rfl rfl ?_
  have hF122 := (hF121.le (show _ ≤ 224 by decide)).sp (q := 209) (i := 31) (v := some 223) (by decide)
  refine a_aloadn dX11_init_757 rfl ?_
  refine a_bipush (w := 6) dX11_init_758 (by decide) ?_
  refine a_newa (t := 0) (N := 6) (lay' := (LAY L).take 225) dX11_init_760 acl_0 (Or.inl ⟨rfl, rfl⟩) rfl (by decide) (xkL (by decide)) (by decide) (fun i => (hF122 224 (by decide)).1 i) (fun i => (hF122 224 (by decide)).2 i) (xkS (L224 L)) ⟨Nat.le_of_ble_eq_true rfl, Nat.le_of_ble_eq_true rfl⟩ ?_
  refine a_putFR (dcl := "") (j' := 32) (y := 224) dX11_init_762 flX11_57 rfl rfl (xkG (by decide) (L209 L)) (by decide) rfl rfl ?_
  have hF123 := (hF122.le (show _ ≤ 225 by decide)).sp (q := 209) (i := 32) (v := some 224) (by decide)
  refine a_aloadn dX11_init_765 rfl ?_
  refine a_bipush (w := 6) dX11_init_766 (by decide) ?_
  refine a_newa (t := 0) (N := 6) (lay' := (LAY L).take 226) dX11_init_768 acl_0 (Or.inl ⟨rfl, rfl⟩) rfl (by decide) (xkL (by decide)) (by decide) (fun i => (hF123 225 (by decide)).1 i) (fun i => (hF123 225 (by decide)).2 i) (xkS (L225 L)) ⟨Nat.le_of_ble_eq_true rfl, Nat.le_of_ble_eq_true rfl⟩ ?_
  refine a_putFR (dcl := "") (j' := 33) (y := 225) dX11_init_770 flX11_60 rfl rfl (xkG (by decide) (L209 L)) (by decide) rfl rfl ?_
  have hF124 := (hF123.le (show _ ≤ 226 by decide)).sp (q := 209) (i := 33) (v := some 225) (by decide)
  refine a_aloadn dX11_init_773 rfl ?_
  refine a_sipush (w := 128) dX11_init_774 (by decide) ?_
  refine a_newa (t := 0) (N := 128) (lay' := (LAY L).take 227) dX11_init_777 acl_0 (Or.inl ⟨rfl, rfl⟩) rfl (by decide) (xkL (by decide)) (by decide) (fun i => (hF124 226 (by decide)).1 i) (fun i => (hF124 226 (by decide)).2 i) (xkS (L226 L)) ⟨Nat.le_of_ble_eq_true rfl, Nat.le_of_ble_eq_true rfl⟩ ?_
  refine a_putFR (dcl := "") (j' := 34) (y := 226) dX11_init_779 flX11_63 rfl rfl (xkG (by decide) (L209 L)) (by decide) rfl rfl ?_
  have hF125 := (hF124.le (show _ ≤ 227 by decide)).sp (q := 209) (i := 34) (v := some 226) (by decide)
  refine a_aloadn dX11_init_782 rfl ?_
  refine a_sipush (w := 128) dX11_init_783 (by decide) ?_
  refine a_newa (t := 0) (N := 128) (lay' := (LAY L).take 228) dX11_init_786 acl_0 (Or.inl ⟨rfl, rfl⟩) rfl (by decide) (xkL (by decide)) (by decide) (fun i => (hF125 227 (by decide)).1 i) (fun i => (hF125 227 (by decide)).2 i) (xkS (L227 L)) ⟨Nat.le_of_ble_eq_true rfl, Nat.le_of_ble_eq_true rfl⟩ ?_
  refine a_putFR (dcl := "") (j' := 35) (y := 227) dX11_init_788 flX11_66 rfl rfl (xkG (by decide) (L209 L)) (by decide) rfl rfl ?_
  have hF126 := (hF125.le (show _ ≤ 228 by decide)).sp (q := 209) (i := 35) (v := some 227) (by decide)
  refine a_aloadn dX11_init_791 rfl ?_
  refine a_sipush (w := 128) dX11_init_792 (by decide) ?_
  refine a_newa (t := 0) (N := 128) (lay' := (LAY L).take 229) dX11_init_795 acl_0 (Or.inl ⟨rfl, rfl⟩) rfl (by decide) (xkL (by decide)) (by decide) (fun i => (hF126 228 (by decide)).1 i) (fun i => (hF126 228 (by decide)).2 i) (xkS (L228 L)) ⟨Nat.le_of_ble_eq_true rfl, Nat.le_of_ble_eq_true rfl⟩ ?_
  refine a_putFR (dcl := "") (j' := 36) (y := 228) dX11_init_797 flX11_69 rfl rfl (xkG (by decide) (L209 L)) (by decide) rfl rfl ?_
  have hF127 := (hF126.le (show _ ≤ 229 by decide)).sp (q := 209) (i := 36) (v := some 228) (by decide)
  refine a_aloadn dX11_init_800 rfl ?_
  refine a_bipush (w := 96) dX11_init_801 (by decide) ?_
  refine a_newa (t := 0) (N := 96) (lay' := (LAY L).take 230) dX11_init_803 acl_0 (Or.inl ⟨rfl, rfl⟩) rfl (by decide) (xkL (by decide)) (by decide) (fun i => (hF127 229 (by decide)).1 i) (fun i => (hF127 229 (by decide)).2 i) (xkS (L229 L)) ⟨Nat.le_of_ble_eq_true rfl, Nat.le_of_ble_eq_true rfl⟩ ?_
  refine a_putFR (dcl := "") (j' := 37) (y := 229) dX11_init_805 flX11_72 rfl rfl (xkG (by decide) (L209 L)) (by decide) rfl rfl ?_
  have hF128 := (hF127.le (show _ ≤ 230 by decide)).sp (q := 209) (i := 37) (v := some 229) (by decide)
  refine a_aloadn dX11_init_808 rfl ?_
  refine a_bipush (w := 96) dX11_init_809 (by decide) ?_
  refine a_newa (t := 0) (N := 96) (lay' := (LAY L).take 231) dX11_init_811 acl_0 (Or.inl ⟨rfl, rfl⟩) rfl (by decide) (xkL (by decide)) (by decide) (fun i => (hF128 230 (by decide)).1 i) (fun i => (hF128 230 (by decide)).2 i) (xkS (L230 L)) ⟨Nat.le_of_ble_eq_true rfl, Nat.le_of_ble_eq_true rfl⟩ ?_
  refine a_putFR (dcl := "") (j' := 38) (y := 230) dX11_init_813 flX11_75 rfl rfl (xkG (by decide) (L209 L)) (by decide) rfl rfl ?_
  have hF129 := (hF128.le (show _ ≤ 231 by decide)).sp (q := 209) (i := 38) (v := some 230) (by decide)
  refine a_aloadn dX11_init_816 rfl ?_
  refine a_bipush (w := 7) dX11_init_817 (by decide) ?_
  refine a_newa (t := 2) (N := 7) (lay' := (LAY L).take 232) dX11_init_819 acl_2 (Or.inr (Or.inr ⟨rfl, rfl⟩)) rfl (by decide) (xkL (by decide)) (by decide) (fun i => (hF129 231 (by decide)).1 i) (fun i => (hF129 231 (by decide)).2 i) (xkS (L231 L)) ⟨Nat.le_of_ble_eq_true rfl, Nat.le_of_ble_eq_true rfl⟩ ?_
  refine a_putFR (dcl := "") (j' := 45) (y := 231) dX11_init_821 flX11_78 rfl rfl (xkG (by decide) (L209 L)) (by decide) rfl rfl ?_
  have hF130 := (hF129.le (show _ ≤ 232 by decide)).sp (q := 209) (i := 45) (v := some 231) (by decide)
  refine a_aloadn dX11_init_824 rfl ?_
  refine a_bipush (w := 64) dX11_init_825 (by decide) ?_
  refine a_newa (t := 2) (N := 64) (lay' := (LAY L).take 233) dX11_init_827 acl_2 (Or.inr (Or.inr ⟨rfl, rfl⟩)) rfl (by decide) (xkL (by decide)) (by decide) (fun i => (hF130 232 (by decide)).1 i) (fun i => (hF130 232 (by decide)).2 i) (xkS (L232 L)) ⟨Nat.le_of_ble_eq_true rfl, Nat.le_of_ble_eq_true rfl⟩ ?_
  refine a_putFR (dcl := "") (j' := 46) (y := 232) dX11_init_829 flX11_82 rfl rfl (xkG (by decide) (L209 L)) (by decide) rfl rfl ?_
  have hF131 := (hF130.le (show _ ≤ 233 by decide)).sp (q := 209) (i := 46) (v := some 232) (by decide)
  refine a_aloadn dX11_init_832 rfl ?_
  refine a_bipush (w := 12) dX11_init_833 (by decide) ?_
  refine a_newa (t := 0) (N := 12) (lay' := (LAY L).take 234) dX11_init_835 acl_0 (Or.inl ⟨rfl, rfl⟩) rfl (by decide) (xkL (by decide)) (by decide) (fun i => (hF131 233 (by decide)).1 i) (fun i => (hF131 233 (by decide)).2 i) (xkS (L233 L)) ⟨Nat.le_of_ble_eq_true rfl, Nat.le_of_ble_eq_true rfl⟩ ?_
  refine a_putFR (dcl := "") (j' := 48) (y := 233) dX11_init_837 flX11_85 rfl rfl (xkG (by decide) (L209 L)) (by decide) rfl rfl ?_
  have hF132 := (hF131.le (show _ ≤ 234 by decide)).sp (q := 209) (i := 48) (v := some 233) (by decide)
  refine a_aloadn dX11_init_840 rfl ?_
  refine a_bipush (w := 12) dX11_init_841 (by decide) ?_
  refine a_newa (t := 0) (N := 12) (lay' := (LAY L).take 235) dX11_init_843 acl_0 (Or.inl ⟨rfl, rfl⟩) rfl (by decide) (xkL (by decide)) (by decide) (fun i => (hF132 234 (by decide)).1 i) (fun i => (hF132 234 (by decide)).2 i) (xkS (L234 L)) ⟨Nat.le_of_ble_eq_true rfl, Nat.le_of_ble_eq_true rfl⟩ ?_
  refine a_putFR (dcl := "") (j' := 49) (y := 234) dX11_init_845 flX11_88 rfl rfl (xkG (by decide) (L209 L)) (by decide) rfl rfl ?_
  have hF133 := (hF132.le (show _ ≤ 235 by decide)).sp (q := 209) (i := 49) (v := some 234) (by decide)
  refine a_aloadn dX11_init_848 rfl ?_
  refine a_bipush (w := 12) dX11_init_849 (by decide) ?_
  refine a_newa (t := 0) (N := 12) (lay' := (LAY L).take 236) dX11_init_851 acl_0 (Or.inl ⟨rfl, rfl⟩) rfl (by decide) (xkL (by decide)) (by decide) (fun i => (hF133 235 (by decide)).1 i) (fun i => (hF133 235 (by decide)).2 i) (xkS (L235 L)) ⟨Nat.le_of_ble_eq_true rfl, Nat.le_of_ble_eq_true rfl⟩ ?_
  refine a_putFR (dcl := "") (j' := 50) (y := 235) dX11_init_853 flX11_91 rfl rfl (xkG (by decide) (L209 L)) (by decide) rfl rfl ?_
  have hF134 := (hF133.le (show _ ≤ 236 by decide)).sp (q := 209) (i := 50) (v := some 235) (by decide)
  refine a_aloadn dX11_init_856 rfl ?_
  refine a_bipush (w := 72) dX11_init_857 (by decide) ?_
  refine a_newa (t := 0) (N := 72) (lay' := (LAY L).take 237) dX11_init_859 acl_0 (Or.inl ⟨rfl, rfl⟩) rfl (by decide) (xkL (by decide)) (by decide) (fun i => (hF134 236 (by decide)).1 i) (fun i => (hF134 236 (by decide)).2 i) (xkS (L236 L)) ⟨Nat.le_of_ble_eq_true rfl, Nat.le_of_ble_eq_true rfl⟩ ?_
  refine a_putFR (dcl := "") (j' := 51) (y := 236) dX11_init_861 flX11_94 rfl rfl (xkG (by decide) (L209 L)) (by decide) rfl rfl ?_
  have hF135 := (hF134.le (show _ ≤ 237 by decide)).sp (q := 209) (i := 51) (v := some 236) (by decide)
  refine a_aloadn dX11_init_864 rfl ?_
  refine a_bipush (w := 72) dX11_init_865 (by decide) ?_
  refine a_newa (t := 1) (N := 72) (lay' := (LAY L).take 238) dX11_init_867 acl_1 (Or.inr (Or.inl ⟨rfl, rfl⟩)) rfl (by decide) (xkL (by decide)) (by decide) (fun i => (hF135 237 (by decide)).1 i) (fun i => (hF135 237 (by decide)).2 i) (xkS (L237 L)) ⟨Nat.le_of_ble_eq_true rfl, Nat.le_of_ble_eq_true rfl⟩ ?_
  refine a_putFR (dcl := "") (j' := 52) (y := 237) dX11_init_869 flX11_97 rfl rfl (xkG (by decide) (L209 L)) (by decide) rfl rfl ?_
  have hF136 := (hF135.le (show _ ≤ 238 by decide)).sp (q := 209) (i := 52) (v := some 237) (by decide)
  refine a_aloadn dX11_init_872 rfl ?_
  refine a_iconst dX11_init_873 ?_
  refine a_newa (t := 0) (N := 2) (lay' := (LAY L).take 239) dX11_init_874 acl_0 (Or.inl ⟨rfl, rfl⟩) rfl (by decide) (xkL (by decide)) (by decide) (fun i => (hF136 238 (by decide)).1 i) (fun i => (hF136 238 (by decide)).2 i) (xkS (L238 L)) ⟨Nat.le_of_ble_eq_true rfl, Nat.le_of_ble_eq_true rfl⟩ ?_
  refine a_putFR (dcl := "") (j' := 53) (y := 238) dX11_init_876 flX11_100 rfl rfl (xkG (by decide) (L209 L)) (by decide) rfl rfl ?_
  have hF137 := (hF136.le (show _ ≤ 239 by decide)).sp (q := 209) (i := 53) (v := some 238) (by decide)
  refine a_aloadn dX11_init_879 rfl ?_
  refine a_iconst dX11_init_880 ?_
  refine a_putI (j' := 62) dX11_init_881 flX11_103 rfl rfl (xkG (by decide) (L209 L)) (by decide) rfl ⟨by decide, by decide⟩ ?_
  have hF138 := (hF137.le (show _ ≤ 239 by decide)).sm (q := 209) (i := 62) (v := -1) (by decide)
  refine a_aloadn dX11_init_884 rfl ?_
  refine a_bipush (w := 96) dX11_init_885 (by decide) ?_
  refine a_newa (t := 0) (N := 96) (lay' := (LAY L).take 240) dX11_init_887 acl_0 (Or.inl ⟨rfl, rfl⟩) rfl (by decide) (xkL (by decide)) (by decide) (fun i => (hF138 239 (by decide)).1 i) (fun i => (hF138 239 (by decide)).2 i) (xkS (L239 L)) ⟨Nat.le_of_ble_eq_true rfl, Nat.le_of_ble_eq_true rfl⟩ ?_
  refine a_putFR (dcl := "") (j' := 63) (y := 239) dX11_init_889 flX11_106 rfl rfl (xkG (by decide) (L209 L)) (by decide) rfl rfl ?_
  have hF139 := (hF138.le (show _ ≤ 240 by decide)).sp (q := 209) (i := 63) (v := some 239) (by decide)
  refine a_aloadn dX11_init_892 rfl ?_
  refine a_bipush (w := 24) dX11_init_893 (by decide) ?_
  refine a_newa (t := 1) (N := 24) (lay' := (LAY L).take 241) dX11_init_895 acl_1 (Or.inr (Or.inl ⟨rfl, rfl⟩)) rfl (by decide) (xkL (by decide)) (by decide) (fun i => (hF139 240 (by decide)).1 i) (fun i => (hF139 240 (by decide)).2 i) (xkS (L240 L)) ⟨Nat.le_of_ble_eq_true rfl, Nat.le_of_ble_eq_true rfl⟩ ?_
  refine a_putFR (dcl := "") (j' := 64) (y := 240) dX11_init_897 flX11_109 rfl rfl (xkG (by decide) (L209 L)) (by decide) rfl rfl ?_
  have hF140 := (hF139.le (show _ ≤ 241 by decide)).sp (q := 209) (i := 64) (v := some 240) (by decide)
  refine a_aloadn dX11_init_900 rfl ?_
  refine a_sipush (w := 1800) dX11_init_901 (by decide) ?_
  refine a_newa (t := 0) (N := 1800) (lay' := (LAY L).take 242) dX11_init_904 acl_0 (Or.inl ⟨rfl, rfl⟩) rfl (by decide) (xkL (by decide)) (by decide) (fun i => (hF140 241 (by decide)).1 i) (fun i => (hF140 241 (by decide)).2 i) (xkS (L241 L)) ⟨Nat.le_of_ble_eq_true rfl, Nat.le_of_ble_eq_true rfl⟩ ?_
  refine a_putFR (dcl := "") (j' := 66) (y := 241) dX11_init_906 flX11_112 rfl rfl (xkG (by decide) (L209 L)) (by decide) rfl rfl ?_
  have hF141 := (hF140.le (show _ ≤ 242 by decide)).sp (q := 209) (i := 66) (v := some 241) (by decide)
  refine a_aloadn dX11_init_909 rfl ?_
  refine a_bipush (w := 90) dX11_init_910 (by decide) ?_
  refine a_newa (t := 0) (N := 90) (lay' := (LAY L).take 243) dX11_init_912 acl_0 (Or.inl ⟨rfl, rfl⟩) rfl (by decide) (xkL (by decide)) (by decide) (fun i => (hF141 242 (by decide)).1 i) (fun i => (hF141 242 (by decide)).2 i) (xkS (L242 L)) ⟨Nat.le_of_ble_eq_true rfl, Nat.le_of_ble_eq_true rfl⟩ ?_
  refine a_putFR (dcl := "") (j' := 68) (y := 242) dX11_init_914 flX11_115 rfl rfl (xkG (by decide) (L209 L)) (by decide) rfl rfl ?_
  have hF142 := (hF141.le (show _ ≤ 243 by decide)).sp (q := 209) (i := 68) (v := some 242) (by decide)
  refine a_aloadn dX11_init_917 rfl ?_
  refine a_callVv (as := []) (q := 209) dX11_init_918 mvX11_118 ⟨by decide, by decide⟩ (xkG (by decide) (L209 L)) rfl rfl rfl (Nat.le_of_ble_eq_true rfl) ⟨rfl, rfl⟩ ⟨Nat.le_of_ble_eq_true rfl, Nat.le_of_ble_eq_true rfl⟩ (n_m_X11_plain (hY9 L) hP) ?_
  refine a_aloadn dX11_init_921 rfl ?_
  refine a_relVv (as := []) (q := 209) dX11_init_922 mvX11_121 ⟨by decide, by decide⟩ (xkG (by decide) (L209 L)) rfl rfl rfl (Nat.le_of_ble_eq_true rfl) ⟨rfl, rfl⟩ ⟨Nat.le_of_ble_eq_true rfl, Nat.le_of_ble_eq_true rfl⟩ (n_m_X11_keepText (hY9 L) hP) (fun M5 hM5 => ?_)
  exact a_widen (Nat.le_of_ble_eq_true rfl) (Nat.le_of_ble_eq_true rfl) (a_return dX11_init_925 rfl rfl rfl (zrel_V hM5))
end ZXB
