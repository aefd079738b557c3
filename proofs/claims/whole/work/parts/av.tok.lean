section ZTK
/-- a letter of the words, as the constructor reads it -/
def chr9 (i j : Int) : Int := if j < 5 then wl (i * 5 + j).toNat else 32
def stpL (c v : Int) : Int := b_ior (b_ishl v 5) (if c = 32 then 0 else c - 97 + 1)
def inF : Nat → Int → Int → Int → Int
  | 0, _, _, v => v
  | n + 1, i, j, v => inF n i (j + 1) (stpL (chr9 i j) v)
theorem stpL_r (c v : Int) : inR (stpL c v) := ⟨Int32.le_toInt _, Int32.toInt_lt _⟩
theorem inF_r : ∀ (n : Nat) (i j v : Int), inR v → inR (inF n i j v)
  | 0, _, _, _, h => h
  | n + 1, i, j, v, _ => inF_r n i (j + 1) _ (stpL_r _ _)
theorem wl_r : ∀ j, j < 105 → 0 ≤ wl j ∧ wl j ≤ 127 := by decide +kernel
theorem chr_r {i j : Int} (hi : 0 ≤ i ∧ i < 21) (hj : 0 ≤ j) : 0 ≤ chr9 i j ∧ chr9 i j ≤ 127 := by
  unfold chr9
  split
  · exact wl_r _ (by omega)
  · exact ⟨by decide, by decide⟩
theorem in_lng : ∀ i : Nat, i < 21 → inF 6 (i : Int) 0 0 = lngF (i : Int) := by decide +kernel
def lgM (i : Int) (M : zM) : zM := fun k j => if k = 44 ∧ 0 ≤ j ∧ j < i then lngF j else M k j
theorem lgM_0 {M : zM} : lgM 0 M = M := by
  funext k j; unfold lgM; rw [if_neg (by omega)]
theorem lgM_s {i : Int} {M : zM} (h0 : 0 ≤ i) : sm (lgM i M) 44 i (lngF i) = lgM (i + 1) M := by
  funext k j
  unfold sm ur us lgM
  by_cases e : k = 44
  · subst e
    rw [if_pos rfl]
    by_cases ej : j = i
    · subst ej; rw [if_pos rfl, if_pos ⟨rfl, by omega, by omega⟩]
    · rw [if_neg ej]
      by_cases c : 0 ≤ j ∧ j < i
      · rw [if_pos ⟨rfl, c.1, c.2⟩, if_pos ⟨rfl, by omega, by omega⟩]
      · rw [if_neg (by omega), if_neg (by omega)]
  · rw [if_neg e, if_neg (by omega), if_neg (by omega)]
abbrev mdX7_i : zMd := (RX7, "<init>", cX7_init, 5, none, { frames := 6, cells := 5, slots := 2124, locals := 384 })
abbrev mdX4_i : zMd := (RX4, "<init>", cX4_init, 2, none, { frames := 8, cells := 7, slots := 2208, locals := 512 })
theorem obX4_3 : Cond.methodLink RX4 3 Lib.objectInit ∈ zt := zmem (tm0 152 (by decide +kernel)) rfl
theorem obX7_3 : Cond.methodLink RX7 3 Lib.objectInit ∈ zt := zmem (tm0 158 (by decide +kernel)) rfl
theorem nwX4_9 : NW RX4 9 7 RX7 TX7 12 := ⟨clX7, zmem (tm0 153 (by decide +kernel)) rfl, zmem (tm0 154 (by decide +kernel)) rfl, zmem (tm0 5 (by decide +kernel)) rfl, rfl, by decide +kernel⟩
theorem miX4_11 : MI RX4 11 yX7_init mdX7_i 0 := ⟨⟨by decide, by decide, by decide +kernel⟩, rfl, rfl, zmem (tm0 155 (by decide +kernel)) rfl, zmem (tm0 156 (by decide +kernel)) rfl, zmem (tm0 5 (by decide +kernel)) rfl, zmem (tm0 157 (by decide +kernel)) rfl⟩
set_option maxRecDepth 100000 in
set_option maxHeartbeats 4000000 in
theorem a_chr {G : zG} {l : Launch} {Z : zZ} {lay : List zKd} {P : zP} {M : zM} {k n : Nat} {i j v : Int} {x4 : Option av} {sa va : Nat} (hX : ∀ U, G.2.2.2.2 U → XT G.2.2.2.1 sa va U) (hi : 0 ≤ i ∧ i < 21) (hj : 0 ≤ j ∧ j < 5) (hkn : k ≤ mdX7_i.2.2.2.2.2.cells ∧ n ≤ mdX7_i.2.2.2.2.2.slots) (kk : AW G l mdX7_i Z 79 [some (aR 43), some (aI i), some (aI v), some (aI j), x4] [aI (wl (i * 5 + j).toNat)] lay P M k n) : AW G l mdX7_i Z 69 [some (aR 43), some (aI i), some (aI v), some (aI j), x4] [] lay P M k n := by
  intro hG p e s m args below meth c H locs lsA hC hl hH hS
  have h := kk hG p e s m args below meth c H locs lsA hC hl hH hS
  have hx := hX s hC.2.2.2.2.2.2.2.1.2.2.2.2
  have e1 : lsA[1]? = some (.val (.int (Int32.ofInt i))) := zl_at hl (i := 1) (v := aI i) rfl
  have e3 : lsA[3]? = some (.val (.int (Int32.ofInt j))) := zl_at hl (i := 3) (v := aI j) rfl
  obtain ⟨t, ht⟩ : ∃ t : Nat, i * 5 + j = (t : Int) := ⟨(i * 5 + j).toNat, by omega⟩
  have htn : (i * 5 + j).toNat = t := by omega
  rw [htn] at h
  refine va_ldcS (own := RX7) (tx := sTX) hC.1 hC.2.1 hC.2.2.2.2.2.1 hx.1 dX7_init_69 ?_
  refine lv_iload_n hC.1 hC.2.1 dX7_init_71 rfl e1 ?_
  refine lv_iconst hC.1 hC.2.1 dX7_init_72 rfl ?_
  refine lv_imul hC.1 hC.2.1 dX7_init_73 ?_
  refine lv_iload_n hC.1 hC.2.1 dX7_init_74 rfl e3 ?_
  refine lv_iadd hC.1 hC.2.1 dX7_init_75 ?_
  rw [← Int32.ofInt_mul, ← Int32.ofInt_add, ht]
  exact s_V (As := [.int (Int32.ofInt (t : Int))]) (b := sa) hG hC hl.1 hH.1.2.2 dX7_init_76 mvX7_29 ⟨by decide, by decide⟩ (st_rc hx hH.1.2.2) rfl rfl ⟨rfl, rfl⟩ hkn (n_J0 hX (by omega)) h
set_option maxRecDepth 100000 in
set_option maxHeartbeats 4000000 in
theorem tk84 {G : zG} {l : Launch} {Z : zZ} {lay : List zKd} {P : zP} {M : zM} {k n : Nat} {i j v : Int} {x4 : Option av} {c : Int} (hc : 0 ≤ c ∧ c ≤ 127) (hj : 0 ≤ j ∧ j < 6) (kk : AW G l mdX7_i Z 58 [some (aR 43), some (aI i), some (aI (stpL c v)), some (aI (j + 1)), some (aI c)] [] lay P M k n) : AW G l mdX7_i Z 84 [some (aR 43), some (aI i), some (aI v), some (aI j), x4] [aI c] lay P M k n := by
  refine c_istore (ls' := [some (aR 43), some (aI i), some (aI v), some (aI j), some (aI c)]) dX7_init_84 (by decide) rfl rfl ?_
  refine a_iloadn dX7_init_86 rfl ?_
  refine a_iconst dX7_init_87 ?_
  refine a_ishl dX7_init_88 ?_
  refine a_iload dX7_init_89 rfl ?_
  refine a_bipush (w := 32) dX7_init_91 (by decide) ?_
  have kt : AW G l mdX7_i Z 107 [some (aR 43), some (aI i), some (aI v), some (aI j), some (aI c)] [aI (if c = 32 then 0 else c - 97 + 1), aI (b_ishl v 5)] lay P M k n := by
    refine a_ior dX7_init_107 ?_
    refine c_istoren (ls' := [some (aR 43), some (aI i), some (aI (stpL c v)), some (aI j), some (aI c)]) dX7_init_108 (by decide) rfl rfl ?_
    refine c_iinc (ls' := [some (aR 43), some (aI i), some (aI (stpL c v)), some (aI (j + 1)), some (aI c)]) dX7_init_109 rfl (by decide) rfl rfl ?_
    exact a_goto (tgt := 58) dX7_init_112 (by decide) kk
  refine a_icmp_ne (tgt := 100) dX7_init_93 (by decide) ⟨by omega, by omega⟩ ⟨by decide, by decide⟩ (fun q => ?_) (fun q => ?_)
  · rw [if_neg q] at kt
    refine a_iload dX7_init_100 rfl ?_
    refine a_bipush (w := 97) dX7_init_102 (by decide) ?_
    refine a_isub dX7_init_104 ?_
    refine a_iconst dX7_init_105 ?_
    refine a_iadd dX7_init_106 ?_
    exact kt
  · rw [if_pos (by first | exact q | omega)] at kt
    refine a_iconst dX7_init_96 ?_
    exact a_goto (tgt := 107) dX7_init_97 (by decide) kt
set_option maxRecDepth 100000 in
set_option maxHeartbeats 4000000 in
theorem lpX7_in {G : zG} {l : Launch} {Z : zZ} {lay : List zKd} {P : zP} {M : zM} {k n9 : Nat} {i : Int} {sa va : Nat} (hX : ∀ U, G.2.2.2.2 U → XT G.2.2.2.1 sa va U) (hi : 0 ≤ i ∧ i < 21) (hkn : k ≤ mdX7_i.2.2.2.2.2.cells ∧ n9 ≤ mdX7_i.2.2.2.2.2.slots) : ∀ (n : Nat) (j v : Int) (x4 : Option av), 0 ≤ j → j + n = 6 → (∀ (y3 y4 : Option av), AW G l mdX7_i Z 115 [some (aR 43), some (aI i), some (aI (inF n i j v)), y3, y4] [] lay P M k n9) → AW G l mdX7_i Z 58 [some (aR 43), some (aI i), some (aI v), some (aI j), x4] [] lay P M k n9 := by
  intro n
  induction n with
  | zero =>
    intro j v x4 j0 j1 kk
    refine a_iloadn dX7_init_58 rfl ?_
    refine a_bipush (w := 6) dX7_init_59 (by decide) ?_
    exact a_icmp_ge (tgt := 115) dX7_init_61 (by decide) ⟨by omega, by omega⟩ ⟨by decide, by decide⟩ (fun _ => kk _ _) (fun q => absurd (by omega) q)
  | succ n ih =>
    intro j v x4 j0 j1 kk
    refine a_iloadn dX7_init_58 rfl ?_
    refine a_bipush (w := 6) dX7_init_59 (by decide) ?_
    refine a_icmp_ge (tgt := 115) dX7_init_61 (by decide) ⟨by omega, by omega⟩ ⟨by decide, by decide⟩ (fun q => ?_) (fun _ => ?_)
    · exfalso; omega
    refine a_iloadn dX7_init_64 rfl ?_
    refine a_iconst dX7_init_65 ?_
    have nx : ∀ c : Int, c = chr9 i j → AW G l mdX7_i Z 84 [some (aR 43), some (aI i), some (aI v), some (aI j), x4] [aI c] lay P M k n9 := fun c hc => by
      have hr := chr_r (j := j) hi j0
      rw [← hc] at hr
      refine tk84 hr ⟨j0, by omega⟩ ?_
      refine ih (j + 1) (stpL c v) _ (by omega) (by omega) (fun y3 y4 => ?_)
      rw [hc]
      exact kk y3 y4
    refine a_icmp_ge (tgt := 82) dX7_init_66 (by decide) ⟨by omega, by omega⟩ ⟨by decide, by decide⟩ (fun q => ?_) (fun q => ?_)
    · refine a_bipush (w := 32) dX7_init_82 (by decide) ?_
      exact nx 32 (by unfold chr9; rw [if_neg (by omega)])
    · refine a_chr hX hi ⟨j0, by omega⟩ hkn ?_
      refine a_goto (tgt := 84) dX7_init_79 (by decide) ?_
      exact nx _ (by unfold chr9; rw [if_pos (by omega)])
set_option maxRecDepth 100000 in
set_option maxHeartbeats 4000000 in
theorem lpX7_out {G : zG} {l : Launch} {Z : zZ} {lay : List zKd} {P : zP} {M0 : zM} {k n9 : Nat} {sa va : Nat} (hX : ∀ U, G.2.2.2.2 U → XT G.2.2.2.1 sa va U) (hkn : k ≤ mdX7_i.2.2.2.2.2.cells ∧ n9 ≤ mdX7_i.2.2.2.2.2.slots) (h43 : lay[43]? = some (.inr 7)) (h44 : lay[44]? = some (.inl (0, 21))) (hp : P 43 0 = some 44) (kk : ∀ ls9 : List (Option av), AW G l mdX7_i Z 128 ls9 [] lay P (lgM 21 M0) k n9) : ∀ (n : Nat) (i : Int) (M : zM) (x2 x3 x4 : Option av), 0 ≤ i → i + n = 21 → M = lgM i M0 → (zL x2 = false ∧ zL x3 = false) → AW G l mdX7_i Z 48 [some (aR 43), some (aI i), x2, x3, x4] [] lay P M k n9 := by
  intro n
  induction n with
  | zero =>
    intro i M x2 x3 x4 i0 i1 hM hz
    refine a_iloadn dX7_init_48 rfl ?_
    refine a_bipush (w := 21) dX7_init_49 (by decide) ?_
    refine a_icmp_ge (tgt := 128) dX7_init_51 (by decide) ⟨by omega, by omega⟩ ⟨by decide, by decide⟩ (fun _ => ?_) (fun q => absurd (by omega) q)
    rw [hM, show i = 21 by omega]
    exact kk _
  | succ n ih =>
    intro i M x2 x3 x4 i0 i1 hM hz
    refine a_iloadn dX7_init_48 rfl ?_
    refine a_bipush (w := 21) dX7_init_49 (by decide) ?_
    refine a_icmp_ge (tgt := 128) dX7_init_51 (by decide) ⟨by omega, by omega⟩ ⟨by decide, by decide⟩ (fun q => ?_) (fun _ => ?_)
    · exfalso; omega
    refine a_iconst dX7_init_54 ?_
    refine c_istoren (ls' := [some (aR 43), some (aI i), some (aI 0), x3, x4]) dX7_init_55 (by decide) rfl rfl ?_
    refine a_iconst dX7_init_56 ?_
    refine c_istoren (ls' := [some (aR 43), some (aI i), some (aI 0), some (aI 0), x4]) dX7_init_57 (by decide) rfl rfl ?_
    refine lpX7_in hX ⟨i0, by omega⟩ hkn 6 0 0 x4 (by decide) (by decide) (fun y3 y4 => ?_)
    have er : inF 6 i 0 0 = lngF i := by
      obtain ⟨t, rfl⟩ : ∃ t : Nat, i = (t : Int) := ⟨i.toNat, by omega⟩
      exact in_lng t (by omega)
    have hr := inF_r 6 i 0 0 ⟨by decide, by decide⟩
    refine a_aloadn dX7_init_115 rfl ?_
    refine a_getR (j' := 0) (y := 44) dX7_init_116 flX7_11 rfl rfl h43 hp ?_
    refine a_iloadn dX7_init_119 rfl ?_
    refine a_iloadn dX7_init_120 rfl ?_
    refine a_iast (N := 21) dX7_init_121 h44 (by decide) (by decide) i0 (by omega) hr ?_
    refine a_forget [2, 3, 4] (ls' := [some (aR 43), some (aI i), none, none, none]) rfl ?_
    refine c_iinc (ls' := [some (aR 43), some (aI (i + 1)), none, none, none]) dX7_init_122 rfl (by decide) rfl rfl ?_
    refine a_goto (tgt := 48) dX7_init_125 (by decide) ?_
    refine ih (i + 1) _ none none none (by omega) (by omega) ?_ ⟨rfl, rfl⟩
    rw [hM, er]
    exact lgM_s i0
def pK (P : zP) : zP := sp (sp (sp (sp (sp P 43 0 (some 44)) 43 1 (some 45)) 43 2 (some 46)) 43 3 (some 47)) 43 6 (some 48)
set_option maxRecDepth 100000 in
set_option maxHeartbeats 4000000 in
theorem i_X7 {G : zG} {l : Launch} {L : Nat} {P : zP} {M : zM} {sa va : Nat} (hX : ∀ U, G.2.2.2.2 U → XT G.2.2.2.1 sa va U) (hF0 : FR M P 44) : AM G l yX7_init mdX7_i [aR 43] ((LAY L).take 44) P M (zdet none ((LAY L).take 49) (pK P) (lgM 21 M)) := by
  refine AM.go [some (aR 43), none, none, none, none] rfl (Nat.le_of_ble_eq_true rfl) ?_ (by decide) rfl rfl
  refine a_aloadn dX7_init_0 rfl ?_
  refine a_objI dX7_init_1 ⟨obX7_3, ob_i, ob_c⟩ (Nat.le_of_ble_eq_true rfl) ⟨by decide, by decide⟩ ?_
  refine a_aloadn dX7_init_4 rfl ?_
  refine a_bipush (w := 21) dX7_init_5 (by decide) ?_
  refine a_newa (t := 0) (N := 21) (lay' := (LAY L).take 45) dX7_init_7 acl_0 (Or.inl ⟨rfl, rfl⟩) rfl (by decide) (xkL (by decide)) (by decide) (fun i => (hF0 44 (by decide)).1 i) (fun i => (hF0 44 (by decide)).2 i) (xkS (L44 L)) ⟨Nat.le_of_ble_eq_true rfl, Nat.le_of_ble_eq_true rfl⟩ ?_
  refine a_putFR (dcl := "") (j' := 0) (y := 44) dX7_init_9 flX7_11 rfl rfl (xkG (by decide) (L43 L)) (by decide) rfl rfl ?_
  have hF1 := (hF0.le (show _ ≤ 45 by decide)).sp (q := 43) (i := 0) (v := some 44) (by decide)
  refine a_aloadn dX7_init_12 rfl ?_
  refine a_sipush (w := 701) dX7_init_13 (by decide) ?_
  refine a_newa (t := 0) (N := 701) (lay' := (LAY L).take 46) dX7_init_16 acl_0 (Or.inl ⟨rfl, rfl⟩) rfl (by decide) (xkL (by decide)) (by decide) (fun i => (hF1 45 (by decide)).1 i) (fun i => (hF1 45 (by decide)).2 i) (xkS (L45 L)) ⟨Nat.le_of_ble_eq_true rfl, Nat.le_of_ble_eq_true rfl⟩ ?_
  refine a_putFR (dcl := "") (j' := 1) (y := 45) dX7_init_18 flX7_15 rfl rfl (xkG (by decide) (L43 L)) (by decide) rfl rfl ?_
  have hF2 := (hF1.le (show _ ≤ 46 by decide)).sp (q := 43) (i := 1) (v := some 45) (by decide)
  refine a_aloadn dX7_init_21 rfl ?_
  refine a_sipush (w := 701) dX7_init_22 (by decide) ?_
  refine a_newa (t := 0) (N := 701) (lay' := (LAY L).take 47) dX7_init_25 acl_0 (Or.inl ⟨rfl, rfl⟩) rfl (by decide) (xkL (by decide)) (by decide) (fun i => (hF2 46 (by decide)).1 i) (fun i => (hF2 46 (by decide)).2 i) (xkS (L46 L)) ⟨Nat.le_of_ble_eq_true rfl, Nat.le_of_ble_eq_true rfl⟩ ?_
  refine a_putFR (dcl := "") (j' := 2) (y := 46) dX7_init_27 flX7_18 rfl rfl (xkG (by decide) (L43 L)) (by decide) rfl rfl ?_
  have hF3 := (hF2.le (show _ ≤ 47 by decide)).sp (q := 43) (i := 2) (v := some 46) (by decide)
  refine a_aloadn dX7_init_30 rfl ?_
  refine a_sipush (w := 701) dX7_init_31 (by decide) ?_
  refine a_newa (t := 0) (N := 701) (lay' := (LAY L).take 48) dX7_init_34 acl_0 (Or.inl ⟨rfl, rfl⟩) rfl (by decide) (xkL (by decide)) (by decide) (fun i => (hF3 47 (by decide)).1 i) (fun i => (hF3 47 (by decide)).2 i) (xkS (L47 L)) ⟨Nat.le_of_ble_eq_true rfl, Nat.le_of_ble_eq_true rfl⟩ ?_
  refine a_putFR (dcl := "") (j' := 3) (y := 47) dX7_init_36 flX7_21 rfl rfl (xkG (by decide) (L43 L)) (by decide) rfl rfl ?_
  have hF4 := (hF3.le (show _ ≤ 48 by decide)).sp (q := 43) (i := 3) (v := some 47) (by decide)
  refine a_aloadn dX7_init_39 rfl ?_
  refine a_iconst dX7_init_40 ?_
  refine a_newa (t := 0) (N := 0) (lay' := (LAY L).take 49) dX7_init_41 acl_0 (Or.inl ⟨rfl, rfl⟩) rfl (by decide) (xkL (by decide)) (by decide) (fun i => (hF4 48 (by decide)).1 i) (fun i => (hF4 48 (by decide)).2 i) (xkS (L48 L)) ⟨Nat.le_of_ble_eq_true rfl, Nat.le_of_ble_eq_true rfl⟩ ?_
  refine a_putR (j' := 6) (y := 48) dX7_init_43 flX7_24 rfl rfl (xkG (by decide) (L43 L)) (by decide) rfl ?_
  have hF5 := (hF4.le (show _ ≤ 49 by decide)).sp (q := 43) (i := 6) (v := some 48) (by decide)
  refine a_iconst dX7_init_46 ?_
  refine c_istoren (ls' := [some (aR 43), some (aI 0), none, none, none]) dX7_init_47 (by decide) rfl rfl ?_
  refine lpX7_out hX ⟨Nat.le_of_ble_eq_true rfl, Nat.le_of_ble_eq_true rfl⟩ (xkG (by decide) (L43 L)) (xkG (by decide) (L44 L)) rfl (fun ls9 => ?_) 21 0 M none none none (by decide) (by decide) lgM_0.symm ⟨rfl, rfl⟩
  exact a_widen (Nat.le_of_ble_eq_true rfl) (Nat.le_of_ble_eq_true rfl) (a_return dX7_init_128 rfl rfl rfl (zdet_V rfl))
theorem fr_K {M : zM} {P : zP} (h : FR M P 49) : FR (lgM 21 M) (pK P) 49 := by
  have h1 : FR M (pK P) 49 := (((((h.sp (by decide)).sp (by decide)).sp (by decide)).sp (by decide)).sp (by decide))
  intro k hk
  refine ⟨fun i => ?_, (h1 k hk).2⟩
  unfold lgM
  rw [if_neg (by omega)]
  exact (h1 k hk).1 i
def pR (P : zP) : zP := sp (sp (sp (sp (pK P) 42 0 (some 43)) 42 3 (some 49)) 42 1 (some 23)) 42 2 (some 36)
set_option maxRecDepth 100000 in
set_option maxHeartbeats 4000000 in
theorem i_X4 {G : zG} {l : Launch} {L : Nat} {P : zP} {M : zM} {sa va : Nat} (hX : ∀ U, G.2.2.2.2 U → XT G.2.2.2.1 sa va U) (h16 : P 23 16 = some 35) (h35 : P 35 0 = some 36) (hF0 : FR M P 43) : AM G l yX4_init mdX4_i [aR 42, aR 23] ((LAY L).take 43) P M (zdet none ((LAY L).take 50) (pR P) (sm (lgM 21 M) 42 7 (-1))) := by
  refine AM.go [some (aR 42), some (aR 23)] rfl (Nat.le_of_ble_eq_true rfl) ?_ (by decide) rfl rfl
  refine a_aloadn dX4_init_0 rfl ?_
  refine a_objI dX4_init_1 ⟨obX4_3, ob_i, ob_c⟩ (Nat.le_of_ble_eq_true rfl) ⟨by decide, by decide⟩ ?_
  refine a_aloadn dX4_init_4 rfl ?_
  refine a_new (N := 12) (lay' := (LAY L).take 44) dX4_init_5 nwX4_9 (xkL (by decide)) (by decide) (fun i => (hF0 43 (by decide)).1 i) (fun i => (hF0 43 (by decide)).2 i) (xkS (L43 L)) ⟨Nat.le_of_ble_eq_true rfl, Nat.le_of_ble_eq_true rfl⟩ ?_
  refine a_dupR dX4_init_8 ?_
  refine a_invI (as := []) (q := 43) (C := "") dX4_init_9 miX4_11 ⟨by decide, by decide⟩ rfl rfl (Nat.le_of_ble_eq_true rfl) ⟨Nat.le_of_ble_eq_true rfl, Nat.le_of_ble_eq_true rfl⟩ (i_X7 hX (hF0.le (by decide))) ?_
  rintro _ _ _ _ ⟨rfl, rfl, rfl, rfl⟩
  have hF1 : FR (lgM 21 M) (pK _) 49 := fr_K (hF0.le (by decide))
  refine a_putFR (dcl := "") (j' := 0) (y := 43) dX4_init_12 flX4_12 rfl rfl (xkG (by decide) (L42 L)) (by decide) rfl rfl ?_
  have hF2 := (hF1.le (show _ ≤ 49 by decide)).sp (q := 42) (i := 0) (v := some 43) (by decide)
  refine a_aloadn dX4_init_15 rfl ?_
  refine a_bipush (w := 72) dX4_init_16 (by decide) ?_
  refine a_newa (t := 0) (N := 72) (lay' := (LAY L).take 50) dX4_init_18 acl_0 (Or.inl ⟨rfl, rfl⟩) rfl (by decide) (xkL (by decide)) (by decide) (fun i => (hF2 49 (by decide)).1 i) (fun i => (hF2 49 (by decide)).2 i) (xkS (L49 L)) ⟨Nat.le_of_ble_eq_true rfl, Nat.le_of_ble_eq_true rfl⟩ ?_
  refine a_putFR (dcl := "") (j' := 3) (y := 49) dX4_init_20 flX4_18 rfl rfl (xkG (by decide) (L42 L)) (by decide) rfl rfl ?_
  have hF3 := (hF2.le (show _ ≤ 50 by decide)).sp (q := 42) (i := 3) (v := some 49) (by decide)
  refine a_aloadn dX4_init_23 rfl ?_
  refine a_iconst dX4_init_24 ?_
  refine a_putI (j' := 7) dX4_init_25 flX4_22 rfl rfl (xkG (by decide) (L42 L)) (by decide) rfl ⟨by decide, by decide⟩ ?_
  have hF4 := (hF3.le (show _ ≤ 50 by decide)).sm (q := 42) (i := 7) (v := -1) (by decide)
  refine a_aloadn dX4_init_28 rfl ?_
  refine a_aloadn dX4_init_29 rfl ?_
  refine a_putR (j' := 1) (y := 23) dX4_init_30 flX4_26 rfl rfl (xkG (by decide) (L42 L)) (by decide) rfl ?_
  have hF5 := (hF4.le (show _ ≤ 50 by decide)).sp (q := 42) (i := 1) (v := some 23) (by decide)
  refine a_aloadn dX4_init_33 rfl ?_
  refine a_aloadn dX4_init_34 rfl ?_
  refine a_getR (j' := 16) (y := 35) dX4_init_35 flX4_30 rfl rfl (xkG (by decide) (L23 L)) h16 ?_
  refine a_iconst dX4_init_38 ?_
  refine a_aald3 (N := 3) (y := 36) dX4_init_39 (xkG (by decide) (L35 L)) (by decide) (by decide) (by decide) h35 ?_
  refine a_putR (j' := 2) (y := 36) dX4_init_40 flX4_36 rfl rfl (xkG (by decide) (L42 L)) (by decide) rfl ?_
  have hF6 := (hF5.le (show _ ≤ 50 by decide)).sp (q := 42) (i := 2) (v := some 36) (by decide)
  exact a_widen (Nat.le_of_ble_eq_true rfl) (Nat.le_of_ble_eq_true rfl) (a_return dX4_init_43 rfl rfl rfl (zdet_V rfl))
end ZTK
