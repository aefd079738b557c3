section ZXA
def pH (P : zP) : zP := sp (sp (sp (sp P 51 0 (some 52)) 51 1 (some 53)) 50 6 (some 51)) 50 0 (some 4)
def pPl (P : zP) : zP := sp (sp (sp (sp (sp (sp (sp P 54 1 (some 55)) 54 2 (some 56)) 54 3 (some 57)) 54 4 (some 58)) 54 5 (some 59)) 54 7 (some 60)) 54 0 (some 50)
def pN (P : zP) : zP := sp (sp (sp (sp (sp (sp P 201 0 (some 202)) 201 1 (some 203)) 201 2 (some 204)) 201 3 (some 205)) 201 4 (some 206)) 201 5 (some 207)
def pU (P : zP) : zP := sp (pS (sp (pS (sp (pS (sp (pS (sp (pS (sp (pS (sp (pS (sp (pS (sp (pS (sp (pS (sp (pS (sp (pS (sp (pS (sp (pS (sp (pS (sp (pS (sp (pS (sp (pS (sp (pS (sp (pS (sp P 79 0 (some 80)) 81) 80 0 (some 81)) 87) 80 1 (some 87)) 93) 80 2 (some 93)) 99) 80 3 (some 99)) 105) 80 4 (some 105)) 111) 80 5 (some 111)) 117) 80 6 (some 117)) 123) 80 7 (some 123)) 129) 80 8 (some 129)) 135) 80 9 (some 135)) 141) 80 10 (some 141)) 147) 80 11 (some 147)) 153) 80 12 (some 153)) 159) 80 13 (some 159)) 165) 80 14 (some 165)) 171) 80 15 (some 171)) 177) 80 16 (some 177)) 183) 80 17 (some 183)) 189) 80 18 (some 189)) 195) 80 19 (some 195)
set_option maxRecDepth 100000 in
theorem FR.pH {M : zM} {P : zP} (h : FR M P 54) : FR M (pH P) 54 := ((((h.sp (by decide)).sp (by decide)).sp (by decide)).sp (by decide))
set_option maxRecDepth 100000 in
theorem FR.pPl {M : zM} {P : zP} (h : FR M P 61) : FR M (pPl P) 61 := (((((((h.sp (by decide)).sp (by decide)).sp (by decide)).sp (by decide)).sp (by decide)).sp (by decide)).sp (by decide))
set_option maxRecDepth 100000 in
theorem FR.pN {M : zM} {P : zP} (h : FR M P 208) : FR M (pN P) 208 := ((((((h.sp (by decide)).sp (by decide)).sp (by decide)).sp (by decide)).sp (by decide)).sp (by decide))
set_option maxRecDepth 100000 in
theorem FR.pU {M : zM} {P : zP} (h : FR M P 201) : FR M (pU P) 201 := (((((((((((((((((((((((((((((((((((((((((h.sp (by decide)).pS (by decide)).sp (by decide)).pS (by decide)).sp (by decide)).pS (by decide)).sp (by decide)).pS (by decide)).sp (by decide)).pS (by decide)).sp (by decide)).pS (by decide)).sp (by decide)).pS (by decide)).sp (by decide)).pS (by decide)).sp (by decide)).pS (by decide)).sp (by decide)).pS (by decide)).sp (by decide)).pS (by decide)).sp (by decide)).pS (by decide)).sp (by decide)).pS (by decide)).sp (by decide)).pS (by decide)).sp (by decide)).pS (by decide)).sp (by decide)).pS (by decide)).sp (by decide)).pS (by decide)).sp (by decide)).pS (by decide)).sp (by decide)).pS (by decide)).sp (by decide)).pS (by decide)).sp (by decide))
set_option maxRecDepth 100000 in
theorem FR.pT4 {M : zM} {P : zP} (h : FR M P 23) : FR M (pT4 P) 23 := ((((((((((((((((((h.sp (by decide)).sp (by decide)).sp (by decide)).sp (by decide)).sp (by decide)).sp (by decide)).sp (by decide)).sp (by decide)).sp (by decide)).sp (by decide)).sp (by decide)).sp (by decide)).pL (by decide)).sp (by decide)).pL (by decide)).sp (by decide)).pL (by decide)).sp (by decide))
set_option maxRecDepth 100000 in
theorem FR.pT23 {M : zM} {P : zP} (h : FR M P 42) : FR M (pT23 P) 42 := ((((((((((((((((((h.sp (by decide)).sp (by decide)).sp (by decide)).sp (by decide)).sp (by decide)).sp (by decide)).sp (by decide)).sp (by decide)).sp (by decide)).sp (by decide)).sp (by decide)).sp (by decide)).pL (by decide)).sp (by decide)).pL (by decide)).sp (by decide)).pL (by decide)).sp (by decide))
theorem FR.cl {M M1 : zM} {P : zP} {n t : Nat} (h : FR M P n) (hc : clT t M M1) (hn : t + 17 < n) : FR M1 P n := fun k hk => by
  rw [hc.2.2.2.2.2 k (by omega) (by omega) (by omega) (by omega) (by omega) (by omega)]; exact h k hk
theorem fr_rd {M : zM} {P : zP} (h : FR M P 50) : FR (sm (lgM 21 M) 42 7 (-1)) (pR P) 50 := by
  have h1 : FR M (pR P) 50 := (((((((((h.sp (by decide)).sp (by decide)).sp (by decide)).sp (by decide)).sp (by decide)).sp (by decide)).sp (by decide)).sp (by decide)).sp (by decide))
  refine FR.sm (fun k hk => ⟨fun i => ?_, (h1 k hk).2⟩) (by decide)
  unfold lgM
  rw [if_neg (by omega)]
  exact (h1 k hk).1 i
/-- nothing is told -/
def Tz (M : zM) (t : Nat) : Prop := (M t 0 = 0 ∧ M t 1 = 0 ∧ M t 2 = 0 ∧ M t 6 = 0 ∧ M t 10 = 0) ∧ (M (t + 10) 0 = 3 ∧ M (t + 10) 1 = 2 ∧ M (t + 10) 2 = 0 ∧ M (t + 10) 3 = 0) ∧ (M (t + 13) 1 = 0 ∧ M (t + 15) 1 = 0 ∧ M (t + 17) 1 = 0) ∧ ∀ j : Nat, 1 ≤ j → j ≤ 9 → ∀ i, M (t + j) i = 0
theorem Tz.of {M M' : zM} {t : Nat} (h : Tz M t) (e : ∀ k, t ≤ k → k ≤ t + 17 → M' k = M k) : Tz M' t := by
  obtain ⟨h1, h2, ⟨h3, h4, h5⟩, h6⟩ := h
  unfold Tz
  rw [e t (by omega) (by omega), e (t + 10) (by omega) (by omega), e (t + 13) (by omega) (by omega), e (t + 15) (by omega) (by omega), e (t + 17) (by omega) (by omega)]
  exact ⟨h1, h2, ⟨h3, h4, h5⟩, fun j a b i => by rw [e (t + j) (by omega) (by omega)]; exact h6 j a b i⟩
theorem Tz.cl {M M1 : zM} {t : Nat} (hz : ∀ j : Nat, 1 ≤ j → j ≤ 9 → ∀ i, M (t + j) i = 0) (h : clT t M M1) : Tz M1 t := by
  obtain ⟨-, h2, -, h4, h5, h6⟩ := h
  exact ⟨h2, h4, h5, fun j a b i => by rw [h6 (t + j) (by omega) (by omega) (by omega) (by omega) (by omega) (by omega)]; exact hz j a b i⟩
theorem Tz.toI {M : zM} {t : Nat} (h : Tz M t) : ToI M t := by
  obtain ⟨⟨a0, a1, a2, a6, a10⟩, ⟨b0, b1, b2, b3⟩, -, z⟩ := h
  unfold ToI
  rw [a2, a6, a10, b0, b1, b2, b3]
  refine ⟨⟨by decide, by decide⟩, ⟨by decide, by decide⟩, ⟨by decide, by decide⟩, fun i _ _ => ?_, fun i _ _ => ?_, fun i _ _ => ?_, fun i _ _ => ?_, ⟨by decide, by decide⟩, ⟨by decide, by decide⟩, ⟨by decide, by decide⟩, ⟨by decide, by decide⟩⟩
  · rw [z 2 (by decide) (by decide) i]; exact ⟨by decide, by decide⟩
  · rw [z 3 (by decide) (by decide) i]; exact ⟨by decide, by decide⟩
  · rw [z 4 (by decide) (by decide) i, z 5 (by decide) (by decide) i, z 6 (by decide) (by decide) i]; exact ⟨⟨by decide, by decide⟩, ⟨by decide, by decide⟩, ⟨by decide, by decide⟩⟩
  · rw [z 7 (by decide) (by decide) i, z 8 (by decide) (by decide) i, z 9 (by decide) (by decide) i]; exact ⟨⟨by decide, by decide⟩, ⟨by decide, by decide⟩, ⟨by decide, by decide⟩⟩
def asG (M : zM) : zM := sm (sm (sm (sm (sm M 50 1 (M (4 + 10) 0)) 50 3 1) 50 4 1) 50 5 (-1)) 50 2 (if 50 ≤ M (4 + 10) 2 then 1 else 0)
def ntM (M : zM) : zM := sm (sm (lgM 21 M) 42 7 (-1)) 201 7 (-1)
theorem lgM_n {i : Int} {M : zM} {k : Nat} (h : k ≠ 44) : lgM i M k = M k := by
  funext j; unfold lgM; rw [if_neg (by omega)]
theorem ntM_n {M : zM} {k : Nat} (h1 : k ≠ 44) (h2 : k ≠ 42) (h3 : k ≠ 201) : ntM M k = M k := by
  unfold ntM; rw [sm_n h3, sm_n h2, lgM_n h1]
theorem asG_n {M : zM} {k : Nat} (h : k ≠ 50) : asG M k = M k := by
  unfold asG; rw [sm_n h, sm_n h, sm_n h, sm_n h, sm_n h]
/-- both told texts, behind their constructors -/
theorem tz2 {M M1 M2 : zM} {P : zP} (hF : FR M P 3) (h1 : clT 4 M M1) (h2 : clT 23 M1 M2) : Tz M2 4 ∧ Tz M2 23 := by
  have z1 : Tz M1 4 := Tz.cl (fun j a b i => (hF (4 + j) (by omega)).1 i) h1
  refine ⟨z1.of (fun k a b => h2.2.2.2.2.2 k (by omega) (by omega) (by omega) (by omega) (by omega) (by omega)), Tz.cl (fun j a b i => ?_) h2⟩
  rw [h1.2.2.2.2.2 (23 + j) (by omega) (by omega) (by omega) (by omega) (by omega) (by omega)]
  exact (hF (23 + j) (by omega)).1 i
abbrev mdX10_i : zMd := (RX10, "<init>", cX10_init, 1, none, { frames := 12, cells := 206, slots := 7160, locals := 768 })
theorem obX10_1 : Cond.methodLink RX10 1 Lib.objectInit ∈ zt := zmem (tm0 30 (by decide +kernel)) rfl
theorem nwX10_13 : NW RX10 13 8 RX8 TX8 17 := ⟨clX8, zmem (tm0 33 (by decide +kernel)) rfl, zmem (tm0 34 (by decide +kernel)) rfl, zmem (tm0 2 (by decide +kernel)) rfl, rfl, by decide +kernel⟩
theorem nwX10_23 : NW RX10 23 4 RX4 TX4 8 := ⟨clX4, zmem (tm0 147 (by decide +kernel)) rfl, zmem (tm0 148 (by decide +kernel)) rfl, zmem (tm0 4 (by decide +kernel)) rfl, rfl, by decide +kernel⟩
theorem nwX10_32 : NW RX10 32 0 RX0 TX0 7 := ⟨clX0, zmem (tm0 268 (by decide +kernel)) rfl, zmem (tm0 269 (by decide +kernel)) rfl, zmem (tm0 10 (by decide +kernel)) rfl, rfl, by decide +kernel⟩
theorem nwX10_39 : NW RX10 39 3 RX3 TX3 9 := ⟨clX3, zmem (tm0 322 (by decide +kernel)) rfl, zmem (tm0 323 (by decide +kernel)) rfl, zmem (tm0 12 (by decide +kernel)) rfl, rfl, by decide +kernel⟩
theorem nwX10_48 : NW RX10 48 5 RX5 TX5 7 := ⟨clX5, zmem (tm0 358 (by decide +kernel)) rfl, zmem (tm0 359 (by decide +kernel)) rfl, zmem (tm0 13 (by decide +kernel)) rfl, rfl, by decide +kernel⟩
theorem nwX10_61 : NW RX10 61 9 RX9 TX9 3 := ⟨clX9, zmem (tm0 397 (by decide +kernel)) rfl, zmem (tm0 398 (by decide +kernel)) rfl, zmem (tm0 14 (by decide +kernel)) rfl, rfl, by decide +kernel⟩
theorem nwX10_68 : NW RX10 68 2 RX2 TX2 8 := ⟨clX2, zmem (tm0 417 (by decide +kernel)) rfl, zmem (tm0 418 (by decide +kernel)) rfl, zmem (tm0 15 (by decide +kernel)) rfl, rfl, by decide +kernel⟩
theorem miX10_15 : MI RX10 15 yX8_init mdX8_i 0 := ⟨⟨by decide, by decide, by decide +kernel⟩, rfl, rfl, zmem (tm0 35 (by decide +kernel)) rfl, zmem (tm0 36 (by decide +kernel)) rfl, zmem (tm0 2 (by decide +kernel)) rfl, zmem (tm0 37 (by decide +kernel)) rfl⟩
theorem miX10_25 : MI RX10 25 yX4_init mdX4_i 1 := ⟨⟨by decide, by decide, by decide +kernel⟩, rfl, rfl, zmem (tm0 149 (by decide +kernel)) rfl, zmem (tm0 150 (by decide +kernel)) rfl, zmem (tm0 4 (by decide +kernel)) rfl, zmem (tm0 151 (by decide +kernel)) rfl⟩
theorem miX10_34 : MI RX10 34 yX0_init mdX0_i 1 := ⟨⟨by decide, by decide, by decide +kernel⟩, rfl, rfl, zmem (tm0 270 (by decide +kernel)) rfl, zmem (tm0 271 (by decide +kernel)) rfl, zmem (tm0 10 (by decide +kernel)) rfl, zmem (tm0 272 (by decide +kernel)) rfl⟩
theorem miX10_41 : MI RX10 41 yX3_init mdX3_i 1 := ⟨⟨by decide, by decide, by decide +kernel⟩, rfl, rfl, zmem (tm0 324 (by decide +kernel)) rfl, zmem (tm0 325 (by decide +kernel)) rfl, zmem (tm0 12 (by decide +kernel)) rfl, zmem (tm0 326 (by decide +kernel)) rfl⟩
theorem minX10_50 : MIN RX10 50 "StaticDial" yX5_init mdX5_i 0 := ⟨⟨by decide, by decide, by decide +kernel⟩, rfl, rfl, List.mem_filter.mpr ⟨tm0 360 (by decide +kernel), rfl⟩, zmem (tm0 361 (by decide +kernel)) rfl, zmem (tm0 13 (by decide +kernel)) rfl, zmem (tm0 362 (by decide +kernel)) rfl⟩
theorem miX10_63 : MI RX10 63 yX9_init mdX9_i 0 := ⟨⟨by decide, by decide, by decide +kernel⟩, rfl, rfl, zmem (tm0 399 (by decide +kernel)) rfl, zmem (tm0 400 (by decide +kernel)) rfl, zmem (tm0 14 (by decide +kernel)) rfl, zmem (tm0 401 (by decide +kernel)) rfl⟩
theorem minX10_70 : MIN RX10 70 "StaticDial" yX2_init mdX2_i 0 := ⟨⟨by decide, by decide, by decide +kernel⟩, rfl, rfl, List.mem_filter.mpr ⟨tm0 419 (by decide +kernel), rfl⟩, zmem (tm0 420 (by decide +kernel)) rfl, zmem (tm0 15 (by decide +kernel)) rfl, zmem (tm0 421 (by decide +kernel)) rfl⟩
def pX10 (P : zP) : zP := sp (sp (pN (sp (pU (sp (pS (sp (pS (sp (pS (sp (pPl (sp (pH (sp (pR (sp (pT23 (sp (pT4 (sp P 2 0 (some 3))) 2 2 (some 4))) 2 3 (some 23))) 2 4 (some 42))) 2 5 (some 50))) 2 6 (some 54)) 61) 2 7 (some 61)) 67) 2 8 (some 67)) 73) 2 9 (some 73))) 2 11 (some 79))) 2 12 (some 201)) 2 13 (some 208)
set_option maxRecDepth 100000 in
theorem toA_x (L : Nat) (P : zP) : ToAg ((LAY L).take 209) (pX10 P) 4 := ⟨⟨by decide, xkG (by decide) (L4 L), ⟨xkG (by decide) (L5 L), rfl⟩, ⟨xkG (by decide) (L6 L), rfl⟩, ⟨xkG (by decide) (L7 L), rfl⟩, ⟨xkG (by decide) (L8 L), rfl⟩, ⟨xkG (by decide) (L9 L), rfl⟩, ⟨xkG (by decide) (L10 L), rfl⟩, ⟨xkG (by decide) (L11 L), rfl⟩, ⟨xkG (by decide) (L12 L), rfl⟩, ⟨xkG (by decide) (L13 L), rfl⟩, ⟨xkG (by decide) (L14 L), rfl⟩, ⟨xkG (by decide) (L15 L), rfl⟩, ⟨xkG (by decide) (L16 L), rfl⟩⟩, ⟨rfl, ⟨by decide, xkG (by decide) (L17 L), xkG (by decide) (L18 L), rfl⟩⟩, ⟨rfl, ⟨by decide, xkG (by decide) (L19 L), xkG (by decide) (L20 L), rfl⟩⟩, rfl, ⟨by decide, xkG (by decide) (L21 L), xkG (by decide) (L22 L), rfl⟩⟩
set_option maxRecDepth 100000 in
theorem stA_x (L : Nat) (P : zP) : StAg ((LAY L).take 209) (pX10 P) 61 := ⟨by decide, xkG (by decide) (L61 L), ⟨xkG (by decide) (L62 L), rfl⟩, ⟨xkG (by decide) (L63 L), rfl⟩, ⟨xkG (by decide) (L64 L), rfl⟩, ⟨xkG (by decide) (L65 L), rfl⟩, ⟨xkG (by decide) (L66 L), rfl⟩⟩
set_option maxRecDepth 100000 in
set_option maxHeartbeats 8000000 in
theorem i_X10 {G : zG} {l : Launch} {L : Nat} {P : zP} {M : zM} {sa va : Nat} (hX : ∀ U, G.2.2.2.2 U → XT G.2.2.2.1 sa va U) (hF0 : FR M P 3) : AM G l yX10_init mdX10_i [aR 2] ((LAY L).take 3) P M (zrel none ((LAY L).take 209) (pX10 P) (fun M' => ∃ M1 M2, clT 4 M M1 ∧ clT 23 M1 M2 ∧ BgR (asG (ntM M2)) 61 4 M')) := by
  refine AM.go [some (aR 2)] rfl (Nat.le_of_ble_eq_true rfl) ?_ (by decide) rfl rfl
  refine a_aloadn dX10_init_0 rfl ?_
  refine a_objI dX10_init_1 ⟨obX10_1, ob_i, ob_c⟩ (Nat.le_of_ble_eq_true rfl) ⟨by decide, by decide⟩ ?_
  refine a_aloadn dX10_init_4 rfl ?_
  refine a_sipush (w := 700) dX10_init_5 (by decide) ?_
  refine a_newa (t := 0) (N := 700) (lay' := (LAY L).take 4) dX10_init_8 acl_0 (Or.inl ⟨rfl, rfl⟩) rfl (by decide) (xkL (by decide)) (by decide) (fun i => (hF0 3 (by decide)).1 i) (fun i => (hF0 3 (by decide)).2 i) (xkS (L3 L)) ⟨Nat.le_of_ble_eq_true rfl, Nat.le_of_ble_eq_true rfl⟩ ?_
  refine a_putFR (dcl := "") (j' := 0) (y := 3) dX10_init_10 flX10_9 rfl rfl (xkG (by decide) (L2 L)) (by decide) rfl rfl ?_
  have hF1 := (hF0.le (show _ ≤ 4 by decide)).sp (q := 2) (i := 0) (v := some 3) (by decide)
  refine a_aloadn dX10_init_13 rfl ?_
  refine a_new (N := 17) (lay' := (LAY L).take 5) dX10_init_14 nwX10_13 (xkL (by decide)) (by decide) (fun i => (hF1 4 (by decide)).1 i) (fun i => (hF1 4 (by decide)).2 i) (xkS (L4 L)) ⟨Nat.le_of_ble_eq_true rfl, Nat.le_of_ble_eq_true rfl⟩ ?_
  refine a_dupR dX10_init_17 ?_
  refine a_invI (as := []) (q := 4) (C := "") dX10_init_18 miX10_15 ⟨by decide, by decide⟩ rfl rfl (Nat.le_of_ble_eq_true rfl) ⟨Nat.le_of_ble_eq_true rfl, Nat.le_of_ble_eq_true rfl⟩ (i_X8_4 (hF1.le (by decide))) ?_
  rintro _ _ _ M1 ⟨rfl, rfl, rfl, hc1⟩
  have hF2 := ((hF1.le (show _ ≤ 23 by decide)).pT4).cl hc1 (by decide)
  refine a_putR (j' := 2) (y := 4) dX10_init_21 flX10_16 rfl rfl (xkG (by decide) (L2 L)) (by decide) rfl ?_
  have hF3 := (hF2.le (show _ ≤ 23 by decide)).sp (q := 2) (i := 2) (v := some 4) (by decide)
  refine a_aloadn dX10_init_24 rfl ?_
  refine a_new (N := 17) (lay' := (LAY L).take 24) dX10_init_25 nwX10_13 (xkL (by decide)) (by decide) (fun i => (hF3 23 (by decide)).1 i) (fun i => (hF3 23 (by decide)).2 i) (xkS (L23 L)) ⟨Nat.le_of_ble_eq_true rfl, Nat.le_of_ble_eq_true rfl⟩ ?_
  refine a_dupR dX10_init_28 ?_
  refine a_invI (as := []) (q := 23) (C := "") dX10_init_29 miX10_15 ⟨by decide, by decide⟩ rfl rfl (Nat.le_of_ble_eq_true rfl) ⟨Nat.le_of_ble_eq_true rfl, Nat.le_of_ble_eq_true rfl⟩ (i_X8_23 (hF3.le (by decide))) ?_
  rintro _ _ _ M2 ⟨rfl, rfl, rfl, hc2⟩
  have hF4 := ((hF3.le (show _ ≤ 42 by decide)).pT23).cl hc2 (by decide)
  refine a_putR (j' := 3) (y := 23) dX10_init_32 flX10_20 rfl rfl (xkG (by decide) (L2 L)) (by decide) rfl ?_
  have hF5 := (hF4.le (show _ ≤ 42 by decide)).sp (q := 2) (i := 3) (v := some 23) (by decide)
  refine a_aloadn dX10_init_35 rfl ?_
  refine a_new (N := 8) (lay' := (LAY L).take 43) dX10_init_36 nwX10_23 (xkL (by decide)) (by decide) (fun i => (hF5 42 (by decide)).1 i) (fun i => (hF5 42 (by decide)).2 i) (xkS (L42 L)) ⟨Nat.le_of_ble_eq_true rfl, Nat.le_of_ble_eq_true rfl⟩ ?_
  refine a_dupR dX10_init_39 ?_
  refine a_aloadn dX10_init_40 rfl ?_
  refine a_getR (j' := 3) (y := 23) dX10_init_41 flX10_20 rfl rfl (xkG (by decide) (L2 L)) rfl ?_
  refine a_invI (as := [aR 23]) (q := 42) (C := "") dX10_init_44 miX10_25 ⟨by decide, by decide⟩ rfl rfl (Nat.le_of_ble_eq_true rfl) ⟨Nat.le_of_ble_eq_true rfl, Nat.le_of_ble_eq_true rfl⟩ (i_X4 hX rfl rfl (hF5.le (by decide))) ?_
  rintro _ _ _ _ ⟨rfl, rfl, rfl, rfl⟩
  have hF6 := fr_rd (hF5.le (show _ ≤ 50 by decide))
  refine a_putFR (dcl := "") (j' := 4) (y := 42) dX10_init_47 flX10_28 rfl rfl (xkG (by decide) (L2 L)) (by decide) rfl rfl ?_
  have hF7 := (hF6.le (show _ ≤ 50 by decide)).sp (q := 2) (i := 4) (v := some 42) (by decide)
  refine a_aloadn dX10_init_50 rfl ?_
  refine a_new (N := 7) (lay' := (LAY L).take 51) dX10_init_51 nwX10_32 (xkL (by decide)) (by decide) (fun i => (hF7 50 (by decide)).1 i) (fun i => (hF7 50 (by decide)).2 i) (xkS (L50 L)) ⟨Nat.le_of_ble_eq_true rfl, Nat.le_of_ble_eq_true rfl⟩ ?_
  refine a_dupR dX10_init_54 ?_
  refine a_aloadn dX10_init_55 rfl ?_
  refine a_getR (j' := 2) (y := 4) dX10_init_56 flX10_16 rfl rfl (xkG (by decide) (L2 L)) rfl ?_
  refine a_invI (as := [aR 4]) (q := 50) (C := "") dX10_init_59 miX10_34 ⟨by decide, by decide⟩ rfl rfl (Nat.le_of_ble_eq_true rfl) ⟨Nat.le_of_ble_eq_true rfl, Nat.le_of_ble_eq_true rfl⟩ (i_X0 (hF7.le (by decide))) ?_
  rintro _ _ _ _ ⟨rfl, rfl, rfl, rfl⟩
  have hF8 := (hF7.le (show _ ≤ 54 by decide)).pH
  refine a_putFR (dcl := "") (j' := 5) (y := 50) dX10_init_62 flX10_35 rfl rfl (xkG (by decide) (L2 L)) (by decide) rfl rfl ?_
  have hF9 := (hF8.le (show _ ≤ 54 by decide)).sp (q := 2) (i := 5) (v := some 50) (by decide)
  refine a_aloadn dX10_init_65 rfl ?_
  refine a_new (N := 9) (lay' := (LAY L).take 55) dX10_init_66 nwX10_39 (xkL (by decide)) (by decide) (fun i => (hF9 54 (by decide)).1 i) (fun i => (hF9 54 (by decide)).2 i) (xkS (L54 L)) ⟨Nat.le_of_ble_eq_true rfl, Nat.le_of_ble_eq_true rfl⟩ ?_
  refine a_dupR dX10_init_69 ?_
  refine a_aloadn dX10_init_70 rfl ?_
  refine a_getR (j' := 5) (y := 50) dX10_init_71 flX10_35 rfl rfl (xkG (by decide) (L2 L)) rfl ?_
  refine a_invI (as := [aR 50]) (q := 54) (C := "") dX10_init_74 miX10_41 ⟨by decide, by decide⟩ rfl rfl (Nat.le_of_ble_eq_true rfl) ⟨Nat.le_of_ble_eq_true rfl, Nat.le_of_ble_eq_true rfl⟩ (i_X3 (hF9.le (by decide))) ?_
  rintro _ _ _ _ ⟨rfl, rfl, rfl, rfl⟩
  have hF10 := (hF9.le (show _ ≤ 61 by decide)).pPl
  refine a_putFR (dcl := "") (j' := 6) (y := 54) dX10_init_77 flX10_44 rfl rfl (xkG (by decide) (L2 L)) (by decide) rfl rfl ?_
  have hF11 := (hF10.le (show _ ≤ 61 by decide)).sp (q := 2) (i := 6) (v := some 54) (by decide)
  refine a_aloadn dX10_init_80 rfl ?_
  refine a_new (N := 7) (lay' := (LAY L).take 62) dX10_init_81 nwX10_48 (xkL (by decide)) (by decide) (fun i => (hF11 61 (by decide)).1 i) (fun i => (hF11 61 (by decide)).2 i) (xkS (L61 L)) ⟨Nat.le_of_ble_eq_true rfl, Nat.le_of_ble_eq_true rfl⟩ ?_
  refine a_dupR dX10_init_84 ?_
  refine a_invIN (as := []) (q := 61) (C := "StaticDial") dX10_init_85 minX10_50 ⟨by decide, by decide⟩ rfl rfl (Nat.le_of_ble_eq_true rfl) ⟨Nat.le_of_ble_eq_true rfl, Nat.le_of_ble_eq_true rfl⟩ (i_X5 (lay' := (LAY L).take 67) (xkL (by decide)) (xkG (by decide) (L61 L)) (by decide) (by decide) (hF11.le (by decide)) rfl) ?_
  rintro _ _ _ _ ⟨rfl, rfl, rfl, rfl⟩
  have hF12 := (hF11.le (show _ ≤ 67 by decide)).pS (q := 61) (by decide)
  refine a_putFR (dcl := "") (j' := 7) (y := 61) dX10_init_88 flX10_51 rfl rfl (xkG (by decide) (L2 L)) (by decide) rfl rfl ?_
  have hF13 := (hF12.le (show _ ≤ 67 by decide)).sp (q := 2) (i := 7) (v := some 61) (by decide)
  refine a_aloadn dX10_init_91 rfl ?_
  refine a_new (N := 7) (lay' := (LAY L).take 68) dX10_init_92 nwX10_48 (xkL (by decide)) (by decide) (fun i => (hF13 67 (by decide)).1 i) (fun i => (hF13 67 (by decide)).2 i) (xkS (L67 L)) ⟨Nat.le_of_ble_eq_true rfl, Nat.le_of_ble_eq_true rfl⟩ ?_
  refine a_dupR dX10_init_95 ?_
  refine a_invIN (as := []) (q := 67) (C := "StaticDial") dX10_init_96 minX10_50 ⟨by decide, by decide⟩ rfl rfl (Nat.le_of_ble_eq_true rfl) ⟨Nat.le_of_ble_eq_true rfl, Nat.le_of_ble_eq_true rfl⟩ (i_X5 (lay' := (LAY L).take 73) (xkL (by decide)) (xkG (by decide) (L67 L)) (by decide) (by decide) (hF13.le (by decide)) rfl) ?_
  rintro _ _ _ _ ⟨rfl, rfl, rfl, rfl⟩
  have hF14 := (hF13.le (show _ ≤ 73 by decide)).pS (q := 67) (by decide)
  refine a_putFR (dcl := "") (j' := 8) (y := 67) dX10_init_99 flX10_55 rfl rfl (xkG (by decide) (L2 L)) (by decide) rfl rfl ?_
  have hF15 := (hF14.le (show _ ≤ 73 by decide)).sp (q := 2) (i := 8) (v := some 67) (by decide)
  refine a_aloadn dX10_init_102 rfl ?_
  refine a_new (N := 7) (lay' := (LAY L).take 74) dX10_init_103 nwX10_48 (xkL (by decide)) (by decide) (fun i => (hF15 73 (by decide)).1 i) (fun i => (hF15 73 (by decide)).2 i) (xkS (L73 L)) ⟨Nat.le_of_ble_eq_true rfl, Nat.le_of_ble_eq_true rfl⟩ ?_
  refine a_dupR dX10_init_106 ?_
  refine a_invIN (as := []) (q := 73) (C := "StaticDial") dX10_init_107 minX10_50 ⟨by decide, by decide⟩ rfl rfl (Nat.le_of_ble_eq_true rfl) ⟨Nat.le_of_ble_eq_true rfl, Nat.le_of_ble_eq_true rfl⟩ (i_X5 (lay' := (LAY L).take 79) (xkL (by decide)) (xkG (by decide) (L73 L)) (by decide) (by decide) (hF15.le (by decide)) rfl) ?_
  rintro _ _ _ _ ⟨rfl, rfl, rfl, rfl⟩
  have hF16 := (hF15.le (show _ ≤ 79 by decide)).pS (q := 73) (by decide)
  refine a_putFR (dcl := "") (j' := 9) (y := 73) dX10_init_110 flX10_58 rfl rfl (xkG (by decide) (L2 L)) (by decide) rfl rfl ?_
  have hF17 := (hF16.le (show _ ≤ 79 by decide)).sp (q := 2) (i := 9) (v := some 73) (by decide)
  refine a_aloadn dX10_init_113 rfl ?_
  refine a_new (N := 3) (lay' := (LAY L).take 80) dX10_init_114 nwX10_61 (xkL (by decide)) (by decide) (fun i => (hF17 79 (by decide)).1 i) (fun i => (hF17 79 (by decide)).2 i) (xkS (L79 L)) ⟨Nat.le_of_ble_eq_true rfl, Nat.le_of_ble_eq_true rfl⟩ ?_
  refine a_dupR dX10_init_117 ?_
  refine a_invI (as := []) (q := 79) (C := "") dX10_init_118 miX10_63 ⟨by decide, by decide⟩ rfl rfl (Nat.le_of_ble_eq_true rfl) ⟨Nat.le_of_ble_eq_true rfl, Nat.le_of_ble_eq_true rfl⟩ (i_X9 (hF17.le (by decide))) ?_
  rintro _ _ _ _ ⟨rfl, rfl, rfl, rfl⟩
  have hF18 := (hF17.le (show _ ≤ 201 by decide)).pU
  refine a_putFR (dcl := "") (j' := 11) (y := 79) dX10_init_121 flX10_64 rfl rfl (xkG (by decide) (L2 L)) (by decide) rfl rfl ?_
  have hF19 := (hF18.le (show _ ≤ 201 by decide)).sp (q := 2) (i := 11) (v := some 79) (by decide)
  refine a_aloadn dX10_init_124 rfl ?_
  refine a_new (N := 8) (lay' := (LAY L).take 202) dX10_init_125 nwX10_68 (xkL (by decide)) (by decide) (fun i => (hF19 201 (by decide)).1 i) (fun i => (hF19 201 (by decide)).2 i) (xkS (L201 L)) ⟨Nat.le_of_ble_eq_true rfl, Nat.le_of_ble_eq_true rfl⟩ ?_
  refine a_dupR dX10_init_128 ?_
  refine a_invIN (as := []) (q := 201) (C := "StaticDial") dX10_init_129 minX10_70 ⟨by decide, by decide⟩ rfl rfl (Nat.le_of_ble_eq_true rfl) ⟨Nat.le_of_ble_eq_true rfl, Nat.le_of_ble_eq_true rfl⟩ (i_X2 (hF19.le (by decide))) ?_
  rintro _ _ _ _ ⟨rfl, rfl, rfl, rfl⟩
  have hF20 := (hF19.le (show _ ≤ 208 by decide)).pN.sm (q := 201) (i := 7) (v := -1) (by decide)
  refine a_putFR (dcl := "") (j' := 12) (y := 201) dX10_init_132 flX10_71 rfl rfl (xkG (by decide) (L2 L)) (by decide) rfl rfl ?_
  have hF21 := (hF20.le (show _ ≤ 208 by decide)).sp (q := 2) (i := 12) (v := some 201) (by decide)
  refine a_aloadn dX10_init_135 rfl ?_
  refine a_bipush (w := 6) dX10_init_136 (by decide) ?_
  refine a_newa (t := 0) (N := 6) (lay' := (LAY L).take 209) dX10_init_138 acl_0 (Or.inl ⟨rfl, rfl⟩) rfl (by decide) (xkL (by decide)) (by decide) (fun i => (hF21 208 (by decide)).1 i) (fun i => (hF21 208 (by decide)).2 i) (xkS (L208 L)) ⟨Nat.le_of_ble_eq_true rfl, Nat.le_of_ble_eq_true rfl⟩ ?_
  refine a_putFR (dcl := "") (j' := 13) (y := 208) dX10_init_140 flX10_75 rfl rfl (xkG (by decide) (L2 L)) (by decide) rfl rfl ?_
  have hF22 := (hF21.le (show _ ≤ 209 by decide)).sp (q := 2) (i := 13) (v := some 208) (by decide)
  refine a_aloadn dX10_init_143 rfl ?_
  refine a_getR (j' := 5) (y := 50) dX10_init_144 flX10_35 rfl rfl (xkG (by decide) (L2 L)) rfl ?_
  have hz := tz2 hF0 hc1 hc2
  have hI : ToI (ntM M2) 4 := (hz.1.of (fun k a b => ntM_n (by omega) (by omega) (by omega))).toI
  refine a_callVv (as := []) (q := 50) dX10_init_147 mvX10_78 ⟨by decide, by decide⟩ (xkG (by decide) (L50 L)) rfl rfl rfl (Nat.le_of_ble_eq_true rfl) ⟨rfl, rfl⟩ ⟨Nat.le_of_ble_eq_true rfl, Nat.le_of_ble_eq_true rfl⟩ (n_m_X0_asItGoes (t := 4) (xkG (by decide) (L50 L)) rfl (toA_x L P) (Or.inl rfl) hI) ?_
  refine a_aloadn dX10_init_150 rfl ?_
  refine a_getR (j' := 7) (y := 61) dX10_init_151 flX10_51 rfl rfl (xkG (by decide) (L2 L)) rfl ?_
  refine a_aloadn dX10_init_154 rfl ?_
  refine a_getR (j' := 2) (y := 4) dX10_init_155 flX10_16 rfl rfl (xkG (by decide) (L2 L)) rfl ?_
  have hI2 : ToI (asG (ntM M2)) 4 := (hz.1.of (fun k a b => (asG_n (by omega)).trans (ntM_n (by omega) (by omega) (by omega)))).toI
  refine a_relVv (as := [aR 4]) (q := 61) dX10_init_158 mvX10_81 ⟨by decide, by decide⟩ (xkG (by decide) (L61 L)) rfl rfl rfl (Nat.le_of_ble_eq_true rfl) ⟨rfl, rfl⟩ ⟨Nat.le_of_ble_eq_true rfl, Nat.le_of_ble_eq_true rfl⟩ (n_m_X5_begin (M := asG (ntM M2)) (stA_x L P) (toA_x L P) (by decide) (by decide) hI2) (fun M5 hM5 => ?_)
  exact a_widen (Nat.le_of_ble_eq_true rfl) (Nat.le_of_ble_eq_true rfl) (a_return dX10_init_161 rfl rfl rfl (zrel_V ⟨M1, M2, hc1, hc2, hM5⟩))
end ZXA
