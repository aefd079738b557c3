section ZCT
/-- beyond n nothing is written yet -/
def FR (M : zM) (P : zP) (n : Nat) : Prop := ∀ k, n ≤ k → (∀ i, M k i = 0) ∧ ∀ i, P k i = none
theorem FR.le {M : zM} {P : zP} {n n' : Nat} (h : FR M P n) (hn : n ≤ n') : FR M P n' := fun k hk => h k (Nat.le_trans hn hk)
theorem FR.sp {M : zM} {P : zP} {n q : Nat} {i : Int} {v : Option Nat} (h : FR M P n) (hq : q < n) : FR M (sp P q i v) n := fun k hk => by
  rw [sp_n (by omega)]; exact h k hk
theorem FR.sm {M : zM} {P : zP} {n q : Nat} {i v : Int} (h : FR M P n) (hq : q < n) : FR (sm M q i v) P n := fun k hk => by
  rw [sm_n (by omega)]; exact h k hk
theorem xkL {L n : Nat} (h : n ≤ 244) : ((LAY L).take n).length = n := by rw [List.length_take, LAY_244]; omega
theorem xkG {L n k : Nat} {kd : zKd} (h : k < n) (hk : (LAY L)[k]? = some kd) : ((LAY L).take n)[k]? = some kd := by rw [List.getElem?_take, if_pos h]; exact hk
theorem xkS {L n : Nat} {kd : zKd} (h : (LAY L)[n]? = some kd) : (LAY L).take n ++ [kd] = (LAY L).take (n + 1) := by rw [List.take_succ, h]; rfl
theorem apL {lay xs : List zKd} {q : Nat} {kd : zKd} (h : lay[q]? = some kd) : (lay ++ xs)[q]? = some kd := by
  rw [List.getElem?_append_left (List.getElem?_eq_some_iff.mp h).1]; exact h
theorem acl_0 : Cond.arrayClass .int ∈ zt := zmem (tm0 58 (by decide +kernel)) rfl
theorem acl_1 : Cond.arrayClass .boolean ∈ zt := zmem (tm0 59 (by decide +kernel)) rfl
theorem acl_2 : Cond.arrayClass .long ∈ zt := zmem (tm0 292 (by decide +kernel)) rfl
theorem ob_i : Cond.instanceMethod Lib.objectInit ∈ zt := zmem (tm0 31 (by decide +kernel)) rfl
theorem ob_c : Cond.code Lib.objectInit ⟨#[0xb1]⟩ 1 none ∈ zt := zmem (tm0 32 (by decide +kernel)) rfl
abbrev mdX1_i : zMd := (RX1, "<init>", cX1_init, 1, none, { frames := 2, cells := 1, slots := 64, locals := 128 })
abbrev mdX5_i : zMd := (RX5, "<init>", cX5_init, 1, none, { frames := 2, cells := 5, slots := 60, locals := 128 })
abbrev mdX6_i : zMd := (RX6, "<init>", cX6_init, 1, none, { frames := 2, cells := 2, slots := 71, locals := 128 })
abbrev mdX0_i : zMd := (RX0, "<init>", cX0_init, 2, none, { frames := 4, cells := 3, slots := 74, locals := 256 })
abbrev mdX3_i : zMd := (RX3, "<init>", cX3_init, 2, none, { frames := 2, cells := 6, slots := 1812, locals := 128 })
abbrev mdX2_i : zMd := (RX2, "<init>", cX2_init, 1, none, { frames := 2, cells := 6, slots := 144, locals := 128 })
abbrev mdX9_i : zMd := (RX9, "<init>", cX9_init, 2, none, { frames := 4, cells := 121, slots := 1360, locals := 256 })
abbrev mdX8_i : zMd := (RX8, "<init>", cX8_init, 2, none, { frames := 4, cells := 18, slots := 293, locals := 256 })
theorem obX0_3 : Cond.methodLink RX0 3 Lib.objectInit ∈ zt := zmem (tm0 273 (by decide +kernel)) rfl
theorem obX1_3 : Cond.methodLink RX1 3 Lib.objectInit ∈ zt := zmem (tm0 45 (by decide +kernel)) rfl
theorem obX2_3 : Cond.methodLink RX2 3 Lib.objectInit ∈ zt := zmem (tm0 422 (by decide +kernel)) rfl
theorem obX3_5 : Cond.methodLink RX3 5 Lib.objectInit ∈ zt := zmem (tm0 327 (by decide +kernel)) rfl
theorem obX5_3 : Cond.methodLink RX5 3 Lib.objectInit ∈ zt := zmem (tm0 363 (by decide +kernel)) rfl
theorem obX6_5 : Cond.methodLink RX6 5 Lib.objectInit ∈ zt := zmem (tm0 279 (by decide +kernel)) rfl
theorem obX8_3 : Cond.methodLink RX8 3 Lib.objectInit ∈ zt := zmem (tm0 38 (by decide +kernel)) rfl
theorem obX9_3 : Cond.methodLink RX9 3 Lib.objectInit ∈ zt := zmem (tm0 402 (by decide +kernel)) rfl
theorem nwX0_9 : NW RX0 9 6 RX6 TX6 3 := ⟨clX6, zmem (tm0 274 (by decide +kernel)) rfl, zmem (tm0 275 (by decide +kernel)) rfl, zmem (tm0 11 (by decide +kernel)) rfl, rfl, by decide +kernel⟩
theorem clkX8_46 : Cond.classLink RX8 46 "StaticDial$Law" ∈ zt := zmem (tm0 39 (by decide +kernel)) rfl
theorem nwX8_46 : NW RX8 46 1 RX1 TX1 2 := ⟨clX1, zmem (tm0 39 (by decide +kernel)) rfl, zmem (tm0 41 (by decide +kernel)) rfl, zmem (tm0 3 (by decide +kernel)) rfl, rfl, by decide +kernel⟩
theorem clkX9_9 : Cond.classLink RX9 9 "StaticDial$State" ∈ zt := zmem (tm0 403 (by decide +kernel)) rfl
theorem nwX9_9 : NW RX9 9 5 RX5 TX5 7 := ⟨clX5, zmem (tm0 403 (by decide +kernel)) rfl, zmem (tm0 359 (by decide +kernel)) rfl, zmem (tm0 13 (by decide +kernel)) rfl, rfl, by decide +kernel⟩
theorem minX0_11 : MIN RX0 11 "StaticDial" yX6_init mdX6_i 0 := ⟨⟨by decide, by decide, by decide +kernel⟩, rfl, rfl, List.mem_filter.mpr ⟨tm0 276 (by decide +kernel), rfl⟩, zmem (tm0 277 (by decide +kernel)) rfl, zmem (tm0 11 (by decide +kernel)) rfl, zmem (tm0 278 (by decide +kernel)) rfl⟩
theorem minX8_52 : MIN RX8 52 "StaticDial" yX1_init mdX1_i 0 := ⟨⟨by decide, by decide, by decide +kernel⟩, rfl, rfl, List.mem_filter.mpr ⟨tm0 42 (by decide +kernel), rfl⟩, zmem (tm0 43 (by decide +kernel)) rfl, zmem (tm0 3 (by decide +kernel)) rfl, zmem (tm0 44 (by decide +kernel)) rfl⟩
theorem minX9_17 : MIN RX9 17 "StaticDial" yX5_init mdX5_i 0 := ⟨⟨by decide, by decide, by decide +kernel⟩, rfl, rfl, List.mem_filter.mpr ⟨tm0 405 (by decide +kernel), rfl⟩, zmem (tm0 361 (by decide +kernel)) rfl, zmem (tm0 13 (by decide +kernel)) rfl, zmem (tm0 362 (by decide +kernel)) rfl⟩
theorem mvX8_53 : MV RX8 53 RX8 yX8_clear mdX8_clear 0 := ⟨rfl, by decide, by decide, by decide +kernel, zmem (tm0 60 (by decide +kernel)) rfl, zmem (tm0 61 (by decide +kernel)) rfl, zmem (tm0 62 (by decide +kernel)) rfl, zmem (tm0 2 (by decide +kernel)) rfl, kcX8_clear⟩
def pL (P : zP) (q : Nat) : zP := sp P q 0 (some (q + 1))
theorem FR.pL {M : zM} {P : zP} {n q : Nat} (h : FR M P n) (hq : q < n) : FR M (pL P q) n := h.sp hq
set_option maxRecDepth 100000 in
set_option maxHeartbeats 4000000 in
theorem i_X1 {G : zG} {l : Launch} {lay lay' : List zKd} {P : zP} {M : zM} {q : Nat} (hlen : lay.length = q + 1) (hq : lay[q]? = some (.inr 1)) (h2 : 2 ≤ q) (h44 : q + 2 ≤ 244) (hF : FR M P (q + 1)) (hy : lay ++ [.inl (0, 64)] = lay') : AM G l yX1_init mdX1_i [aR q] lay P M (zdet none lay' (pL P q) M) := by
  refine AM.go [some (aR q)] rfl (Nat.le_of_ble_eq_true rfl) ?_ (by decide) rfl rfl
  subst hy
  refine a_aloadn dX1_init_0 rfl ?_
  refine a_objI dX1_init_1 ⟨obX1_3, ob_i, ob_c⟩ (Nat.le_of_ble_eq_true rfl) ⟨by decide, by decide⟩ ?_
  refine a_aloadn dX1_init_4 rfl ?_
  refine a_bipush (w := 64) dX1_init_5 (by decide) ?_
  refine a_newa (t := 0) (N := 64) (n9 := q + 1) (lay' := lay ++ [.inl (0, 64)]) dX1_init_7 acl_0 (Or.inl ⟨rfl, rfl⟩) rfl (by decide) (by simp [hlen]) (by omega) (fun i => (hF (q + 1) (by omega)).1 i) (fun i => (hF (q + 1) (by omega)).2 i) (by simp) ⟨Nat.le_of_ble_eq_true rfl, Nat.le_of_ble_eq_true rfl⟩ ?_
  refine a_putFR (dcl := "") (j' := 0) (y := q + 1) dX1_init_9 flX1_9 rfl rfl (apL hq) h2 rfl rfl ?_
  exact a_return dX1_init_12 rfl rfl rfl (zdet_V rfl)
def pS (P : zP) (q : Nat) : zP := sp (sp (sp (sp (sp P q 0 (some (q + 1))) q 1 (some (q + 2))) q 2 (some (q + 3))) q 3 (some (q + 4))) q 4 (some (q + 5))
theorem FR.pS {M : zM} {P : zP} {n q : Nat} (h : FR M P n) (hq : q < n) : FR M (pS P q) n := ((((h.sp hq).sp hq).sp hq).sp hq).sp hq
set_option maxRecDepth 100000 in
set_option maxHeartbeats 4000000 in
theorem i_X5 {G : zG} {l : Launch} {lay lay' : List zKd} {P : zP} {M : zM} {q : Nat} (hlen : lay.length = q + 1) (hq : lay[q]? = some (.inr 5)) (h2 : 2 ≤ q) (h44 : q + 6 ≤ 244) (hF : FR M P (q + 1)) (hy : lay ++ [.inl (0, 6), .inl (0, 6), .inl (0, 6), .inl (0, 6), .inl (0, 36)] = lay') : AM G l yX5_init mdX5_i [aR q] lay P M (zdet none lay' (pS P q) M) := by
  refine AM.go [some (aR q)] rfl (Nat.le_of_ble_eq_true rfl) ?_ (by decide) rfl rfl
  subst hy
  refine a_aloadn dX5_init_0 rfl ?_
  refine a_objI dX5_init_1 ⟨obX5_3, ob_i, ob_c⟩ (Nat.le_of_ble_eq_true rfl) ⟨by decide, by decide⟩ ?_
  refine a_aloadn dX5_init_4 rfl ?_
  refine a_bipush (w := 6) dX5_init_5 (by decide) ?_
  refine a_newa (t := 0) (N := 6) (n9 := q + 1) (lay' := lay ++ [.inl (0, 6)]) dX5_init_7 acl_0 (Or.inl ⟨rfl, rfl⟩) rfl (by decide) (by simp [hlen]) (by omega) (fun i => (hF (q + 1) (by omega)).1 i) (fun i => (hF (q + 1) (by omega)).2 i) (by simp) ⟨Nat.le_of_ble_eq_true rfl, Nat.le_of_ble_eq_true rfl⟩ ?_
  refine a_putFR (dcl := "") (j' := 0) (y := q + 1) dX5_init_9 flX5_9 rfl rfl (apL hq) h2 rfl rfl ?_
  refine a_aloadn dX5_init_12 rfl ?_
  refine a_bipush (w := 6) dX5_init_13 (by decide) ?_
  refine a_newa (t := 0) (N := 6) (n9 := q + 2) (lay' := lay ++ [.inl (0, 6), .inl (0, 6)]) dX5_init_15 acl_0 (Or.inl ⟨rfl, rfl⟩) rfl (by decide) (by simp [hlen]) (by omega) (fun i => ((FR.sp (i := 0) (v := some (q + 1)) hF (Nat.lt_succ_self q)) (q + 2) (by omega)).1 i) (fun i => ((FR.sp (i := 0) (v := some (q + 1)) hF (Nat.lt_succ_self q)) (q + 2) (by omega)).2 i) (by simp) ⟨Nat.le_of_ble_eq_true rfl, Nat.le_of_ble_eq_true rfl⟩ ?_
  refine a_putFR (dcl := "") (j' := 1) (y := q + 2) dX5_init_17 flX5_15 rfl rfl (apL hq) h2 rfl rfl ?_
  refine a_aloadn dX5_init_20 rfl ?_
  refine a_bipush (w := 6) dX5_init_21 (by decide) ?_
  refine a_newa (t := 0) (N := 6) (n9 := q + 3) (lay' := lay ++ [.inl (0, 6), .inl (0, 6), .inl (0, 6)]) dX5_init_23 acl_0 (Or.inl ⟨rfl, rfl⟩) rfl (by decide) (by simp [hlen]) (by omega) (fun i => ((FR.sp (i := 1) (v := some (q + 2)) (FR.sp (i := 0) (v := some (q + 1)) hF (Nat.lt_succ_self q)) (Nat.lt_succ_self q)) (q + 3) (by omega)).1 i) (fun i => ((FR.sp (i := 1) (v := some (q + 2)) (FR.sp (i := 0) (v := some (q + 1)) hF (Nat.lt_succ_self q)) (Nat.lt_succ_self q)) (q + 3) (by omega)).2 i) (by simp) ⟨Nat.le_of_ble_eq_true rfl, Nat.le_of_ble_eq_true rfl⟩ ?_
  refine a_putFR (dcl := "") (j' := 2) (y := q + 3) dX5_init_25 flX5_18 rfl rfl (apL hq) h2 rfl rfl ?_
  refine a_aloadn dX5_init_28 rfl ?_
  refine a_bipush (w := 6) dX5_init_29 (by decide) ?_
  refine a_newa (t := 0) (N := 6) (n9 := q + 4) (lay' := lay ++ [.inl (0, 6), .inl (0, 6), .inl (0, 6), .inl (0, 6)]) dX5_init_31 acl_0 (Or.inl ⟨rfl, rfl⟩) rfl (by decide) (by simp [hlen]) (by omega) (fun i => ((FR.sp (i := 2) (v := some (q + 3)) (FR.sp (i := 1) (v := some (q + 2)) (FR.sp (i := 0) (v := some (q + 1)) hF (Nat.lt_succ_self q)) (Nat.lt_succ_self q)) (Nat.lt_succ_self q)) (q + 4) (by omega)).1 i) (fun i => ((FR.sp (i := 2) (v := some (q + 3)) (FR.sp (i := 1) (v := some (q + 2)) (FR.sp (i := 0) (v := some (q + 1)) hF (Nat.lt_succ_self q)) (Nat.lt_succ_self q)) (Nat.lt_succ_self q)) (q + 4) (by omega)).2 i) (by simp) ⟨Nat.le_of_ble_eq_true rfl, Nat.le_of_ble_eq_true rfl⟩ ?_
  refine a_putFR (dcl := "") (j' := 3) (y := q + 4) dX5_init_33 flX5_21 rfl rfl (apL hq) h2 rfl rfl ?_
  refine a_aloadn dX5_init_36 rfl ?_
  refine a_bipush (w := 36) dX5_init_37 (by decide) ?_
  refine a_newa (t := 0) (N := 36) (n9 := q + 5) (lay' := lay ++ [.inl (0, 6), .inl (0, 6), .inl (0, 6), .inl (0, 6), .inl (0, 36)]) dX5_init_39 acl_0 (Or.inl ⟨rfl, rfl⟩) rfl (by decide) (by simp [hlen]) (by omega) (fun i => ((FR.sp (i := 3) (v := some (q + 4)) (FR.sp (i := 2) (v := some (q + 3)) (FR.sp (i := 1) (v := some (q + 2)) (FR.sp (i := 0) (v := some (q + 1)) hF (Nat.lt_succ_self q)) (Nat.lt_succ_self q)) (Nat.lt_succ_self q)) (Nat.lt_succ_self q)) (q + 5) (by omega)).1 i) (fun i => ((FR.sp (i := 3) (v := some (q + 4)) (FR.sp (i := 2) (v := some (q + 3)) (FR.sp (i := 1) (v := some (q + 2)) (FR.sp (i := 0) (v := some (q + 1)) hF (Nat.lt_succ_self q)) (Nat.lt_succ_self q)) (Nat.lt_succ_self q)) (Nat.lt_succ_self q)) (q + 5) (by omega)).2 i) (by simp) ⟨Nat.le_of_ble_eq_true rfl, Nat.le_of_ble_eq_true rfl⟩ ?_
  refine a_putFR (dcl := "") (j' := 4) (y := q + 5) dX5_init_41 flX5_24 rfl rfl (apL hq) h2 rfl rfl ?_
  exact a_return dX5_init_44 rfl rfl rfl (zdet_V rfl)
set_option maxRecDepth 100000 in
set_option maxHeartbeats 4000000 in
theorem i_X6 {G : zG} {l : Launch} {L : Nat} {P : zP} {M : zM} (hF0 : FR M P 52) : AM G l yX6_init mdX6_i [aR 51] ((LAY L).take 52) P M (zdet none ((LAY L).take 54) (sp (sp P 51 0 (some 52)) 51 1 (some 53)) M) := by
  refine AM.go [some (aR 51)] rfl (Nat.le_of_ble_eq_true rfl) ?_ (by decide) rfl rfl
  refine a_aloadn dX6_init_0 rfl ?_
  refine a_objI dX6_init_1 ⟨obX6_5, ob_i, ob_c⟩ (Nat.le_of_ble_eq_true rfl) ⟨by decide, by decide⟩ ?_
  refine a_aloadn dX6_init_4 rfl ?_
  refine a_bipush (w := 7) dX6_init_5 (by decide) ?_
  refine a_newa (t := 2) (N := 7) (lay' := (LAY L).take 53) dX6_init_7 acl_2 (Or.inr (Or.inr ⟨rfl, rfl⟩)) rfl (by decide) (xkL (by decide)) (by decide) (fun i => (hF0 52 (by decide)).1 i) (fun i => (hF0 52 (by decide)).2 i) (xkS (L52 L)) ⟨Nat.le_of_ble_eq_true rfl, Nat.le_of_ble_eq_true rfl⟩ ?_
  refine a_putFR (dcl := "") (j' := 0) (y := 52) dX6_init_9 flX6_13 rfl rfl (xkG (by decide) (L51 L)) (by decide) rfl rfl ?_
  have hF1 := (hF0.le (show _ ≤ 53 by decide)).sp (q := 51) (i := 0) (v := some 52) (by decide)
  refine a_aloadn dX6_init_12 rfl ?_
  refine a_bipush (w := 64) dX6_init_13 (by decide) ?_
  refine a_newa (t := 2) (N := 64) (lay' := (LAY L).take 54) dX6_init_15 acl_2 (Or.inr (Or.inr ⟨rfl, rfl⟩)) rfl (by decide) (xkL (by decide)) (by decide) (fun i => (hF1 53 (by decide)).1 i) (fun i => (hF1 53 (by decide)).2 i) (xkS (L53 L)) ⟨Nat.le_of_ble_eq_true rfl, Nat.le_of_ble_eq_true rfl⟩ ?_
  refine a_putFR (dcl := "") (j' := 1) (y := 53) dX6_init_17 flX6_17 rfl rfl (xkG (by decide) (L51 L)) (by decide) rfl rfl ?_
  have hF2 := (hF1.le (show _ ≤ 54 by decide)).sp (q := 51) (i := 1) (v := some 53) (by decide)
  exact a_widen (Nat.le_of_ble_eq_true rfl) (Nat.le_of_ble_eq_true rfl) (a_return dX6_init_20 rfl rfl rfl (zdet_V rfl))
set_option maxRecDepth 100000 in
set_option maxHeartbeats 4000000 in
theorem i_X0 {G : zG} {l : Launch} {L : Nat} {P : zP} {M : zM} (hF0 : FR M P 51) : AM G l yX0_init mdX0_i [aR 50, aR 4] ((LAY L).take 51) P M (zdet none ((LAY L).take 54) (sp (sp (sp (sp P 51 0 (some 52)) 51 1 (some 53)) 50 6 (some 51)) 50 0 (some 4)) M) := by
  refine AM.go [some (aR 50), some (aR 4)] rfl (Nat.le_of_ble_eq_true rfl) ?_ (by decide) rfl rfl
  refine a_aloadn dX0_init_0 rfl ?_
  refine a_objI dX0_init_1 ⟨obX0_3, ob_i, ob_c⟩ (Nat.le_of_ble_eq_true rfl) ⟨by decide, by decide⟩ ?_
  refine a_aloadn dX0_init_4 rfl ?_
  refine a_new (N := 3) (lay' := (LAY L).take 52) dX0_init_5 nwX0_9 (xkL (by decide)) (by decide) (fun i => (hF0 51 (by decide)).1 i) (fun i => (hF0 51 (by decide)).2 i) (xkS (L51 L)) ⟨Nat.le_of_ble_eq_true rfl, Nat.le_of_ble_eq_true rfl⟩ ?_
  refine a_dupR dX0_init_8 ?_
  refine a_invIN (as := []) (q := 51) (C := "StaticDial") dX0_init_9 minX0_11 ⟨by decide, by decide⟩ rfl rfl (Nat.le_of_ble_eq_true rfl) ⟨Nat.le_of_ble_eq_true rfl, Nat.le_of_ble_eq_true rfl⟩ (i_X6 (hF0.le (by decide))) ?_
  rintro _ _ _ _ ⟨rfl, rfl, rfl, rfl⟩
  have hF1 := ((hF0.le (show _ ≤ 54 by decide)).sp (q := 51) (i := 0) (v := some 52) (by decide)).sp (q := 51) (i := 1) (v := some 53) (by decide)
  refine a_putFR (dcl := "") (j' := 6) (y := 51) dX0_init_12 flX0_12 rfl rfl (xkG (by decide) (L50 L)) (by decide) rfl rfl ?_
  have hF2 := (hF1.le (show _ ≤ 54 by decide)).sp (q := 50) (i := 6) (v := some 51) (by decide)
  refine a_aloadn dX0_init_15 rfl ?_
  refine a_aloadn dX0_init_16 rfl ?_
  refine a_putR (j' := 0) (y := 4) dX0_init_17 flX0_18 rfl rfl (xkG (by decide) (L50 L)) (by decide) rfl ?_
  have hF3 := (hF2.le (show _ ≤ 54 by decide)).sp (q := 50) (i := 0) (v := some 4) (by decide)
  exact a_widen (Nat.le_of_ble_eq_true rfl) (Nat.le_of_ble_eq_true rfl) (a_return dX0_init_20 rfl rfl rfl (zdet_V rfl))
set_option maxRecDepth 100000 in
set_option maxHeartbeats 4000000 in
theorem i_X3 {G : zG} {l : Launch} {L : Nat} {P : zP} {M : zM} (hF0 : FR M P 55) : AM G l yX3_init mdX3_i [aR 54, aR 50] ((LAY L).take 55) P M (zdet none ((LAY L).take 61) (sp (sp (sp (sp (sp (sp (sp P 54 1 (some 55)) 54 2 (some 56)) 54 3 (some 57)) 54 4 (some 58)) 54 5 (some 59)) 54 7 (some 60)) 54 0 (some 50)) M) := by
  refine AM.go [some (aR 54), some (aR 50)] rfl (Nat.le_of_ble_eq_true rfl) ?_ (by decide) rfl rfl
  refine a_aloadn dX3_init_0 rfl ?_
  refine a_objI dX3_init_1 ⟨obX3_5, ob_i, ob_c⟩ (Nat.le_of_ble_eq_true rfl) ⟨by decide, by decide⟩ ?_
  refine a_aloadn dX3_init_4 rfl ?_
  refine a_bipush (w := 100) dX3_init_5 (by decide) ?_
  refine a_newa (t := 1) (N := 100) (lay' := (LAY L).take 56) dX3_init_7 acl_1 (Or.inr (Or.inl ⟨rfl, rfl⟩)) rfl (by decide) (xkL (by decide)) (by decide) (fun i => (hF0 55 (by decide)).1 i) (fun i => (hF0 55 (by decide)).2 i) (xkS (L55 L)) ⟨Nat.le_of_ble_eq_true rfl, Nat.le_of_ble_eq_true rfl⟩ ?_
  refine a_putFR (dcl := "") (j' := 1) (y := 55) dX3_init_9 flX3_11 rfl rfl (xkG (by decide) (L54 L)) (by decide) rfl rfl ?_
  have hF1 := (hF0.le (show _ ≤ 56 by decide)).sp (q := 54) (i := 1) (v := some 55) (by decide)
  refine a_aloadn dX3_init_12 rfl ?_
  refine a_bipush (w := 100) dX3_init_13 (by decide) ?_
  refine a_newa (t := 1) (N := 100) (lay' := (LAY L).take 57) dX3_init_15 acl_1 (Or.inr (Or.inl ⟨rfl, rfl⟩)) rfl (by decide) (xkL (by decide)) (by decide) (fun i => (hF1 56 (by decide)).1 i) (fun i => (hF1 56 (by decide)).2 i) (xkS (L56 L)) ⟨Nat.le_of_ble_eq_true rfl, Nat.le_of_ble_eq_true rfl⟩ ?_
  refine a_putFR (dcl := "") (j' := 2) (y := 56) dX3_init_17 flX3_15 rfl rfl (xkG (by decide) (L54 L)) (by decide) rfl rfl ?_
  have hF2 := (hF1.le (show _ ≤ 57 by decide)).sp (q := 54) (i := 2) (v := some 56) (by decide)
  refine a_aloadn dX3_init_20 rfl ?_
  refine a_sipush (w := 1600) dX3_init_21 (by decide) ?_
  refine a_newa (t := 1) (N := 1600) (lay' := (LAY L).take 58) dX3_init_24 acl_1 (Or.inr (Or.inl ⟨rfl, rfl⟩)) rfl (by decide) (xkL (by decide)) (by decide) (fun i => (hF2 57 (by decide)).1 i) (fun i => (hF2 57 (by decide)).2 i) (xkS (L57 L)) ⟨Nat.le_of_ble_eq_true rfl, Nat.le_of_ble_eq_true rfl⟩ ?_
  refine a_putFR (dcl := "") (j' := 3) (y := 57) dX3_init_26 flX3_18 rfl rfl (xkG (by decide) (L54 L)) (by decide) rfl rfl ?_
  have hF3 := (hF2.le (show _ ≤ 58 by decide)).sp (q := 54) (i := 3) (v := some 57) (by decide)
  refine a_aloadn dX3_init_29 rfl ?_
  refine a_iconst dX3_init_30 ?_
  refine a_newa (t := 0) (N := 4) (lay' := (LAY L).take 59) dX3_init_31 acl_0 (Or.inl ⟨rfl, rfl⟩) rfl (by decide) (xkL (by decide)) (by decide) (fun i => (hF3 58 (by decide)).1 i) (fun i => (hF3 58 (by decide)).2 i) (xkS (L58 L)) ⟨Nat.le_of_ble_eq_true rfl, Nat.le_of_ble_eq_true rfl⟩ ?_
  refine a_putFR (dcl := "") (j' := 4) (y := 58) dX3_init_33 flX3_21 rfl rfl (xkG (by decide) (L54 L)) (by decide) rfl rfl ?_
  have hF4 := (hF3.le (show _ ≤ 59 by decide)).sp (q := 54) (i := 4) (v := some 58) (by decide)
  refine a_aloadn dX3_init_36 rfl ?_
  refine a_iconst dX3_init_37 ?_
  refine a_newa (t := 0) (N := 4) (lay' := (LAY L).take 60) dX3_init_38 acl_0 (Or.inl ⟨rfl, rfl⟩) rfl (by decide) (xkL (by decide)) (by decide) (fun i => (hF4 59 (by decide)).1 i) (fun i => (hF4 59 (by decide)).2 i) (xkS (L59 L)) ⟨Nat.le_of_ble_eq_true rfl, Nat.le_of_ble_eq_true rfl⟩ ?_
  refine a_putFR (dcl := "") (j' := 5) (y := 59) dX3_init_40 flX3_25 rfl rfl (xkG (by decide) (L54 L)) (by decide) rfl rfl ?_
  have hF5 := (hF4.le (show _ ≤ 60 by decide)).sp (q := 54) (i := 5) (v := some 59) (by decide)
  refine a_aloadn dX3_init_43 rfl ?_
  refine a_iconst dX3_init_44 ?_
  refine a_newa (t := 0) (N := 4) (lay' := (LAY L).take 61) dX3_init_45 acl_0 (Or.inl ⟨rfl, rfl⟩) rfl (by decide) (xkL (by decide)) (by decide) (fun i => (hF5 60 (by decide)).1 i) (fun i => (hF5 60 (by decide)).2 i) (xkS (L60 L)) ⟨Nat.le_of_ble_eq_true rfl, Nat.le_of_ble_eq_true rfl⟩ ?_
  refine a_putFR (dcl := "") (j' := 7) (y := 60) dX3_init_47 flX3_28 rfl rfl (xkG (by decide) (L54 L)) (by decide) rfl rfl ?_
  have hF6 := (hF5.le (show _ ≤ 61 by decide)).sp (q := 54) (i := 7) (v := some 60) (by decide)
  refine a_aloadn dX3_init_50 rfl ?_
  refine a_aloadn dX3_init_51 rfl ?_
  refine a_putFR (dcl := "") (j' := 0) (y := 50) dX3_init_52 flX3_31 rfl rfl (xkG (by decide) (L54 L)) (by decide) rfl rfl ?_
  have hF7 := (hF6.le (show _ ≤ 61 by decide)).sp (q := 54) (i := 0) (v := some 50) (by decide)
  exact a_widen (Nat.le_of_ble_eq_true rfl) (Nat.le_of_ble_eq_true rfl) (a_return dX3_init_55 rfl rfl rfl (zdet_V rfl))
set_option maxRecDepth 100000 in
set_option maxHeartbeats 4000000 in
theorem i_X2 {G : zG} {l : Launch} {L : Nat} {P : zP} {M : zM} (hF0 : FR M P 202) : AM G l yX2_init mdX2_i [aR 201] ((LAY L).take 202) P M (zdet none ((LAY L).take 208) (sp (sp (sp (sp (sp (sp P 201 0 (some 202)) 201 1 (some 203)) 201 2 (some 204)) 201 3 (some 205)) 201 4 (some 206)) 201 5 (some 207)) (sm M 201 7 (-1))) := by
  refine AM.go [some (aR 201)] rfl (Nat.le_of_ble_eq_true rfl) ?_ (by decide) rfl rfl
  refine a_aloadn dX2_init_0 rfl ?_
  refine a_objI dX2_init_1 ⟨obX2_3, ob_i, ob_c⟩ (Nat.le_of_ble_eq_true rfl) ⟨by decide, by decide⟩ ?_
  refine a_aloadn dX2_init_4 rfl ?_
  refine a_bipush (w := 24) dX2_init_5 (by decide) ?_
  refine a_newa (t := 0) (N := 24) (lay' := (LAY L).take 203) dX2_init_7 acl_0 (Or.inl ⟨rfl, rfl⟩) rfl (by decide) (xkL (by decide)) (by decide) (fun i => (hF0 202 (by decide)).1 i) (fun i => (hF0 202 (by decide)).2 i) (xkS (L202 L)) ⟨Nat.le_of_ble_eq_true rfl, Nat.le_of_ble_eq_true rfl⟩ ?_
  refine a_putFR (dcl := "") (j' := 0) (y := 202) dX2_init_9 flX2_9 rfl rfl (xkG (by decide) (L201 L)) (by decide) rfl rfl ?_
  have hF1 := (hF0.le (show _ ≤ 203 by decide)).sp (q := 201) (i := 0) (v := some 202) (by decide)
  refine a_aloadn dX2_init_12 rfl ?_
  refine a_bipush (w := 24) dX2_init_13 (by decide) ?_
  refine a_newa (t := 0) (N := 24) (lay' := (LAY L).take 204) dX2_init_15 acl_0 (Or.inl ⟨rfl, rfl⟩) rfl (by decide) (xkL (by decide)) (by decide) (fun i => (hF1 203 (by decide)).1 i) (fun i => (hF1 203 (by decide)).2 i) (xkS (L203 L)) ⟨Nat.le_of_ble_eq_true rfl, Nat.le_of_ble_eq_true rfl⟩ ?_
  refine a_putFR (dcl := "") (j' := 1) (y := 203) dX2_init_17 flX2_15 rfl rfl (xkG (by decide) (L201 L)) (by decide) rfl rfl ?_
  have hF2 := (hF1.le (show _ ≤ 204 by decide)).sp (q := 201) (i := 1) (v := some 203) (by decide)
  refine a_aloadn dX2_init_20 rfl ?_
  refine a_bipush (w := 24) dX2_init_21 (by decide) ?_
  refine a_newa (t := 0) (N := 24) (lay' := (LAY L).take 205) dX2_init_23 acl_0 (Or.inl ⟨rfl, rfl⟩) rfl (by decide) (xkL (by decide)) (by decide) (fun i => (hF2 204 (by decide)).1 i) (fun i => (hF2 204 (by decide)).2 i) (xkS (L204 L)) ⟨Nat.le_of_ble_eq_true rfl, Nat.le_of_ble_eq_true rfl⟩ ?_
  refine a_putFR (dcl := "") (j' := 2) (y := 204) dX2_init_25 flX2_18 rfl rfl (xkG (by decide) (L201 L)) (by decide) rfl rfl ?_
  have hF3 := (hF2.le (show _ ≤ 205 by decide)).sp (q := 201) (i := 2) (v := some 204) (by decide)
  refine a_aloadn dX2_init_28 rfl ?_
  refine a_bipush (w := 24) dX2_init_29 (by decide) ?_
  refine a_newa (t := 0) (N := 24) (lay' := (LAY L).take 206) dX2_init_31 acl_0 (Or.inl ⟨rfl, rfl⟩) rfl (by decide) (xkL (by decide)) (by decide) (fun i => (hF3 205 (by decide)).1 i) (fun i => (hF3 205 (by decide)).2 i) (xkS (L205 L)) ⟨Nat.le_of_ble_eq_true rfl, Nat.le_of_ble_eq_true rfl⟩ ?_
  refine a_putFR (dcl := "") (j' := 3) (y := 205) dX2_init_33 flX2_21 rfl rfl (xkG (by decide) (L201 L)) (by decide) rfl rfl ?_
  have hF4 := (hF3.le (show _ ≤ 206 by decide)).sp (q := 201) (i := 3) (v := some 205) (by decide)
  refine a_aloadn dX2_init_36 rfl ?_
  refine a_bipush (w := 24) dX2_init_37 (by decide) ?_
  refine a_newa (t := 1) (N := 24) (lay' := (LAY L).take 207) dX2_init_39 acl_1 (Or.inr (Or.inl ⟨rfl, rfl⟩)) rfl (by decide) (xkL (by decide)) (by decide) (fun i => (hF4 206 (by decide)).1 i) (fun i => (hF4 206 (by decide)).2 i) (xkS (L206 L)) ⟨Nat.le_of_ble_eq_true rfl, Nat.le_of_ble_eq_true rfl⟩ ?_
  refine a_putFR (dcl := "") (j' := 4) (y := 206) dX2_init_41 flX2_24 rfl rfl (xkG (by decide) (L201 L)) (by decide) rfl rfl ?_
  have hF5 := (hF4.le (show _ ≤ 207 by decide)).sp (q := 201) (i := 4) (v := some 206) (by decide)
  refine a_aloadn dX2_init_44 rfl ?_
  refine a_bipush (w := 24) dX2_init_45 (by decide) ?_
  refine a_newa (t := 1) (N := 24) (lay' := (LAY L).take 208) dX2_init_47 acl_1 (Or.inr (Or.inl ⟨rfl, rfl⟩)) rfl (by decide) (xkL (by decide)) (by decide) (fun i => (hF5 207 (by decide)).1 i) (fun i => (hF5 207 (by decide)).2 i) (xkS (L207 L)) ⟨Nat.le_of_ble_eq_true rfl, Nat.le_of_ble_eq_true rfl⟩ ?_
  refine a_putFR (dcl := "") (j' := 5) (y := 207) dX2_init_49 flX2_28 rfl rfl (xkG (by decide) (L201 L)) (by decide) rfl rfl ?_
  have hF6 := (hF5.le (show _ ≤ 208 by decide)).sp (q := 201) (i := 5) (v := some 207) (by decide)
  refine a_aloadn dX2_init_52 rfl ?_
  refine a_iconst dX2_init_53 ?_
  refine a_putI (j' := 7) dX2_init_54 flX2_31 rfl rfl (xkG (by decide) (L201 L)) (by decide) rfl ⟨by decide, by decide⟩ ?_
  have hF7 := (hF6.le (show _ ≤ 208 by decide)).sm (q := 201) (i := 7) (v := -1) (by decide)
  exact a_widen (Nat.le_of_ble_eq_true rfl) (Nat.le_of_ble_eq_true rfl) (a_return dX2_init_57 rfl rfl rfl (zdet_V rfl))
set_option maxRecDepth 100000 in
set_option maxHeartbeats 4000000 in
theorem i_X9 {G : zG} {l : Launch} {L : Nat} {P : zP} {M : zM} (hF0 : FR M P 80) : AM G l yX9_init mdX9_i [aR 79] ((LAY L).take 80) P M (zdet none ((LAY L).take 201) (sp (pS (sp (pS (sp (pS (sp (pS (sp (pS (sp (pS (sp (pS (sp (pS (sp (pS (sp (pS (sp (pS (sp (pS (sp (pS (sp (pS (sp (pS (sp (pS (sp (pS (sp (pS (sp (pS (sp (pS (sp P 79 0 (some 80)) 81) 80 0 (some 81)) 87) 80 1 (some 87)) 93) 80 2 (some 93)) 99) 80 3 (some 99)) 105) 80 4 (some 105)) 111) 80 5 (some 111)) 117) 80 6 (some 117)) 123) 80 7 (some 123)) 129) 80 8 (some 129)) 135) 80 9 (some 135)) 141) 80 10 (some 141)) 147) 80 11 (some 147)) 153) 80 12 (some 153)) 159) 80 13 (some 159)) 165) 80 14 (some 165)) 171) 80 15 (some 171)) 177) 80 16 (some 177)) 183) 80 17 (some 183)) 189) 80 18 (some 189)) 195) 80 19 (some 195)) M) := by
  refine AM.go [some (aR 79), none] rfl (Nat.le_of_ble_eq_true rfl) ?_ (by decide) rfl rfl
  refine a_aloadn dX9_init_0 rfl ?_
  refine a_objI dX9_init_1 ⟨obX9_3, ob_i, ob_c⟩ (Nat.le_of_ble_eq_true rfl) ⟨by decide, by decide⟩ ?_
  refine a_aloadn dX9_init_4 rfl ?_
  refine a_bipush (w := 20) dX9_init_5 (by decide) ?_
  refine a_anewa (t := 4) (N := 20) (lay' := (LAY L).take 81) dX9_init_7 clkX9_9 (Or.inr ⟨rfl, rfl⟩) rfl (by decide) (xkL (by decide)) (by decide) (fun i => (hF0 80 (by decide)).1 i) (fun i => (hF0 80 (by decide)).2 i) (xkS (L80 L)) ⟨Nat.le_of_ble_eq_true rfl, Nat.le_of_ble_eq_true rfl⟩ ?_
  refine a_putFR (dcl := "") (j' := 0) (y := 80) dX9_init_10 flX9_11 rfl rfl (xkG (by decide) (L79 L)) (by decide) rfl rfl ?_
  have hF1 := (hF0.le (show _ ≤ 81 by decide)).sp (q := 79) (i := 0) (v := some 80) (by decide)
  refine a_iconst dX9_init_13 ?_
  refine c_istoren (ls' := [some (aR 79), some (aI 0)]) dX9_init_14 (by decide) rfl rfl ?_
  refine a_iloadn dX9_init_15 rfl ?_
  refine a_bipush (w := 20) dX9_init_16 (by decide) ?_
  refine a_icmp_ge (tgt := 40) dX9_init_18 (by decide) ⟨by decide, by decide⟩ ⟨by decide, by decide⟩ (fun hb => absurd hb (by decide)) (fun _ => ?_)
  refine a_aloadn dX9_init_21 rfl ?_
  refine a_getR (j' := 0) (y := 80) dX9_init_22 flX9_11 rfl rfl (xkG (by decide) (L79 L)) rfl ?_
  refine a_iloadn dX9_init_25 rfl ?_
  refine a_new (N := 7) (lay' := (LAY L).take 82) dX9_init_26 nwX9_9 (xkL (by decide)) (by decide) (fun i => (hF1 81 (by decide)).1 i) (fun i => (hF1 81 (by decide)).2 i) (xkS (L81 L)) ⟨Nat.le_of_ble_eq_true rfl, Nat.le_of_ble_eq_true rfl⟩ ?_
  refine a_dupR dX9_init_29 ?_
  refine a_invIN (as := []) (q := 81) (C := "StaticDial") dX9_init_30 minX9_17 ⟨by decide, by decide⟩ rfl rfl (Nat.le_of_ble_eq_true rfl) ⟨Nat.le_of_ble_eq_true rfl, Nat.le_of_ble_eq_true rfl⟩ (i_X5 (lay' := (LAY L).take 87) (xkL (by decide)) (xkG (by decide) (L81 L)) (by decide) (by decide) (hF1.le (by decide)) rfl) ?_
  rintro _ _ _ _ ⟨rfl, rfl, rfl, rfl⟩
  have hF2 := (hF1.le (show _ ≤ 87 by decide)).pS (q := 81) (by decide)
  refine a_aast (t := 4) (N := 20) dX9_init_33 (xkG (by decide) (L80 L)) (by decide) (Or.inr ⟨rfl, rfl⟩) (by decide) (by decide) (by decide) (xkG (by decide) (L81 L)) ?_
  have hF3 := (hF2.le (show _ ≤ 87 by decide)).sp (q := 80) (i := 0) (v := some 81) (by decide)
  refine c_iinc (ls' := [some (aR 79), some (aI 1)]) dX9_init_34 rfl (by decide) rfl rfl ?_
  refine a_goto (tgt := 15) dX9_init_37 (by decide) ?_
  refine a_iloadn dX9_init_15 rfl ?_
  refine a_bipush (w := 20) dX9_init_16 (by decide) ?_
  refine a_icmp_ge (tgt := 40) dX9_init_18 (by decide) ⟨by decide, by decide⟩ ⟨by decide, by decide⟩ (fun hb => absurd hb (by decide)) (fun _ => ?_)
  refine a_aloadn dX9_init_21 rfl ?_
  refine a_getR (j' := 0) (y := 80) dX9_init_22 flX9_11 rfl rfl (xkG (by decide) (L79 L)) rfl ?_
  refine a_iloadn dX9_init_25 rfl ?_
  refine a_new (N := 7) (lay' := (LAY L).take 88) dX9_init_26 nwX9_9 (xkL (by decide)) (by decide) (fun i => (hF3 87 (by decide)).1 i) (fun i => (hF3 87 (by decide)).2 i) (xkS (L87 L)) ⟨Nat.le_of_ble_eq_true rfl, Nat.le_of_ble_eq_true rfl⟩ ?_
  refine a_dupR dX9_init_29 ?_
  refine a_invIN (as := []) (q := 87) (C := "StaticDial") dX9_init_30 minX9_17 ⟨by decide, by decide⟩ rfl rfl (Nat.le_of_ble_eq_true rfl) ⟨Nat.le_of_ble_eq_true rfl, Nat.le_of_ble_eq_true rfl⟩ (i_X5 (lay' := (LAY L).take 93) (xkL (by decide)) (xkG (by decide) (L87 L)) (by decide) (by decide) (hF3.le (by decide)) rfl) ?_
  rintro _ _ _ _ ⟨rfl, rfl, rfl, rfl⟩
  have hF4 := (hF3.le (show _ ≤ 93 by decide)).pS (q := 87) (by decide)
  refine a_aast (t := 4) (N := 20) dX9_init_33 (xkG (by decide) (L80 L)) (by decide) (Or.inr ⟨rfl, rfl⟩) (by decide) (by decide) (by decide) (xkG (by decide) (L87 L)) ?_
  have hF5 := (hF4.le (show _ ≤ 93 by decide)).sp (q := 80) (i := 1) (v := some 87) (by decide)
  refine c_iinc (ls' := [some (aR 79), some (aI 2)]) dX9_init_34 rfl (by decide) rfl rfl ?_
  refine a_goto (tgt := 15) dX9_init_37 (by decide) ?_
  refine a_iloadn dX9_init_15 rfl ?_
  refine a_bipush (w := 20) dX9_init_16 (by decide) ?_
  refine a_icmp_ge (tgt := 40) dX9_init_18 (by decide) ⟨by decide, by decide⟩ ⟨by decide, by decide⟩ (fun hb => absurd hb (by decide)) (fun _ => ?_)
  refine a_aloadn dX9_init_21 rfl ?_
  refine a_getR (j' := 0) (y := 80) dX9_init_22 flX9_11 rfl rfl (xkG (by decide) (L79 L)) rfl ?_
  refine a_iloadn dX9_init_25 rfl ?_
  refine a_new (N := 7) (lay' := (LAY L).take 94) dX9_init_26 nwX9_9 (xkL (by decide)) (by decide) (fun i => (hF5 93 (by decide)).1 i) (fun i => (hF5 93 (by decide)).2 i) (xkS (L93 L)) ⟨Nat.le_of_ble_eq_true rfl, Nat.le_of_ble_eq_true rfl⟩ ?_
  refine a_dupR dX9_init_29 ?_
  refine a_invIN (as := []) (q := 93) (C := "StaticDial") dX9_init_30 minX9_17 ⟨by decide, by decide⟩ rfl rfl (Nat.le_of_ble_eq_true rfl) ⟨Nat.le_of_ble_eq_true rfl, Nat.le_of_ble_eq_true rfl⟩ (i_X5 (lay' := (LAY L).take 99) (xkL (by decide)) (xkG (by decide) (L93 L)) (by decide) (by decide) (hF5.le (by decide)) rfl) ?_
  rintro _ _ _ _ ⟨rfl, rfl, rfl, rfl⟩
  have hF6 := (hF5.le (show _ ≤ 99 by decide)).pS (q := 93) (by decide)
  refine a_aast (t := 4) (N := 20) dX9_init_33 (xkG (by decide) (L80 L)) (by decide) (Or.inr ⟨rfl, rfl⟩) (by decide) (by decide) (by decide) (xkG (by decide) (L93 L)) ?_
  have hF7 := (hF6.le (show _ ≤ 99 by decide)).sp (q := 80) (i := 2) (v := some 93) (by decide)
  refine c_iinc (ls' := [some (aR 79), some (aI 3)]) dX9_init_34 rfl (by decide) rfl rfl ?_
  refine a_goto (tgt := 15) dX9_init_37 (by decide) ?_
  refine a_iloadn dX9_init_15 rfl ?_
  refine a_bipush (w := 20) dX9_init_16 (by decide) ?_
  refine a_icmp_ge (tgt := 40) dX9_init_18 (by decide) ⟨by decide, by decide⟩ ⟨by decide, by decide⟩ (fun hb => absurd hb (by decide)) (fun _ => ?_)
  refine a_aloadn dX9_init_21 rfl ?_
  refine a_getR (j' := 0) (y := 80) dX9_init_22 flX9_11 rfl rfl (xkG (by decide) (L79 L)) rfl ?_
  refine a_iloadn dX9_init_25 rfl ?_
  refine a_new (N := 7) (lay' := (LAY L).take 100) dX9_init_26 nwX9_9 (xkL (by decide)) (by decide) (fun i => (hF7 99 (by decide)).1 i) (fun i => (hF7 99 (by decide)).2 i) (xkS (L99 L)) ⟨Nat.le_of_ble_eq_true rfl, Nat.le_of_ble_eq_true rfl⟩ ?_
  refine a_dupR dX9_init_29 ?_
  refine a_invIN (as := []) (q := 99) (C := "StaticDial") dX9_init_30 minX9_17 ⟨by decide, by decide⟩ rfl rfl (Nat.le_of_ble_eq_true rfl) ⟨Nat.le_of_ble_eq_true rfl, Nat.le_of_ble_eq_true rfl⟩ (i_X5 (lay' := (LAY L).take 105) (xkL (by decide)) (xkG (by decide) (L99 L)) (by decide) (by decide) (hF7.le (by decide)) rfl) ?_
  rintro _ _ _ _ ⟨rfl, rfl, rfl, rfl⟩
  have hF8 := (hF7.le (show _ ≤ 105 by decide)).pS (q := 99) (by decide)
  refine a_aast (t := 4) (N := 20) dX9_init_33 (xkG (by decide) (L80 L)) (by decide) (Or.inr ⟨rfl, rfl⟩) (by decide) (by decide) (by decide) (xkG (by decide) (L99 L)) ?_
  have hF9 := (hF8.le (show _ ≤ 105 by decide)).sp (q := 80) (i := 3) (v := some 99) (by decide)
  refine c_iinc (ls' := [some (aR 79), some (aI 4)]) dX9_init_34 rfl (by decide) rfl rfl ?_
  refine a_goto (tgt := 15) dX9_init_37 (by decide) ?_
  refine a_iloadn dX9_init_15 rfl ?_
  refine a_bipush (w := 20) dX9_init_16 (by decide) ?_
  refine a_icmp_ge (tgt := 40) dX9_init_18 (by decide) ⟨by decide, by decide⟩ ⟨by decide, by decide⟩ (fun hb => absurd hb (by decide)) (fun _ => ?_)
  refine a_aloadn dX9_init_21 rfl ?_
  refine a_getR (j' := 0) (y := 80) dX9_init_22 flX9_11 rfl rfl (xkG (by decide) (L79 L)) rfl ?_
  refine a_iloadn dX9_init_25 rfl ?_
  refine a_new (N := 7) (lay' := (LAY L).take 106) dX9_init_26 nwX9_9 (xkL (by decide)) (by decide) (fun i => (hF9 105 (by decide)).1 i) (fun i => (hF9 105 (by decide)).2 i) (xkS (L105 L)) ⟨Nat.le_of_ble_eq_true rfl, Nat.le_of_ble_eq_true rfl⟩ ?_
  refine a_dupR dX9_init_29 ?_
  refine a_invIN (as := []) (q := 105) (C := "StaticDial") dX9_init_30 minX9_17 ⟨by decide, by decide⟩ rfl rfl (Nat.le_of_ble_eq_true rfl) ⟨Nat.le_of_ble_eq_true rfl, Nat.le_of_ble_eq_true rfl⟩ (i_X5 (lay' := (LAY L).take 111) (xkL (by decide)) (xkG (by decide) (L105 L)) (by decide) (by decide) (hF9.le (by decide)) rfl) ?_
  rintro _ _ _ _ ⟨rfl, rfl, rfl, rfl⟩
  have hF10 := (hF9.le (show _ ≤ 111 by decide)).pS (q := 105) (by decide)
  refine a_aast (t := 4) (N := 20) dX9_init_33 (xkG (by decide) (L80 L)) (by decide) (Or.inr ⟨rfl, rfl⟩) (by decide) (by decide) (by decide) (xkG (by decide) (L105 L)) ?_
  have hF11 := (hF10.le (show _ ≤ 111 by decide)).sp (q := 80) (i := 4) (v := some 105) (by decide)
  refine c_iinc (ls' := [some (aR 79), some (aI 5)]) dX9_init_34 rfl (by decide) rfl rfl ?_
  refine a_goto (tgt := 15) dX9_init_37 (by decide) ?_
  refine a_iloadn dX9_init_15 rfl ?_
  refine a_bipush (w := 20) dX9_init_16 (by decide) ?_
  refine a_icmp_ge (tgt := 40) dX9_init_18 (by decide) ⟨by decide, by decide⟩ ⟨by decide, by decide⟩ (fun hb => absurd hb (by decide)) (fun _ => ?_)
  refine a_aloadn dX9_init_21 rfl ?_
  refine a_getR (j' := 0) (y := 80) dX9_init_22 flX9_11 rfl rfl (xkG (by decide) (L79 L)) rfl ?_
  refine a_iloadn dX9_init_25 rfl ?_
  refine a_new (N := 7) (lay' := (LAY L).take 112) dX9_init_26 nwX9_9 (xkL (by decide)) (by decide) (fun i => (hF11 111 (by decide)).1 i) (fun i => (hF11 111 (by decide)).2 i) (xkS (L111 L)) ⟨Nat.le_of_ble_eq_true rfl, Nat.le_of_ble_eq_true rfl⟩ ?_
  refine a_dupR dX9_init_29 ?_
  refine a_invIN (as := []) (q := 111) (C := "StaticDial") dX9_init_30 minX9_17 ⟨by decide, by decide⟩ rfl rfl (Nat.le_of_ble_eq_true rfl) ⟨Nat.le_of_ble_eq_true rfl, Nat.le_of_ble_eq_true rfl⟩ (i_X5 (lay' := (LAY L).take 117) (xkL (by decide)) (xkG (by decide) (L111 L)) (by decide) (by decide) (hF11.le (by decide)) rfl) ?_
  rintro _ _ _ _ ⟨rfl, rfl, rfl, rfl⟩
  have hF12 := (hF11.le (show _ ≤ 117 by decide)).pS (q := 111) (by decide)
  refine a_aast (t := 4) (N := 20) dX9_init_33 (xkG (by decide) (L80 L)) (by decide) (Or.inr ⟨rfl, rfl⟩) (by decide) (by decide) (by decide) (xkG (by decide) (L111 L)) ?_
  have hF13 := (hF12.le (show _ ≤ 117 by decide)).sp (q := 80) (i := 5) (v := some 111) (by decide)
  refine c_iinc (ls' := [some (aR 79), some (aI 6)]) dX9_init_34 rfl (by decide) rfl rfl ?_
  refine a_goto (tgt := 15) dX9_init_37 (by decide) ?_
  refine a_iloadn dX9_init_15 rfl ?_
  refine a_bipush (w := 20) dX9_init_16 (by decide) ?_
  refine a_icmp_ge (tgt := 40) dX9_init_18 (by decide) ⟨by decide, by decide⟩ ⟨by decide, by decide⟩ (fun hb => absurd hb (by decide)) (fun _ => ?_)
  refine a_aloadn dX9_init_21 rfl ?_
  refine a_getR (j' := 0) (y := 80) dX9_init_22 flX9_11 rfl rfl (xkG (by decide) (L79 L)) rfl ?_
  refine a_iloadn dX9_init_25 rfl ?_
  refine a_new (N := 7) (lay' := (LAY L).take 118) dX9_init_26 nwX9_9 (xkL (by decide)) (by decide) (fun i => (hF13 117 (by decide)).1 i) (fun i => (hF13 117 (by decide)).2 i) (xkS (L117 L)) ⟨Nat.le_of_ble_eq_true rfl, Nat.le_of_ble_eq_true rfl⟩ ?_
  refine a_dupR dX9_init_29 ?_
  refine a_invIN (as := []) (q := 117) (C := "StaticDial") dX9_init_30 minX9_17 ⟨by decide, by decide⟩ rfl rfl (Nat.le_of_ble_eq_true rfl) ⟨Nat.le_of_ble_eq_true rfl, Nat.le_of_ble_eq_true rfl⟩ (i_X5 (lay' := (LAY L).take 123) (xkL (by decide)) (xkG (by decide) (L117 L)) (by decide) (by decide) (hF13.le (by decide)) rfl) ?_
  rintro _ _ _ _ ⟨rfl, rfl, rfl, rfl⟩
  have hF14 := (hF13.le (show _ ≤ 123 by decide)).pS (q := 117) (by decide)
  refine a_aast (t := 4) (N := 20) dX9_init_33 (xkG (by decide) (L80 L)) (by decide) (Or.inr ⟨rfl, rfl⟩) (by decide) (by decide) (by decide) (xkG (by decide) (L117 L)) ?_
  have hF15 := (hF14.le (show _ ≤ 123 by decide)).sp (q := 80) (i := 6) (v := some 117) (by decide)
  refine c_iinc (ls' := [some (aR 79), some (aI 7)]) dX9_init_34 rfl (by decide) rfl rfl ?_
  refine a_goto (tgt := 15) dX9_init_37 (by decide) ?_
  refine a_iloadn dX9_init_15 rfl ?_
  refine a_bipush (w := 20) dX9_init_16 (by decide) ?_
  refine a_icmp_ge (tgt := 40) dX9_init_18 (by decide) ⟨by decide, by decide⟩ ⟨by decide, by decide⟩ (fun hb => absurd hb (by decide)) (fun _ => ?_)
  refine a_aloadn dX9_init_21 rfl ?_
  refine a_getR (j' := 0) (y := 80) dX9_init_22 flX9_11 rfl rfl (xkG (by decide) (L79 L)) rfl ?_
  refine a_iloadn dX9_init_25 rfl ?_
  refine a_new (N := 7) (lay' := (LAY L).take 124) dX9_init_26 nwX9_9 (xkL (by decide)) (by decide) (fun i => (hF15 123 (by decide)).1 i) (fun i => (hF15 123 (by decide)).2 i) (xkS (L123 L)) ⟨Nat.le_of_ble_eq_true rfl, Nat.le_of_ble_eq_true rfl⟩ ?_
  refine a_dupR dX9_init_29 ?_
  refine a_invIN (as := []) (q := 123) (C := "StaticDial") dX9_init_30 minX9_17 ⟨by decide, by decide⟩ rfl rfl (Nat.le_of_ble_eq_true rfl) ⟨Nat.le_of_ble_eq_true rfl, Nat.le_of_ble_eq_true rfl⟩ (i_X5 (lay' := (LAY L).take 129) (xkL (by decide)) (xkG (by decide) (L123 L)) (by decide) (by decide) (hF15.le (by decide)) rfl) ?_
  rintro _ _ _ _ ⟨rfl, rfl, rfl, rfl⟩
  have hF16 := (hF15.le (show _ ≤ 129 by decide)).pS (q := 123) (by decide)
  refine a_aast (t := 4) (N := 20) dX9_init_33 (xkG (by decide) (L80 L)) (by decide) (Or.inr ⟨rfl, rfl⟩) (by decide) (by decide) (by decide) (xkG (by decide) (L123 L)) ?_
  have hF17 := (hF16.le (show _ ≤ 129 by decide)).sp (q := 80) (i := 7) (v := some 123) (by decide)
  refine c_iinc (ls' := [some (aR 79), some (aI 8)]) dX9_init_34 rfl (by decide) rfl rfl ?_
  refine a_goto (tgt := 15) dX9_init_37 (by decide) ?_
  refine a_iloadn dX9_init_15 rfl ?_
  refine a_bipush (w := 20) dX9_init_16 (by decide) ?_
  refine a_icmp_ge (tgt := 40) dX9_init_18 (by decide) ⟨by decide, by decide⟩ ⟨by decide, by decide⟩ (fun hb => absurd hb (by decide)) (fun _ => ?_)
  refine a_aloadn dX9_init_21 rfl ?_
  refine a_getR (j' := 0) (y := 80) dX9_init_22 flX9_11 rfl rfl (xkG (by decide) (L79 L)) rfl ?_
  refine a_iloadn dX9_init_25 rfl ?_
  refine a_new (N := 7) (lay' := (LAY L).take 130) dX9_init_26 nwX9_9 (xkL (by decide)) (by decide) (fun i => (hF17 129 (by decide)).1 i) (fun i => (hF17 129 (by decide)).2 i) (xkS (L129 L)) ⟨Nat.le_of_ble_eq_true rfl, Nat.le_of_ble_eq_true rfl⟩ ?_
  refine a_dupR dX9_init_29 ?_
  refine a_invIN (as := []) (q := 129) (C := "StaticDial") dX9_init_30 minX9_17 ⟨by decide, by decide⟩ rfl rfl (Nat.le_of_ble_eq_true rfl) ⟨Nat.le_of_ble_eq_true rfl, Nat.le_of_ble_eq_true rfl⟩ (i_X5 (lay' := (LAY L).take 135) (xkL (by decide)) (xkG (by decide) (L129 L)) (by decide) (by decide) (hF17.le (by decide)) rfl) ?_
  rintro _ _ _ _ ⟨rfl, rfl, rfl, rfl⟩
  have hF18 := (hF17.le (show _ ≤ 135 by decide)).pS (q := 129) (by decide)
  refine a_aast (t := 4) (N := 20) dX9_init_33 (xkG (by decide) (L80 L)) (by decide) (Or.inr ⟨rfl, rfl⟩) (by decide) (by decide) (by decide) (xkG (by decide) (L129 L)) ?_
  have hF19 := (hF18.le (show _ ≤ 135 by decide)).sp (q := 80) (i := 8) (v := some 129) (by decide)
  refine c_iinc (ls' := [some (aR 79), some (aI 9)]) dX9_init_34 rfl (by decide) rfl rfl ?_
  refine a_goto (tgt := 15) dX9_init_37 (by decide) ?_
  refine a_iloadn dX9_init_15 rfl ?_
  refine a_bipush (w := 20) dX9_init_16 (by decide) ?_
  refine a_icmp_ge (tgt := 40) dX9_init_18 (by decide) ⟨by decide, by decide⟩ ⟨by decide, by decide⟩ (fun hb => absurd hb (by decide)) (fun _ => ?_)
  refine a_aloadn dX9_init_21 rfl ?_
  refine a_getR (j' := 0) (y := 80) dX9_init_22 flX9_11 rfl rfl (xkG (by decide) (L79 L)) rfl ?_
  refine a_iloadn dX9_init_25 rfl ?_
  refine a_new (N := 7) (lay' := (LAY L).take 136) dX9_init_26 nwX9_9 (xkL (by decide)) (by decide) (fun i => (hF19 135 (by decide)).1 i) (fun i => (hF19 135 (by decide)).2 i) (xkS (L135 L)) ⟨Nat.le_of_ble_eq_true rfl, Nat.le_of_ble_eq_true rfl⟩ ?_
  refine a_dupR dX9_init_29 ?_
  refine a_invIN (as := []) (q := 135) (C := "StaticDial") dX9_init_30 minX9_17 ⟨by decide, by decide⟩ rfl rfl (Nat.le_of_ble_eq_true rfl) ⟨Nat.le_of_ble_eq_true rfl, Nat.le_of_ble_eq_true rfl⟩ (i_X5 (lay' := (LAY L).take 141) (xkL (by decide)) (xkG (by decide) (L135 L)) (by decide) (by decide) (hF19.le (by decide)) rfl) ?_
  rintro _ _ _ _ ⟨rfl, rfl, rfl, rfl⟩
  have hF20 := (hF19.le (show _ ≤ 141 by decide)).pS (q := 135) (by decide)
  refine a_aast (t := 4) (N := 20) dX9_init_33 (xkG (by decide) (L80 L)) (by decide) (Or.inr ⟨rfl, rfl⟩) (by decide) (by decide) (by decide) (xkG (by decide) (L135 L)) ?_
  have hF21 := (hF20.le (show _ ≤ 141 by decide)).sp (q := 80) (i := 9) (v := some 135) (by decide)
  refine c_iinc (ls' := [some (aR 79), some (aI 10)]) dX9_init_34 rfl (by decide) rfl rfl ?_
  refine a_goto (tgt := 15) dX9_init_37 (by decide) ?_
  refine a_iloadn dX9_init_15 rfl ?_
  refine a_bipush (w := 20) dX9_init_16 (by decide) ?_
  refine a_icmp_ge (tgt := 40) dX9_init_18 (by decide) ⟨by decide, by decide⟩ ⟨by decide, by decide⟩ (fun hb => absurd hb (by decide)) (fun _ => ?_)
  refine a_aloadn dX9_init_21 rfl ?_
  refine a_getR (j' := 0) (y := 80) dX9_init_22 flX9_11 rfl rfl (xkG (by decide) (L79 L)) rfl ?_
  refine a_iloadn dX9_init_25 rfl ?_
  refine a_new (N := 7) (lay' := (LAY L).take 142) dX9_init_26 nwX9_9 (xkL (by decide)) (by decide) (fun i => (hF21 141 (by decide)).1 i) (fun i => (hF21 141 (by decide)).2 i) (xkS (L141 L)) ⟨Nat.le_of_ble_eq_true rfl, Nat.le_of_ble_eq_true rfl⟩ ?_
  refine a_dupR dX9_init_29 ?_
  refine a_invIN (as := []) (q := 141) (C := "StaticDial") dX9_init_30 minX9_17 ⟨by decide, by decide⟩ rfl rfl (Nat.le_of_ble_eq_true rfl) ⟨Nat.le_of_ble_eq_true rfl, Nat.le_of_ble_eq_true rfl⟩ (i_X5 (lay' := (LAY L).take 147) (xkL (by decide)) (xkG (by decide) (L141 L)) (by decide) (by decide) (hF21.le (by decide)) rfl) ?_
  rintro _ _ _ _ ⟨rfl, rfl, rfl, rfl⟩
  have hF22 := (hF21.le (show _ ≤ 147 by decide)).pS (q := 141) (by decide)
  refine a_aast (t := 4) (N := 20) dX9_init_33 (xkG (by decide) (L80 L)) (by decide) (Or.inr ⟨rfl, rfl⟩) (by decide) (by decide) (by decide) (xkG (by decide) (L141 L)) ?_
  have hF23 := (hF22.le (show _ ≤ 147 by decide)).sp (q := 80) (i := 10) (v := some 141) (by decide)
  refine c_iinc (ls' := [some (aR 79), some (aI 11)]) dX9_init_34 rfl (by decide) rfl rfl ?_
  refine a_goto (tgt := 15) dX9_init_37 (by decide) ?_
  refine a_iloadn dX9_init_15 rfl ?_
  refine a_bipush (w := 20) dX9_init_16 (by decide) ?_
  refine a_icmp_ge (tgt := 40) dX9_init_18 (by decide) ⟨by decide, by decide⟩ ⟨by decide, by decide⟩ (fun hb => absurd hb (by decide)) (fun _ => ?_)
  refine a_aloadn dX9_init_21 rfl ?_
  refine a_getR (j' := 0) (y := 80) dX9_init_22 flX9_11 rfl rfl (xkG (by decide) (L79 L)) rfl ?_
  refine a_iloadn dX9_init_25 rfl ?_
  refine a_new (N := 7) (lay' := (LAY L).take 148) dX9_init_26 nwX9_9 (xkL (by decide)) (by decide) (fun i => (hF23 147 (by decide)).1 i) (fun i => (hF23 147 (by decide)).2 i) (xkS (L147 L)) ⟨Nat.le_of_ble_eq_true rfl, Nat.le_of_ble_eq_true rfl⟩ ?_
  refine a_dupR dX9_init_29 ?_
  refine a_invIN (as := []) (q := 147) (C := "StaticDial") dX9_init_30 minX9_17 ⟨by decide, by decide⟩ rfl rfl (Nat.le_of_ble_eq_true rfl) ⟨Nat.le_of_ble_eq_true rfl, Nat.le_of_ble_eq_true rfl⟩ (i_X5 (lay' := (LAY L).take 153) (xkL (by decide)) (xkG (by decide) (L147 L)) (by decide) (by decide) (hF23.le (by decide)) rfl) ?_
  rintro _ _ _ _ ⟨rfl, rfl, rfl, rfl⟩
  have hF24 := (hF23.le (show _ ≤ 153 by decide)).pS (q := 147) (by decide)
  refine a_aast (t := 4) (N := 20) dX9_init_33 (xkG (by decide) (L80 L)) (by decide) (Or.inr ⟨rfl, rfl⟩) (by decide) (by decide) (by decide) (xkG (by decide) (L147 L)) ?_
  have hF25 := (hF24.le (show _ ≤ 153 by decide)).sp (q := 80) (i := 11) (v := some 147) (by decide)
  refine c_iinc (ls' := [some (aR 79), some (aI 12)]) dX9_init_34 rfl (by decide) rfl rfl ?_
  refine a_goto (tgt := 15) dX9_init_37 (by decide) ?_
  refine a_iloadn dX9_init_15 rfl ?_
  refine a_bipush (w := 20) dX9_init_16 (by decide) ?_
  refine a_icmp_ge (tgt := 40) dX9_init_18 (by decide) ⟨by decide, by decide⟩ ⟨by decide, by decide⟩ (fun hb => absurd hb (by decide)) (fun _ => ?_)
  refine a_aloadn dX9_init_21 rfl ?_
  refine a_getR (j' := 0) (y := 80) dX9_init_22 flX9_11 rfl rfl (xkG (by decide) (L79 L)) rfl ?_
  refine a_iloadn dX9_init_25 rfl ?_
  refine a_new (N := 7) (lay' := (LAY L).take 154) dX9_init_26 nwX9_9 (xkL (by decide)) (by decide) (fun i => (hF25 153 (by decide)).1 i) (fun i => (hF25 153 (by decide)).2 i) (xkS (L153 L)) ⟨Nat.le_of_ble_eq_true rfl, Nat.le_of_ble_eq_true rfl⟩ ?_
  refine a_dupR dX9_init_29 ?_
  refine a_invIN (as := []) (q := 153) (C := "StaticDial") dX9_init_30 minX9_17 ⟨by decide, by decide⟩ rfl rfl (Nat.le_of_ble_eq_true rfl) ⟨Nat.le_of_ble_eq_true rfl, Nat.le_of_ble_eq_true rfl⟩ (i_X5 (lay' := (LAY L).take 159) (xkL (by decide)) (xkG (by decide) (L153 L)) (by decide) (by decide) (hF25.le (by decide)) rfl) ?_
  rintro _ _ _ _ ⟨rfl, rfl, rfl, rfl⟩
  have hF26 := (hF25.le (show _ ≤ 159 by decide)).pS (q := 153) (by decide)
  refine a_aast (t := 4) (N := 20) dX9_init_33 (xkG (by decide) (L80 L)) (by decide) (Or.inr ⟨rfl, rfl⟩) (by decide) (by decide) (by decide) (xkG (by decide) (L153 L)) ?_
  have hF27 := (hF26.le (show _ ≤ 159 by decide)).sp (q := 80) (i := 12) (v := some 153) (by decide)
  refine c_iinc (ls' := [some (aR 79), some (aI 13)]) dX9_init_34 rfl (by decide) rfl rfl ?_
  refine a_goto (tgt := 15) dX9_init_37 (by decide) ?_
  refine a_iloadn dX9_init_15 rfl ?_
  refine a_bipush (w := 20) dX9_init_16 (by decide) ?_
  refine a_icmp_ge (tgt := 40) dX9_init_18 (by decide) ⟨by decide, by decide⟩ ⟨by decide, by decide⟩ (fun hb => absurd hb (by decide)) (fun _ => ?_)
  refine a_aloadn dX9_init_21 rfl ?_
  refine a_getR (j' := 0) (y := 80) dX9_init_22 flX9_11 rfl rfl (xkG (by decide) (L79 L)) rfl ?_
  refine a_iloadn dX9_init_25 rfl ?_
  refine a_new (N := 7) (lay' := (LAY L).take 160) dX9_init_26 nwX9_9 (xkL (by decide)) (by decide) (fun i => (hF27 159 (by decide)).1 i) (fun i => (hF27 159 (by decide)).2 i) (xkS (L159 L)) ⟨Nat.le_of_ble_eq_true rfl, Nat.le_of_ble_eq_true rfl⟩ ?_
  refine a_dupR dX9_init_29 ?_
  refine a_invIN (as := []) (q := 159) (C := "StaticDial") dX9_init_30 minX9_17 ⟨by decide, by decide⟩ rfl rfl (Nat.le_of_ble_eq_true rfl) ⟨Nat.le_of_ble_eq_true rfl, Nat.le_of_ble_eq_true rfl⟩ (i_X5 (lay' := (LAY L).take 165) (xkL (by decide)) (xkG (by decide) (L159 L)) (by decide) (by decide) (hF27.le (by decide)) rfl) ?_
  rintro _ _ _ _ ⟨rfl, rfl, rfl, rfl⟩
  have hF28 := (hF27.le (show _ ≤ 165 by decide)).pS (q := 159) (by decide)
  refine a_aast (t := 4) (N := 20) dX9_init_33 (xkG (by decide) (L80 L)) (by decide) (Or.inr ⟨rfl, rfl⟩) (by decide) (by decide) (by decide) (xkG (by decide) (L159 L)) ?_
  have hF29 := (hF28.le (show _ ≤ 165 by decide)).sp (q := 80) (i := 13) (v := some 159) (by decide)
  refine c_iinc (ls' := [some (aR 79), some (aI 14)]) dX9_init_34 rfl (by decide) rfl rfl ?_
  refine a_goto (tgt := 15) dX9_init_37 (by decide) ?_
  refine a_iloadn dX9_init_15 rfl ?_
  refine a_bipush (w := 20) dX9_init_16 (by decide) ?_
  refine a_icmp_ge (tgt := 40) dX9_init_18 (by decide) ⟨by decide, by decide⟩ ⟨by decide, by decide⟩ (fun hb => absurd hb (by decide)) (fun _ => ?_)
  refine a_aloadn dX9_init_21 rfl ?_
  refine a_getR (j' := 0) (y := 80) dX9_init_22 flX9_11 rfl rfl (xkG (by decide) (L79 L)) rfl ?_
  refine a_iloadn dX9_init_25 rfl ?_
  refine a_new (N := 7) (lay' := (LAY L).take 166) dX9_init_26 nwX9_9 (xkL (by decide)) (by decide) (fun i => (hF29 165 (by decide)).1 i) (fun i => (hF29 165 (by decide)).2 i) (xkS (L165 L)) ⟨Nat.le_of_ble_eq_true rfl, Nat.le_of_ble_eq_true rfl⟩ ?_
  refine a_dupR dX9_init_29 ?_
  refine a_invIN (as := []) (q := 165) (C := "StaticDial") dX9_init_30 minX9_17 ⟨by decide, by decide⟩ rfl rfl (Nat.le_of_ble_eq_true rfl) ⟨Nat.le_of_ble_eq_true rfl, Nat.le_of_ble_eq_true rfl⟩ (i_X5 (lay' := (LAY L).take 171) (xkL (by decide)) (xkG (by decide) (L165 L)) (by decide) (by decide) (hF29.le (by decide)) rfl) ?_
  rintro _ _ _ _ ⟨rfl, rfl, rfl, rfl⟩
  have hF30 := (hF29.le (show _ ≤ 171 by decide)).pS (q := 165) (by decide)
  refine a_aast (t := 4) (N := 20) dX9_init_33 (xkG (by decide) (L80 L)) (by decide) (Or.inr ⟨rfl, rfl⟩) (by decide) (by decide) (by decide) (xkG (by decide) (L165 L)) ?_
  have hF31 := (hF30.le (show _ ≤ 171 by decide)).sp (q := 80) (i := 14) (v := some 165) (by decide)
  refine c_iinc (ls' := [some (aR 79), some (aI 15)]) dX9_init_34 rfl (by decide) rfl rfl ?_
  refine a_goto (tgt := 15) dX9_init_37 (by decide) ?_
  refine a_iloadn dX9_init_15 rfl ?_
  refine a_bipush (w := 20) dX9_init_16 (by decide) ?_
  refine a_icmp_ge (tgt := 40) dX9_init_18 (by decide) ⟨by decide, by decide⟩ ⟨by decide, by decide⟩ (fun hb => absurd hb (by decide)) (fun _ => ?_)
  refine a_aloadn dX9_init_21 rfl ?_
  refine a_getR (j' := 0) (y := 80) dX9_init_22 flX9_11 rfl rfl (xkG (by decide) (L79 L)) rfl ?_
  refine a_iloadn dX9_init_25 rfl ?_
  refine a_new (N := 7) (lay' := (LAY L).take 172) dX9_init_26 nwX9_9 (xkL (by decide)) (by decide) (fun i => (hF31 171 (by decide)).1 i) (fun i => (hF31 171 (by decide)).2 i) (xkS (L171 L)) ⟨Nat.le_of_ble_eq_true rfl, Nat.le_of_ble_eq_true rfl⟩ ?_
  refine a_dupR dX9_init_29 ?_
  refine a_invIN (as := []) (q := 171) (C := "StaticDial") dX9_init_30 minX9_17 ⟨by decide, by decide⟩ rfl rfl (Nat.le_of_ble_eq_true rfl) ⟨Nat.le_of_ble_eq_true rfl, Nat.le_of_ble_eq_true rfl⟩ (i_X5 (lay' := (LAY L).take 177) (xkL (by decide)) (xkG (by decide) (L171 L)) (by decide) (by decide) (hF31.le (by decide)) rfl) ?_
  rintro _ _ _ _ ⟨rfl, rfl, rfl, rfl⟩
  have hF32 := (hF31.le (show _ ≤ 177 by decide)).pS (q := 171) (by decide)
  refine a_aast (t := 4) (N := 20) dX9_init_33 (xkG (by decide) (L80 L)) (by decide) (Or.inr ⟨rfl, rfl⟩) (by decide) (by decide) (by decide) (xkG (by decide) (L171 L)) ?_
  have hF33 := (hF32.le (show _ ≤ 177 by decide)).sp (q := 80) (i := 15) (v := some 171) (by decide)
  refine c_iinc (ls' := [some (aR 79), some (aI 16)]) dX9_init_34 rfl (by decide) rfl rfl ?_
  refine a_goto (tgt := 15) dX9_init_37 (by decide) ?_
  refine a_iloadn dX9_init_15 rfl ?_
  refine a_bipush (w := 20) dX9_init_16 (by decide) ?_
  refine a_icmp_ge (tgt := 40) dX9_init_18 (by decide) ⟨by decide, by decide⟩ ⟨by decide, by decide⟩ (fun hb => absurd hb (by decide)) (fun _ => ?_)
  refine a_aloadn dX9_init_21 rfl ?_
  refine a_getR (j' := 0) (y := 80) dX9_init_22 flX9_11 rfl rfl (xkG (by decide) (L79 L)) rfl ?_
  refine a_iloadn dX9_init_25 rfl ?_
  refine a_new (N := 7) (lay' := (LAY L).take 178) dX9_init_26 nwX9_9 (xkL (by decide)) (by decide) (fun i => (hF33 177 (by decide)).1 i) (fun i => (hF33 177 (by decide)).2 i) (xkS (L177 L)) ⟨Nat.le_of_ble_eq_true rfl, Nat.le_of_ble_eq_true rfl⟩ ?_
  refine a_dupR dX9_init_29 ?_
  refine a_invIN (as := []) (q := 177) (C := "StaticDial") dX9_init_30 minX9_17 ⟨by decide, by decide⟩ rfl rfl (Nat.le_of_ble_eq_true rfl) ⟨Nat.le_of_ble_eq_true rfl, Nat.le_of_ble_eq_true rfl⟩ (i_X5 (lay' := (LAY L).take 183) (xkL (by decide)) (xkG (by decide) (L177 L)) (by decide) (by decide) (hF33.le (by decide)) rfl) ?_
  rintro _ _ _ _ ⟨rfl, rfl, rfl, rfl⟩
  have hF34 := (hF33.le (show _ ≤ 183 by decide)).pS (q := 177) (by decide)
  refine a_aast (t := 4) (N := 20) dX9_init_33 (xkG (by decide) (L80 L)) (by decide) (Or.inr ⟨rfl, rfl⟩) (by decide) (by decide) (by decide) (xkG (by decide) (L177 L)) ?_
  have hF35 := (hF34.le (show _ ≤ 183 by decide)).sp (q := 80) (i := 16) (v := some 177) (by decide)
  refine c_iinc (ls' := [some (aR 79), some (aI 17)]) dX9_init_34 rfl (by decide) rfl rfl ?_
  refine a_goto (tgt := 15) dX9_init_37 (by decide) ?_
  refine a_iloadn dX9_init_15 rfl ?_
  refine a_bipush (w := 20) dX9_init_16 (by decide) ?_
  refine a_icmp_ge (tgt := 40) dX9_init_18 (by decide) ⟨by decide, by decide⟩ ⟨by decide, by decide⟩ (fun hb => absurd hb (by decide)) (fun _ => ?_)
  refine a_aloadn dX9_init_21 rfl ?_
  refine a_getR (j' := 0) (y := 80) dX9_init_22 flX9_11 rfl rfl (xkG (by decide) (L79 L)) rfl ?_
  refine a_iloadn dX9_init_25 rfl ?_
  refine a_new (N := 7) (lay' := (LAY L).take 184) dX9_init_26 nwX9_9 (xkL (by decide)) (by decide) (fun i => (hF35 183 (by decide)).1 i) (fun i => (hF35 183 (by decide)).2 i) (xkS (L183 L)) ⟨Nat.le_of_ble_eq_true rfl, Nat.le_of_ble_eq_true rfl⟩ ?_
  refine a_dupR dX9_init_29 ?_
  refine a_invIN (as := []) (q := 183) (C := "StaticDial") dX9_init_30 minX9_17 ⟨by decide, by decide⟩ rfl rfl (Nat.le_of_ble_eq_true rfl) ⟨Nat.le_of_ble_eq_true rfl, Nat.le_of_ble_eq_true rfl⟩ (i_X5 (lay' := (LAY L).take 189) (xkL (by decide)) (xkG (by decide) (L183 L)) (by decide) (by decide) (hF35.le (by decide)) rfl) ?_
  rintro _ _ _ _ ⟨rfl, rfl, rfl, rfl⟩
  have hF36 := (hF35.le (show _ ≤ 189 by decide)).pS (q := 183) (by decide)
  refine a_aast (t := 4) (N := 20) dX9_init_33 (xkG (by decide) (L80 L)) (by decide) (Or.inr ⟨rfl, rfl⟩) (by decide) (by decide) (by decide) (xkG (by decide) (L183 L)) ?_
  have hF37 := (hF36.le (show _ ≤ 189 by decide)).sp (q := 80) (i := 17) (v := some 183) (by decide)
  refine c_iinc (ls' := [some (aR 79), some (aI 18)]) dX9_init_34 rfl (by decide) rfl rfl ?_
  refine a_goto (tgt := 15) dX9_init_37 (by decide) ?_
  refine a_iloadn dX9_init_15 rfl ?_
  refine a_bipush (w := 20) dX9_init_16 (by decide) ?_
  refine a_icmp_ge (tgt := 40) dX9_init_18 (by decide) ⟨by decide, by decide⟩ ⟨by decide, by decide⟩ (fun hb => absurd hb (by decide)) (fun _ => ?_)
  refine a_aloadn dX9_init_21 rfl ?_
  refine a_getR (j' := 0) (y := 80) dX9_init_22 flX9_11 rfl rfl (xkG (by decide) (L79 L)) rfl ?_
  refine a_iloadn dX9_init_25 rfl ?_
  refine a_new (N := 7) (lay' := (LAY L).take 190) dX9_init_26 nwX9_9 (xkL (by decide)) (by decide) (fun i => (hF37 189 (by decide)).1 i) (fun i => (hF37 189 (by decide)).2 i) (xkS (L189 L)) ⟨Nat.le_of_ble_eq_true rfl, Nat.le_of_ble_eq_true rfl⟩ ?_
  refine a_dupR dX9_init_29 ?_
  refine a_invIN (as := []) (q := 189) (C := "StaticDial") dX9_init_30 minX9_17 ⟨by decide, by decide⟩ rfl rfl (Nat.le_of_ble_eq_true rfl) ⟨Nat.le_of_ble_eq_true rfl, Nat.le_of_ble_eq_true rfl⟩ (i_X5 (lay' := (LAY L).take 195) (xkL (by decide)) (xkG (by decide) (L189 L)) (by decide) (by decide) (hF37.le (by decide)) rfl) ?_
  rintro _ _ _ _ ⟨rfl, rfl, rfl, rfl⟩
  have hF38 := (hF37.le (show _ ≤ 195 by decide)).pS (q := 189) (by decide)
  refine a_aast (t := 4) (N := 20) dX9_init_33 (xkG (by decide) (L80 L)) (by decide) (Or.inr ⟨rfl, rfl⟩) (by decide) (by decide) (by decide) (xkG (by decide) (L189 L)) ?_
  have hF39 := (hF38.le (show _ ≤ 195 by decide)).sp (q := 80) (i := 18) (v := some 189) (by decide)
  refine c_iinc (ls' := [some (aR 79), some (aI 19)]) dX9_init_34 rfl (by decide) rfl rfl ?_
  refine a_goto (tgt := 15) dX9_init_37 (by decide) ?_
  refine a_iloadn dX9_init_15 rfl ?_
  refine a_bipush (w := 20) dX9_init_16 (by decide) ?_
  refine a_icmp_ge (tgt := 40) dX9_init_18 (by decide) ⟨by decide, by decide⟩ ⟨by decide, by decide⟩ (fun hb => absurd hb (by decide)) (fun _ => ?_)
  refine a_aloadn dX9_init_21 rfl ?_
  refine a_getR (j' := 0) (y := 80) dX9_init_22 flX9_11 rfl rfl (xkG (by decide) (L79 L)) rfl ?_
  refine a_iloadn dX9_init_25 rfl ?_
  refine a_new (N := 7) (lay' := (LAY L).take 196) dX9_init_26 nwX9_9 (xkL (by decide)) (by decide) (fun i => (hF39 195 (by decide)).1 i) (fun i => (hF39 195 (by decide)).2 i) (xkS (L195 L)) ⟨Nat.le_of_ble_eq_true rfl, Nat.le_of_ble_eq_true rfl⟩ ?_
  refine a_dupR dX9_init_29 ?_
  refine a_invIN (as := []) (q := 195) (C := "StaticDial") dX9_init_30 minX9_17 ⟨by decide, by decide⟩ rfl rfl (Nat.le_of_ble_eq_true rfl) ⟨Nat.le_of_ble_eq_true rfl, Nat.le_of_ble_eq_true rfl⟩ (i_X5 (lay' := (LAY L).take 201) (xkL (by decide)) (xkG (by decide) (L195 L)) (by decide) (by decide) (hF39.le (by decide)) rfl) ?_
  rintro _ _ _ _ ⟨rfl, rfl, rfl, rfl⟩
  have hF40 := (hF39.le (show _ ≤ 201 by decide)).pS (q := 195) (by decide)
  refine a_aast (t := 4) (N := 20) dX9_init_33 (xkG (by decide) (L80 L)) (by decide) (Or.inr ⟨rfl, rfl⟩) (by decide) (by decide) (by decide) (xkG (by decide) (L195 L)) ?_
  have hF41 := (hF40.le (show _ ≤ 201 by decide)).sp (q := 80) (i := 19) (v := some 195) (by decide)
  refine c_iinc (ls' := [some (aR 79), some (aI 20)]) dX9_init_34 rfl (by decide) rfl rfl ?_
  refine a_goto (tgt := 15) dX9_init_37 (by decide) ?_
  refine a_iloadn dX9_init_15 rfl ?_
  refine a_bipush (w := 20) dX9_init_16 (by decide) ?_
  refine a_icmp_ge (tgt := 40) dX9_init_18 (by decide) ⟨by decide, by decide⟩ ⟨by decide, by decide⟩ (fun _ => ?_) (fun hb => absurd (show (20 : Int) ≤ 20 by decide) hb)
  exact a_widen (Nat.le_of_ble_eq_true rfl) (Nat.le_of_ble_eq_true rfl) (a_return dX9_init_40 rfl rfl rfl (zdet_V rfl))
def pT4 (P : zP) : zP := sp (pL (sp (pL (sp (pL (sp (sp (sp (sp (sp (sp (sp (sp (sp (sp (sp (sp P 4 3 (some 5)) 4 4 (some 6)) 4 5 (some 7)) 4 7 (some 8)) 4 8 (some 9)) 4 9 (some 10)) 4 11 (some 11)) 4 12 (some 12)) 4 13 (some 13)) 4 14 (some 14)) 4 15 (some 15)) 4 16 (some 16)) 17) 16 0 (some 17)) 19) 16 1 (some 19)) 21) 16 2 (some 21)
set_option maxRecDepth 100000 in
theorem toA_4 (L : Nat) (P : zP) : ToAg ((LAY L).take 23) (pT4 P) 4 := ⟨⟨by decide, xkG (by decide) (L4 L), ⟨xkG (by decide) (L5 L), rfl⟩, ⟨xkG (by decide) (L6 L), rfl⟩, ⟨xkG (by decide) (L7 L), rfl⟩, ⟨xkG (by decide) (L8 L), rfl⟩, ⟨xkG (by decide) (L9 L), rfl⟩, ⟨xkG (by decide) (L10 L), rfl⟩, ⟨xkG (by decide) (L11 L), rfl⟩, ⟨xkG (by decide) (L12 L), rfl⟩, ⟨xkG (by decide) (L13 L), rfl⟩, ⟨xkG (by decide) (L14 L), rfl⟩, ⟨xkG (by decide) (L15 L), rfl⟩, ⟨xkG (by decide) (L16 L), rfl⟩⟩, ⟨rfl, ⟨by decide, xkG (by decide) (L17 L), xkG (by decide) (L18 L), rfl⟩⟩, ⟨rfl, ⟨by decide, xkG (by decide) (L19 L), xkG (by decide) (L20 L), rfl⟩⟩, rfl, ⟨by decide, xkG (by decide) (L21 L), xkG (by decide) (L22 L), rfl⟩⟩
set_option maxRecDepth 100000 in
set_option maxHeartbeats 4000000 in
theorem i_X8_4 {G : zG} {l : Launch} {L : Nat} {P : zP} {M : zM} (hF0 : FR M P 5) : AM G l yX8_init mdX8_i [aR 4] ((LAY L).take 5) P M (zrel none ((LAY L).take 23) (pT4 P) (fun M1 => clT 4 M M1)) := by
  refine AM.go [some (aR 4), none] rfl (Nat.le_of_ble_eq_true rfl) ?_ (by decide) rfl rfl
  refine a_aloadn dX8_init_0 rfl ?_
  refine a_objI dX8_init_1 ⟨obX8_3, ob_i, ob_c⟩ (Nat.le_of_ble_eq_true rfl) ⟨by decide, by decide⟩ ?_
  refine a_aloadn dX8_init_4 rfl ?_
  refine a_bipush (w := 6) dX8_init_5 (by decide) ?_
  refine a_newa (t := 0) (N := 6) (lay' := (LAY L).take 6) dX8_init_7 acl_0 (Or.inl ⟨rfl, rfl⟩) rfl (by decide) (xkL (by decide)) (by decide) (fun i => (hF0 5 (by decide)).1 i) (fun i => (hF0 5 (by decide)).2 i) (xkS (L5 L)) ⟨Nat.le_of_ble_eq_true rfl, Nat.le_of_ble_eq_true rfl⟩ ?_
  refine a_putFR (dcl := "") (j' := 3) (y := 5) dX8_init_9 flX8_9 rfl rfl (xkG (by decide) (L4 L)) (by decide) rfl rfl ?_
  have hF1 := (hF0.le (show _ ≤ 6 by decide)).sp (q := 4) (i := 3) (v := some 5) (by decide)
  refine a_aloadn dX8_init_12 rfl ?_
  refine a_bipush (w := 6) dX8_init_13 (by decide) ?_
  refine a_newa (t := 0) (N := 6) (lay' := (LAY L).take 7) dX8_init_15 acl_0 (Or.inl ⟨rfl, rfl⟩) rfl (by decide) (xkL (by decide)) (by decide) (fun i => (hF1 6 (by decide)).1 i) (fun i => (hF1 6 (by decide)).2 i) (xkS (L6 L)) ⟨Nat.le_of_ble_eq_true rfl, Nat.le_of_ble_eq_true rfl⟩ ?_
  refine a_putFR (dcl := "") (j' := 4) (y := 6) dX8_init_17 flX8_15 rfl rfl (xkG (by decide) (L4 L)) (by decide) rfl rfl ?_
  have hF2 := (hF1.le (show _ ≤ 7 by decide)).sp (q := 4) (i := 4) (v := some 6) (by decide)
  refine a_aloadn dX8_init_20 rfl ?_
  refine a_bipush (w := 6) dX8_init_21 (by decide) ?_
  refine a_newa (t := 0) (N := 6) (lay' := (LAY L).take 8) dX8_init_23 acl_0 (Or.inl ⟨rfl, rfl⟩) rfl (by decide) (xkL (by decide)) (by decide) (fun i => (hF2 7 (by decide)).1 i) (fun i => (hF2 7 (by decide)).2 i) (xkS (L7 L)) ⟨Nat.le_of_ble_eq_true rfl, Nat.le_of_ble_eq_true rfl⟩ ?_
  refine a_putFR (dcl := "") (j' := 5) (y := 7) dX8_init_25 flX8_18 rfl rfl (xkG (by decide) (L4 L)) (by decide) rfl rfl ?_
  have hF3 := (hF2.le (show _ ≤ 8 by decide)).sp (q := 4) (i := 5) (v := some 7) (by decide)
  refine a_aloadn dX8_init_28 rfl ?_
  refine a_bipush (w := 10) dX8_init_29 (by decide) ?_
  refine a_newa (t := 0) (N := 10) (lay' := (LAY L).take 9) dX8_init_31 acl_0 (Or.inl ⟨rfl, rfl⟩) rfl (by decide) (xkL (by decide)) (by decide) (fun i => (hF3 8 (by decide)).1 i) (fun i => (hF3 8 (by decide)).2 i) (xkS (L8 L)) ⟨Nat.le_of_ble_eq_true rfl, Nat.le_of_ble_eq_true rfl⟩ ?_
  refine a_putFR (dcl := "") (j' := 7) (y := 8) dX8_init_33 flX8_21 rfl rfl (xkG (by decide) (L4 L)) (by decide) rfl rfl ?_
  have hF4 := (hF3.le (show _ ≤ 9 by decide)).sp (q := 4) (i := 7) (v := some 8) (by decide)
  refine a_aloadn dX8_init_36 rfl ?_
  refine a_bipush (w := 10) dX8_init_37 (by decide) ?_
  refine a_newa (t := 0) (N := 10) (lay' := (LAY L).take 10) dX8_init_39 acl_0 (Or.inl ⟨rfl, rfl⟩) rfl (by decide) (xkL (by decide)) (by decide) (fun i => (hF4 9 (by decide)).1 i) (fun i => (hF4 9 (by decide)).2 i) (xkS (L9 L)) ⟨Nat.le_of_ble_eq_true rfl, Nat.le_of_ble_eq_true rfl⟩ ?_
  refine a_putFR (dcl := "") (j' := 8) (y := 9) dX8_init_41 flX8_24 rfl rfl (xkG (by decide) (L4 L)) (by decide) rfl rfl ?_
  have hF5 := (hF4.le (show _ ≤ 10 by decide)).sp (q := 4) (i := 8) (v := some 9) (by decide)
  refine a_aloadn dX8_init_44 rfl ?_
  refine a_bipush (w := 10) dX8_init_45 (by decide) ?_
  refine a_newa (t := 0) (N := 10) (lay' := (LAY L).take 11) dX8_init_47 acl_0 (Or.inl ⟨rfl, rfl⟩) rfl (by decide) (xkL (by decide)) (by decide) (fun i => (hF5 10 (by decide)).1 i) (fun i => (hF5 10 (by decide)).2 i) (xkS (L10 L)) ⟨Nat.le_of_ble_eq_true rfl, Nat.le_of_ble_eq_true rfl⟩ ?_
  refine a_putFR (dcl := "") (j' := 9) (y := 10) dX8_init_49 flX8_27 rfl rfl (xkG (by decide) (L4 L)) (by decide) rfl rfl ?_
  have hF6 := (hF5.le (show _ ≤ 11 by decide)).sp (q := 4) (i := 9) (v := some 10) (by decide)
  refine a_aloadn dX8_init_52 rfl ?_
  refine a_bipush (w := 12) dX8_init_53 (by decide) ?_
  refine a_newa (t := 0) (N := 12) (lay' := (LAY L).take 12) dX8_init_55 acl_0 (Or.inl ⟨rfl, rfl⟩) rfl (by decide) (xkL (by decide)) (by decide) (fun i => (hF6 11 (by decide)).1 i) (fun i => (hF6 11 (by decide)).2 i) (xkS (L11 L)) ⟨Nat.le_of_ble_eq_true rfl, Nat.le_of_ble_eq_true rfl⟩ ?_
  refine a_putFR (dcl := "") (j' := 11) (y := 11) dX8_init_57 flX8_30 rfl rfl (xkG (by decide) (L4 L)) (by decide) rfl rfl ?_
  have hF7 := (hF6.le (show _ ≤ 12 by decide)).sp (q := 4) (i := 11) (v := some 11) (by decide)
  refine a_aloadn dX8_init_60 rfl ?_
  refine a_bipush (w := 12) dX8_init_61 (by decide) ?_
  refine a_newa (t := 0) (N := 12) (lay' := (LAY L).take 13) dX8_init_63 acl_0 (Or.inl ⟨rfl, rfl⟩) rfl (by decide) (xkL (by decide)) (by decide) (fun i => (hF7 12 (by decide)).1 i) (fun i => (hF7 12 (by decide)).2 i) (xkS (L12 L)) ⟨Nat.le_of_ble_eq_true rfl, Nat.le_of_ble_eq_true rfl⟩ ?_
  refine a_putFR (dcl := "") (j' := 12) (y := 12) dX8_init_65 flX8_33 rfl rfl (xkG (by decide) (L4 L)) (by decide) rfl rfl ?_
  have hF8 := (hF7.le (show _ ≤ 13 by decide)).sp (q := 4) (i := 12) (v := some 12) (by decide)
  refine a_aloadn dX8_init_68 rfl ?_
  refine a_bipush (w := 12) dX8_init_69 (by decide) ?_
  refine a_newa (t := 0) (N := 12) (lay' := (LAY L).take 14) dX8_init_71 acl_0 (Or.inl ⟨rfl, rfl⟩) rfl (by decide) (xkL (by decide)) (by decide) (fun i => (hF8 13 (by decide)).1 i) (fun i => (hF8 13 (by decide)).2 i) (xkS (L13 L)) ⟨Nat.le_of_ble_eq_true rfl, Nat.le_of_ble_eq_true rfl⟩ ?_
  refine a_putFR (dcl := "") (j' := 13) (y := 13) dX8_init_73 flX8_36 rfl rfl (xkG (by decide) (L4 L)) (by decide) rfl rfl ?_
  have hF9 := (hF8.le (show _ ≤ 14 by decide)).sp (q := 4) (i := 13) (v := some 13) (by decide)
  refine a_aloadn dX8_init_76 rfl ?_
  refine a_iconst dX8_init_77 ?_
  refine a_newa (t := 0) (N := 4) (lay' := (LAY L).take 15) dX8_init_78 acl_0 (Or.inl ⟨rfl, rfl⟩) rfl (by decide) (xkL (by decide)) (by decide) (fun i => (hF9 14 (by decide)).1 i) (fun i => (hF9 14 (by decide)).2 i) (xkS (L14 L)) ⟨Nat.le_of_ble_eq_true rfl, Nat.le_of_ble_eq_true rfl⟩ ?_
  refine a_putFR (dcl := "") (j' := 14) (y := 14) dX8_init_80 flX8_39 rfl rfl (xkG (by decide) (L4 L)) (by decide) rfl rfl ?_
  have hF10 := (hF9.le (show _ ≤ 15 by decide)).sp (q := 4) (i := 14) (v := some 14) (by decide)
  refine a_aloadn dX8_init_83 rfl ?_
  refine a_iconst dX8_init_84 ?_
  refine a_newa (t := 1) (N := 4) (lay' := (LAY L).take 16) dX8_init_85 acl_1 (Or.inr (Or.inl ⟨rfl, rfl⟩)) rfl (by decide) (xkL (by decide)) (by decide) (fun i => (hF10 15 (by decide)).1 i) (fun i => (hF10 15 (by decide)).2 i) (xkS (L15 L)) ⟨Nat.le_of_ble_eq_true rfl, Nat.le_of_ble_eq_true rfl⟩ ?_
  refine a_putFR (dcl := "") (j' := 15) (y := 15) dX8_init_87 flX8_42 rfl rfl (xkG (by decide) (L4 L)) (by decide) rfl rfl ?_
  have hF11 := (hF10.le (show _ ≤ 16 by decide)).sp (q := 4) (i := 15) (v := some 15) (by decide)
  refine a_aloadn dX8_init_90 rfl ?_
  refine a_iconst dX8_init_91 ?_
  refine a_anewa (t := 3) (N := 3) (lay' := (LAY L).take 17) dX8_init_92 clkX8_46 (Or.inl ⟨rfl, rfl⟩) rfl (by decide) (xkL (by decide)) (by decide) (fun i => (hF11 16 (by decide)).1 i) (fun i => (hF11 16 (by decide)).2 i) (xkS (L16 L)) ⟨Nat.le_of_ble_eq_true rfl, Nat.le_of_ble_eq_true rfl⟩ ?_
  refine a_putFR (dcl := "") (j' := 16) (y := 16) dX8_init_95 flX8_48 rfl rfl (xkG (by decide) (L4 L)) (by decide) rfl rfl ?_
  have hF12 := (hF11.le (show _ ≤ 17 by decide)).sp (q := 4) (i := 16) (v := some 16) (by decide)
  refine a_iconst dX8_init_98 ?_
  refine c_istoren (ls' := [some (aR 4), some (aI 0)]) dX8_init_99 (by decide) rfl rfl ?_
  refine a_iloadn dX8_init_100 rfl ?_
  refine a_iconst dX8_init_101 ?_
  refine a_icmp_ge (tgt := 124) dX8_init_102 (by decide) ⟨by decide, by decide⟩ ⟨by decide, by decide⟩ (fun hb => absurd hb (by decide)) (fun _ => ?_)
  refine a_aloadn dX8_init_105 rfl ?_
  refine a_getR (j' := 16) (y := 16) dX8_init_106 flX8_48 rfl rfl (xkG (by decide) (L4 L)) rfl ?_
  refine a_iloadn dX8_init_109 rfl ?_
  refine a_new (N := 2) (lay' := (LAY L).take 18) dX8_init_110 nwX8_46 (xkL (by decide)) (by decide) (fun i => (hF12 17 (by decide)).1 i) (fun i => (hF12 17 (by decide)).2 i) (xkS (L17 L)) ⟨Nat.le_of_ble_eq_true rfl, Nat.le_of_ble_eq_true rfl⟩ ?_
  refine a_dupR dX8_init_113 ?_
  refine a_invIN (as := []) (q := 17) (C := "StaticDial") dX8_init_114 minX8_52 ⟨by decide, by decide⟩ rfl rfl (Nat.le_of_ble_eq_true rfl) ⟨Nat.le_of_ble_eq_true rfl, Nat.le_of_ble_eq_true rfl⟩ (i_X1 (lay' := (LAY L).take 19) (xkL (by decide)) (xkG (by decide) (L17 L)) (by decide) (by decide) (hF12.le (by decide)) rfl) ?_
  rintro _ _ _ _ ⟨rfl, rfl, rfl, rfl⟩
  have hF13 := (hF12.le (show _ ≤ 19 by decide)).pL (q := 17) (by decide)
  refine a_aast (t := 3) (N := 3) dX8_init_117 (xkG (by decide) (L16 L)) (by decide) (Or.inl ⟨rfl, rfl⟩) (by decide) (by decide) (by decide) (xkG (by decide) (L17 L)) ?_
  have hF14 := (hF13.le (show _ ≤ 19 by decide)).sp (q := 16) (i := 0) (v := some 17) (by decide)
  refine c_iinc (ls' := [some (aR 4), some (aI 1)]) dX8_init_118 rfl (by decide) rfl rfl ?_
  refine a_goto (tgt := 100) dX8_init_121 (by decide) ?_
  refine a_iloadn dX8_init_100 rfl ?_
  refine a_iconst dX8_init_101 ?_
  refine a_icmp_ge (tgt := 124) dX8_init_102 (by decide) ⟨by decide, by decide⟩ ⟨by decide, by decide⟩ (fun hb => absurd hb (by decide)) (fun _ => ?_)
  refine a_aloadn dX8_init_105 rfl ?_
  refine a_getR (j' := 16) (y := 16) dX8_init_106 flX8_48 rfl rfl (xkG (by decide) (L4 L)) rfl ?_
  refine a_iloadn dX8_init_109 rfl ?_
  refine a_new (N := 2) (lay' := (LAY L).take 20) dX8_init_110 nwX8_46 (xkL (by decide)) (by decide) (fun i => (hF14 19 (by decide)).1 i) (fun i => (hF14 19 (by decide)).2 i) (xkS (L19 L)) ⟨Nat.le_of_ble_eq_true rfl, Nat.le_of_ble_eq_true rfl⟩ ?_
  refine a_dupR dX8_init_113 ?_
  refine a_invIN (as := []) (q := 19) (C := "StaticDial") dX8_init_114 minX8_52 ⟨by decide, by decide⟩ rfl rfl (Nat.le_of_ble_eq_true rfl) ⟨Nat.le_of_ble_eq_true rfl, Nat.le_of_ble_eq_true rfl⟩ (i_X1 (lay' := (LAY L).take 21) (xkL (by decide)) (xkG (by decide) (L19 L)) (by decide) (by decide) (hF14.le (by decide)) rfl) ?_
  rintro _ _ _ _ ⟨rfl, rfl, rfl, rfl⟩
  have hF15 := (hF14.le (show _ ≤ 21 by decide)).pL (q := 19) (by decide)
  refine a_aast (t := 3) (N := 3) dX8_init_117 (xkG (by decide) (L16 L)) (by decide) (Or.inl ⟨rfl, rfl⟩) (by decide) (by decide) (by decide) (xkG (by decide) (L19 L)) ?_
  have hF16 := (hF15.le (show _ ≤ 21 by decide)).sp (q := 16) (i := 1) (v := some 19) (by decide)
  refine c_iinc (ls' := [some (aR 4), some (aI 2)]) dX8_init_118 rfl (by decide) rfl rfl ?_
  refine a_goto (tgt := 100) dX8_init_121 (by decide) ?_
  refine a_iloadn dX8_init_100 rfl ?_
  refine a_iconst dX8_init_101 ?_
  refine a_icmp_ge (tgt := 124) dX8_init_102 (by decide) ⟨by decide, by decide⟩ ⟨by decide, by decide⟩ (fun hb => absurd hb (by decide)) (fun _ => ?_)
  refine a_aloadn dX8_init_105 rfl ?_
  refine a_getR (j' := 16) (y := 16) dX8_init_106 flX8_48 rfl rfl (xkG (by decide) (L4 L)) rfl ?_
  refine a_iloadn dX8_init_109 rfl ?_
  refine a_new (N := 2) (lay' := (LAY L).take 22) dX8_init_110 nwX8_46 (xkL (by decide)) (by decide) (fun i => (hF16 21 (by decide)).1 i) (fun i => (hF16 21 (by decide)).2 i) (xkS (L21 L)) ⟨Nat.le_of_ble_eq_true rfl, Nat.le_of_ble_eq_true rfl⟩ ?_
  refine a_dupR dX8_init_113 ?_
  refine a_invIN (as := []) (q := 21) (C := "StaticDial") dX8_init_114 minX8_52 ⟨by decide, by decide⟩ rfl rfl (Nat.le_of_ble_eq_true rfl) ⟨Nat.le_of_ble_eq_true rfl, Nat.le_of_ble_eq_true rfl⟩ (i_X1 (lay' := (LAY L).take 23) (xkL (by decide)) (xkG (by decide) (L21 L)) (by decide) (by decide) (hF16.le (by decide)) rfl) ?_
  rintro _ _ _ _ ⟨rfl, rfl, rfl, rfl⟩
  have hF17 := (hF16.le (show _ ≤ 23 by decide)).pL (q := 21) (by decide)
  refine a_aast (t := 3) (N := 3) dX8_init_117 (xkG (by decide) (L16 L)) (by decide) (Or.inl ⟨rfl, rfl⟩) (by decide) (by decide) (by decide) (xkG (by decide) (L21 L)) ?_
  have hF18 := (hF17.le (show _ ≤ 23 by decide)).sp (q := 16) (i := 2) (v := some 21) (by decide)
  refine c_iinc (ls' := [some (aR 4), some (aI 3)]) dX8_init_118 rfl (by decide) rfl rfl ?_
  refine a_goto (tgt := 100) dX8_init_121 (by decide) ?_
  refine a_iloadn dX8_init_100 rfl ?_
  refine a_iconst dX8_init_101 ?_
  refine a_icmp_ge (tgt := 124) dX8_init_102 (by decide) ⟨by decide, by decide⟩ ⟨by decide, by decide⟩ (fun _ => ?_) (fun hb => absurd (show (3 : Int) ≤ 3 by decide) hb)
  refine a_aloadn dX8_init_124 rfl ?_
  refine a_relVv (as := []) (q := 4) dX8_init_125 mvX8_53 ⟨by decide, by decide⟩ (xkG (by decide) (L4 L)) rfl rfl rfl (Nat.le_of_ble_eq_true rfl) ⟨rfl, rfl⟩ ⟨Nat.le_of_ble_eq_true rfl, Nat.le_of_ble_eq_true rfl⟩ (n_m_X8_clear (toA_4 L P) (Or.inl rfl)) (fun M1 hM1 => ?_)
  exact a_widen (Nat.le_of_ble_eq_true rfl) (Nat.le_of_ble_eq_true rfl) (a_return dX8_init_128 rfl rfl rfl (zrel_V hM1))
def pT23 (P : zP) : zP := sp (pL (sp (pL (sp (pL (sp (sp (sp (sp (sp (sp (sp (sp (sp (sp (sp (sp P 23 3 (some 24)) 23 4 (some 25)) 23 5 (some 26)) 23 7 (some 27)) 23 8 (some 28)) 23 9 (some 29)) 23 11 (some 30)) 23 12 (some 31)) 23 13 (some 32)) 23 14 (some 33)) 23 15 (some 34)) 23 16 (some 35)) 36) 35 0 (some 36)) 38) 35 1 (some 38)) 40) 35 2 (some 40)
set_option maxRecDepth 100000 in
theorem toA_23 (L : Nat) (P : zP) : ToAg ((LAY L).take 42) (pT23 P) 23 := ⟨⟨by decide, xkG (by decide) (L23 L), ⟨xkG (by decide) (L24 L), rfl⟩, ⟨xkG (by decide) (L25 L), rfl⟩, ⟨xkG (by decide) (L26 L), rfl⟩, ⟨xkG (by decide) (L27 L), rfl⟩, ⟨xkG (by decide) (L28 L), rfl⟩, ⟨xkG (by decide) (L29 L), rfl⟩, ⟨xkG (by decide) (L30 L), rfl⟩, ⟨xkG (by decide) (L31 L), rfl⟩, ⟨xkG (by decide) (L32 L), rfl⟩, ⟨xkG (by decide) (L33 L), rfl⟩, ⟨xkG (by decide) (L34 L), rfl⟩, ⟨xkG (by decide) (L35 L), rfl⟩⟩, ⟨rfl, ⟨by decide, xkG (by decide) (L36 L), xkG (by decide) (L37 L), rfl⟩⟩, ⟨rfl, ⟨by decide, xkG (by decide) (L38 L), xkG (by decide) (L39 L), rfl⟩⟩, rfl, ⟨by decide, xkG (by decide) (L40 L), xkG (by decide) (L41 L), rfl⟩⟩
set_option maxRecDepth 100000 in
set_option maxHeartbeats 4000000 in
theorem i_X8_23 {G : zG} {l : Launch} {L : Nat} {P : zP} {M : zM} (hF0 : FR M P 24) : AM G l yX8_init mdX8_i [aR 23] ((LAY L).take 24) P M (zrel none ((LAY L).take 42) (pT23 P) (fun M1 => clT 23 M M1)) := by
  refine AM.go [some (aR 23), none] rfl (Nat.le_of_ble_eq_true rfl) ?_ (by decide) rfl rfl
  refine a_aloadn dX8_init_0 rfl ?_
  refine a_objI dX8_init_1 ⟨obX8_3, ob_i, ob_c⟩ (Nat.le_of_ble_eq_true rfl) ⟨by decide, by decide⟩ ?_
  refine a_aloadn dX8_init_4 rfl ?_
  refine a_bipush (w := 6) dX8_init_5 (by decide) ?_
  refine a_newa (t := 0) (N := 6) (lay' := (LAY L).take 25) dX8_init_7 acl_0 (Or.inl ⟨rfl, rfl⟩) rfl (by decide) (xkL (by decide)) (by decide) (fun i => (hF0 24 (by decide)).1 i) (fun i => (hF0 24 (by decide)).2 i) (xkS (L24 L)) ⟨Nat.le_of_ble_eq_true rfl, Nat.le_of_ble_eq_true rfl⟩ ?_
  refine a_putFR (dcl := "") (j' := 3) (y := 24) dX8_init_9 flX8_9 rfl rfl (xkG (by decide) (L23 L)) (by decide) rfl rfl ?_
  have hF1 := (hF0.le (show _ ≤ 25 by decide)).sp (q := 23) (i := 3) (v := some 24) (by decide)
  refine a_aloadn dX8_init_12 rfl ?_
  refine a_bipush (w := 6) dX8_init_13 (by decide) ?_
  refine a_newa (t := 0) (N := 6) (lay' := (LAY L).take 26) dX8_init_15 acl_0 (Or.inl ⟨rfl, rfl⟩) rfl (by decide) (xkL (by decide)) (by decide) (fun i => (hF1 25 (by decide)).1 i) (fun i => (hF1 25 (by decide)).2 i) (xkS (L25 L)) ⟨Nat.le_of_ble_eq_true rfl, Nat.le_of_ble_eq_true rfl⟩ ?_
  refine a_putFR (dcl := "") (j' := 4) (y := 25) dX8_init_17 flX8_15 rfl rfl (xkG (by decide) (L23 L)) (by decide) rfl rfl ?_
  have hF2 := (hF1.le (show _ ≤ 26 by decide)).sp (q := 23) (i := 4) (v := some 25) (by decide)
  refine a_aloadn dX8_init_20 rfl ?_
  refine a_bipush (w := 6) dX8_init_21 (by decide) ?_
  refine a_newa (t := 0) (N := 6) (lay' := (LAY L).take 27) dX8_init_23 acl_0 (Or.inl ⟨rfl, rfl⟩) rfl (by decide) (xkL (by decide)) (by decide) (fun i => (hF2 26 (by decide)).1 i) (fun i => (hF2 26 (by decide)).2 i) (xkS (L26 L)) ⟨Nat.le_of_ble_eq_true rfl, Nat.le_of_ble_eq_true rfl⟩ ?_
  refine a_putFR (dcl := "") (j' := 5) (y := 26) dX8_init_25 flX8_18 rfl rfl (xkG (by decide) (L23 L)) (by decide) rfl rfl ?_
  have hF3 := (hF2.le (show _ ≤ 27 by decide)).sp (q := 23) (i := 5) (v := some 26) (by decide)
  refine a_aloadn dX8_init_28 rfl ?_
  refine a_bipush (w := 10) dX8_init_29 (by decide) ?_
  refine a_newa (t := 0) (N := 10) (lay' := (LAY L).take 28) dX8_init_31 acl_0 (Or.inl ⟨rfl, rfl⟩) rfl (by decide) (xkL (by decide)) (by decide) (fun i => (hF3 27 (by decide)).1 i) (fun i => (hF3 27 (by decide)).2 i) (xkS (L27 L)) ⟨Nat.le_of_ble_eq_true rfl, Nat.le_of_ble_eq_true rfl⟩ ?_
  refine a_putFR (dcl := "") (j' := 7) (y := 27) dX8_init_33 flX8_21 rfl rfl (xkG (by decide) (L23 L)) (by decide) rfl rfl ?_
  have hF4 := (hF3.le (show _ ≤ 28 by decide)).sp (q := 23) (i := 7) (v := some 27) (by decide)
  refine a_aloadn dX8_init_36 rfl ?_
  refine a_bipush (w := 10) dX8_init_37 (by decide) ?_
  refine a_newa (t := 0) (N := 10) (lay' := (LAY L).take 29) dX8_init_39 acl_0 (Or.inl ⟨rfl, rfl⟩) rfl (by decide) (xkL (by decide)) (by decide) (fun i => (hF4 28 (by decide)).1 i) (fun i => (hF4 28 (by decide)).2 i) (xkS (L28 L)) ⟨Nat.le_of_ble_eq_true rfl, Nat.le_of_ble_eq_true rfl⟩ ?_
  refine a_putFR (dcl := "") (j' := 8) (y := 28) dX8_init_41 flX8_24 rfl rfl (xkG (by decide) (L23 L)) (by decide) rfl rfl ?_
  have hF5 := (hF4.le (show _ ≤ 29 by decide)).sp (q := 23) (i := 8) (v := some 28) (by decide)
  refine a_aloadn dX8_init_44 rfl ?_
  refine a_bipush (w := 10) dX8_init_45 (by decide) ?_
  refine a_newa (t := 0) (N := 10) (lay' := (LAY L).take 30) dX8_init_47 acl_0 (Or.inl ⟨rfl, rfl⟩) rfl (by decide) (xkL (by decide)) (by decide) (fun i => (hF5 29 (by decide)).1 i) (fun i => (hF5 29 (by decide)).2 i) (xkS (L29 L)) ⟨Nat.le_of_ble_eq_true rfl, Nat.le_of_ble_eq_true rfl⟩ ?_
  refine a_putFR (dcl := "") (j' := 9) (y := 29) dX8_init_49 flX8_27 rfl rfl (xkG (by decide) (L23 L)) (by decide) rfl rfl ?_
  have hF6 := (hF5.le (show _ ≤ 30 by decide)).sp (q := 23) (i := 9) (v := some 29) (by decide)
  refine a_aloadn dX8_init_52 rfl ?_
  refine a_bipush (w := 12) dX8_init_53 (by decide) ?_
  refine a_newa (t := 0) (N := 12) (lay' := (LAY L).take 31) dX8_init_55 acl_0 (Or.inl ⟨rfl, rfl⟩) rfl (by decide) (xkL (by decide)) (by decide) (fun i => (hF6 30 (by decide)).1 i) (fun i => (hF6 30 (by decide)).2 i) (xkS (L30 L)) ⟨Nat.le_of_ble_eq_true rfl, Nat.le_of_ble_eq_true rfl⟩ ?_
  refine a_putFR (dcl := "") (j' := 11) (y := 30) dX8_init_57 flX8_30 rfl rfl (xkG (by decide) (L23 L)) (by decide) rfl rfl ?_
  have hF7 := (hF6.le (show _ ≤ 31 by decide)).sp (q := 23) (i := 11) (v := some 30) (by decide)
  refine a_aloadn dX8_init_60 rfl ?_
  refine a_bipush (w := 12) dX8_init_61 (by decide) ?_
  refine a_newa (t := 0) (N := 12) (lay' := (LAY L).take 32) dX8_init_63 acl_0 (Or.inl ⟨rfl, rfl⟩) rfl (by decide) (xkL (by decide)) (by decide) (fun i => (hF7 31 (by decide)).1 i) (fun i => (hF7 31 (by decide)).2 i) (xkS (L31 L)) ⟨Nat.le_of_ble_eq_true rfl, Nat.le_of_ble_eq_true rfl⟩ ?_
  refine a_putFR (dcl := "") (j' := 12) (y := 31) dX8_init_65 flX8_33 rfl rfl (xkG (by decide) (L23 L)) (by decide) rfl rfl ?_
  have hF8 := (hF7.le (show _ ≤ 32 by decide)).sp (q := 23) (i := 12) (v := some 31) (by decide)
  refine a_aloadn dX8_init_68 rfl ?_
  refine a_bipush (w := 12) dX8_init_69 (by decide) ?_
  refine a_newa (t := 0) (N := 12) (lay' := (LAY L).take 33) dX8_init_71 acl_0 (Or.inl ⟨rfl, rfl⟩) rfl (by decide) (xkL (by decide)) (by decide) (fun i => (hF8 32 (by decide)).1 i) (fun i => (hF8 32 (by decide)).2 i) (xkS (L32 L)) ⟨Nat.le_of_ble_eq_true rfl, Nat.le_of_ble_eq_true rfl⟩ ?_
  refine a_putFR (dcl := "") (j' := 13) (y := 32) dX8_init_73 flX8_36 rfl rfl (xkG (by decide) (L23 L)) (by decide) rfl rfl ?_
  have hF9 := (hF8.le (show _ ≤ 33 by decide)).sp (q := 23) (i := 13) (v := some 32) (by decide)
  refine a_aloadn dX8_init_76 rfl ?_
  refine a_iconst dX8_init_77 ?_
  refine a_newa (t := 0) (N := 4) (lay' := (LAY L).take 34) dX8_init_78 acl_0 (Or.inl ⟨rfl, rfl⟩) rfl (by decide) (xkL (by decide)) (by decide) (fun i => (hF9 33 (by decide)).1 i) (fun i => (hF9 33 (by decide)).2 i) (xkS (L33 L)) ⟨Nat.le_of_ble_eq_true rfl, Nat.le_of_ble_eq_true rfl⟩ ?_
  refine a_putFR (dcl := "") (j' := 14) (y := 33) dX8_init_80 flX8_39 rfl rfl (xkG (by decide) (L23 L)) (by decide) rfl rfl ?_
  have hF10 := (hF9.le (show _ ≤ 34 by decide)).sp (q := 23) (i := 14) (v := some 33) (by decide)
  refine a_aloadn dX8_init_83 rfl ?_
  refine a_iconst dX8_init_84 ?_
  refine a_newa (t := 1) (N := 4) (lay' := (LAY L).take 35) dX8_init_85 acl_1 (Or.inr (Or.inl ⟨rfl, rfl⟩)) rfl (by decide) (xkL (by decide)) (by decide) (fun i => (hF10 34 (by decide)).1 i) (fun i => (hF10 34 (by decide)).2 i) (xkS (L34 L)) ⟨Nat.le_of_ble_eq_true rfl, Nat.le_of_ble_eq_true rfl⟩ ?_
  refine a_putFR (dcl := "") (j' := 15) (y := 34) dX8_init_87 flX8_42 rfl rfl (xkG (by decide) (L23 L)) (by decide) rfl rfl ?_
  have hF11 := (hF10.le (show _ ≤ 35 by decide)).sp (q := 23) (i := 15) (v := some 34) (by decide)
  refine a_aloadn dX8_init_90 rfl ?_
  refine a_iconst dX8_init_91 ?_
  refine a_anewa (t := 3) (N := 3) (lay' := (LAY L).take 36) dX8_init_92 clkX8_46 (Or.inl ⟨rfl, rfl⟩) rfl (by decide) (xkL (by decide)) (by decide) (fun i => (hF11 35 (by decide)).1 i) (fun i => (hF11 35 (by decide)).2 i) (xkS (L35 L)) ⟨Nat.le_of_ble_eq_true rfl, Nat.le_of_ble_eq_true rfl⟩ ?_
  refine a_putFR (dcl := "") (j' := 16) (y := 35) dX8_init_95 flX8_48 rfl rfl (xkG (by decide) (L23 L)) (by decide) rfl rfl ?_
  have hF12 := (hF11.le (show _ ≤ 36 by decide)).sp (q := 23) (i := 16) (v := some 35) (by decide)
  refine a_iconst dX8_init_98 ?_
  refine c_istoren (ls' := [some (aR 23), some (aI 0)]) dX8_init_99 (by decide) rfl rfl ?_
  refine a_iloadn dX8_init_100 rfl ?_
  refine a_iconst dX8_init_101 ?_
  refine a_icmp_ge (tgt := 124) dX8_init_102 (by decide) ⟨by decide, by decide⟩ ⟨by decide, by decide⟩ (fun hb => absurd hb (by decide)) (fun _ => ?_)
  refine a_aloadn dX8_init_105 rfl ?_
  refine a_getR (j' := 16) (y := 35) dX8_init_106 flX8_48 rfl rfl (xkG (by decide) (L23 L)) rfl ?_
  refine a_iloadn dX8_init_109 rfl ?_
  refine a_new (N := 2) (lay' := (LAY L).take 37) dX8_init_110 nwX8_46 (xkL (by decide)) (by decide) (fun i => (hF12 36 (by decide)).1 i) (fun i => (hF12 36 (by decide)).2 i) (xkS (L36 L)) ⟨Nat.le_of_ble_eq_true rfl, Nat.le_of_ble_eq_true rfl⟩ ?_
  refine a_dupR dX8_init_113 ?_
  refine a_invIN (as := []) (q := 36) (C := "StaticDial") dX8_init_114 minX8_52 ⟨by decide, by decide⟩ rfl rfl (Nat.le_of_ble_eq_true rfl) ⟨Nat.le_of_ble_eq_true rfl, Nat.le_of_ble_eq_true rfl⟩ (i_X1 (lay' := (LAY L).take 38) (xkL (by decide)) (xkG (by decide) (L36 L)) (by decide) (by decide) (hF12.le (by decide)) rfl) ?_
  rintro _ _ _ _ ⟨rfl, rfl, rfl, rfl⟩
  have hF13 := (hF12.le (show _ ≤ 38 by decide)).pL (q := 36) (by decide)
  refine a_aast (t := 3) (N := 3) dX8_init_117 (xkG (by decide) (L35 L)) (by decide) (Or.inl ⟨rfl, rfl⟩) (by decide) (by decide) (by decide) (xkG (by decide) (L36 L)) ?_
  have hF14 := (hF13.le (show _ ≤ 38 by decide)).sp (q := 35) (i := 0) (v := some 36) (by decide)
  refine c_iinc (ls' := [some (aR 23), some (aI 1)]) dX8_init_118 rfl (by decide) rfl rfl ?_
  refine a_goto (tgt := 100) dX8_init_121 (by decide) ?_
  refine a_iloadn dX8_init_100 rfl ?_
  refine a_iconst dX8_init_101 ?_
  refine a_icmp_ge (tgt := 124) dX8_init_102 (by decide) ⟨by decide, by decide⟩ ⟨by decide, by decide⟩ (fun hb => absurd hb (by decide)) (fun _ => ?_)
  refine a_aloadn dX8_init_105 rfl ?_
  refine a_getR (j' := 16) (y := 35) dX8_init_106 flX8_48 rfl rfl (xkG (by decide) (L23 L)) rfl ?_
  refine a_iloadn dX8_init_109 rfl ?_
  refine a_new (N := 2) (lay' := (LAY L).take 39) dX8_init_110 nwX8_46 (xkL (by decide)) (by decide) (fun i => (hF14 38 (by decide)).1 i) (fun i => (hF14 38 (by decide)).2 i) (xkS (L38 L)) ⟨Nat.le_of_ble_eq_true rfl, Nat.le_of_ble_eq_true rfl⟩ ?_
  refine a_dupR dX8_init_113 ?_
  refine a_invIN (as := []) (q := 38) (C := "StaticDial") dX8_init_114 minX8_52 ⟨by decide, by decide⟩ rfl rfl (Nat.le_of_ble_eq_true rfl) ⟨Nat.le_of_ble_eq_true rfl, Nat.le_of_ble_eq_true rfl⟩ (i_X1 (lay' := (LAY L).take 40) (xkL (by decide)) (xkG (by decide) (L38 L)) (by decide) (by decide) (hF14.le (by decide)) rfl) ?_
  rintro _ _ _ _ ⟨rfl, rfl, rfl, rfl⟩
  have hF15 := (hF14.le (show _ ≤ 40 by decide)).pL (q := 38) (by decide)
  refine a_aast (t := 3) (N := 3) dX8_init_117 (xkG (by decide) (L35 L)) (by decide) (Or.inl ⟨rfl, rfl⟩) (by decide) (by decide) (by decide) (xkG (by decide) (L38 L)) ?_
  have hF16 := (hF15.le (show _ ≤ 40 by decide)).sp (q := 35) (i := 1) (v := some 38) (by decide)
  refine c_iinc (ls' := [some (aR 23), some (aI 2)]) dX8_init_118 rfl (by decide) rfl rfl ?_
  refine a_goto (tgt := 100) dX8_init_121 (by decide) ?_
  refine a_iloadn dX8_init_100 rfl ?_
  refine a_iconst dX8_init_101 ?_
  refine a_icmp_ge (tgt := 124) dX8_init_102 (by decide) ⟨by decide, by decide⟩ ⟨by decide, by decide⟩ (fun hb => absurd hb (by decide)) (fun _ => ?_)
  refine a_aloadn dX8_init_105 rfl ?_
  refine a_getR (j' := 16) (y := 35) dX8_init_106 flX8_48 rfl rfl (xkG (by decide) (L23 L)) rfl ?_
  refine a_iloadn dX8_init_109 rfl ?_
  refine a_new (N := 2) (lay' := (LAY L).take 41) dX8_init_110 nwX8_46 (xkL (by decide)) (by decide) (fun i => (hF16 40 (by decide)).1 i) (fun i => (hF16 40 (by decide)).2 i) (xkS (L40 L)) ⟨Nat.le_of_ble_eq_true rfl, Nat.le_of_ble_eq_true rfl⟩ ?_
  refine a_dupR dX8_init_113 ?_
  refine a_invIN (as := []) (q := 40) (C := "StaticDial") dX8_init_114 minX8_52 ⟨by decide, by decide⟩ rfl rfl (Nat.le_of_ble_eq_true rfl) ⟨Nat.le_of_ble_eq_true rfl, Nat.le_of_ble_eq_true rfl⟩ (i_X1 (lay' := (LAY L).take 42) (xkL (by decide)) (xkG (by decide) (L40 L)) (by decide) (by decide) (hF16.le (by decide)) rfl) ?_
  rintro _ _ _ _ ⟨rfl, rfl, rfl, rfl⟩
  have hF17 := (hF16.le (show _ ≤ 42 by decide)).pL (q := 40) (by decide)
  refine a_aast (t := 3) (N := 3) dX8_init_117 (xkG (by decide) (L35 L)) (by decide) (Or.inl ⟨rfl, rfl⟩) (by decide) (by decide) (by decide) (xkG (by decide) (L40 L)) ?_
  have hF18 := (hF17.le (show _ ≤ 42 by decide)).sp (q := 35) (i := 2) (v := some 40) (by decide)
  refine c_iinc (ls' := [some (aR 23), some (aI 3)]) dX8_init_118 rfl (by decide) rfl rfl ?_
  refine a_goto (tgt := 100) dX8_init_121 (by decide) ?_
  refine a_iloadn dX8_init_100 rfl ?_
  refine a_iconst dX8_init_101 ?_
  refine a_icmp_ge (tgt := 124) dX8_init_102 (by decide) ⟨by decide, by decide⟩ ⟨by decide, by decide⟩ (fun _ => ?_) (fun hb => absurd (show (3 : Int) ≤ 3 by decide) hb)
  refine a_aloadn dX8_init_124 rfl ?_
  refine a_relVv (as := []) (q := 23) dX8_init_125 mvX8_53 ⟨by decide, by decide⟩ (xkG (by decide) (L23 L)) rfl rfl rfl (Nat.le_of_ble_eq_true rfl) ⟨rfl, rfl⟩ ⟨Nat.le_of_ble_eq_true rfl, Nat.le_of_ble_eq_true rfl⟩ (n_m_X8_clear (toA_23 L P) (Or.inr rfl)) (fun M1 hM1 => ?_)
  exact a_widen (Nat.le_of_ble_eq_true rfl) (Nat.le_of_ble_eq_true rfl) (a_return dX8_init_128 rfl rfl rfl (zrel_V hM1))

end ZCT
