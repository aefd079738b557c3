section ZLW
/-- a word on a method's code, its bytes as a list -/
def cdOf (w : Cond) : Option (MethodName × List UInt8 × Nat × Option FieldType) := match w with
  | .code y c n r => some (y, c.data.toList, n, r)
  | _ => none
theorem cd_mem {i : Nat} {y : MethodName} {c : ByteArray} {n : Nat} {r : Option FieldType} (h : (tables_1[i]?).bind cdOf = some (y, c.data.toList, n, r)) : Cond.code y c n r ∈ lw_tbl := by
  cases hw : tables_1[i]? with
  | none => rw [hw] at h; cases h
  | some w =>
    rw [hw, Option.bind_some] at h
    cases w with
    | code y9 c9 n9 r9 =>
      simp only [cdOf, Option.some.injEq, Prod.mk.injEq] at h
      obtain ⟨h1, h2, h3, h4⟩ := h
      have h5 : c9 = c := ByteArray.ext (Array.ext' h2)
      rw [h1, h3, h4, h5] at hw
      exact tm0 i hw
    | _ => cases h
theorem kcX11_init : Cond.code yX11_init cX11_init 1 none ∈ zt := zmem (cd_mem (i := 1237) (by decide +kernel)) rfl
theorem nwL_8 : NW RL 8 10 RX10 TX10 14 := ⟨clX10, zmem (tm0 25 (by decide +kernel)) rfl, zmem (tm0 26 (by decide +kernel)) rfl, zmem (tm0 1 (by decide +kernel)) rfl, rfl, by decide +kernel⟩
theorem nwL_18 : NW RL 18 11 RX11 TX11 71 := ⟨clX11, zmem (tm0 1233 (by decide +kernel)) rfl, zmem (tm0 1234 (by decide +kernel)) rfl, zmem (tm0 16 (by decide +kernel)) rfl, rfl, by decide +kernel⟩
theorem miL_17 : MI RL 17 yX10_init mdX10_i 0 := ⟨⟨by decide, by decide, by decide +kernel⟩, rfl, rfl, zmem (tm0 27 (by decide +kernel)) rfl, zmem (tm0 28 (by decide +kernel)) rfl, zmem (tm0 1 (by decide +kernel)) rfl, zmem (tm0 29 (by decide +kernel)) rfl⟩
theorem miL_20 : MI RL 20 yX11_init mdX11_i 0 := ⟨⟨by decide, by decide, by decide +kernel⟩, rfl, rfl, zmem (tm0 1235 (by decide +kernel)) rfl, zmem (tm0 1236 (by decide +kernel)) rfl, zmem (tm0 16 (by decide +kernel)) rfl, kcX11_init⟩
abbrev pn : zP := fun _ _ => none
/-- the class's pointers: none beyond its cells -/
theorem FR.x10 {M : zM} (hF0 : FR M pn 3) : ∀ k, 209 ≤ k → ∀ i, pX10 pn k i = none := by
  have z0 : FR (fun _ _ => 0) pn 3 := fun k hk => ⟨fun i => rfl, fun i => rfl⟩
  have h1 := ((z0.le (show _ ≤ 23 by decide)).sp (q := 2) (i := 0) (v := some 3) (by decide)).pT4.sp (q := 2) (i := 2) (v := some 4) (by decide)
  have h2 := (h1.le (show _ ≤ 42 by decide)).pT23.sp (q := 2) (i := 3) (v := some 23) (by decide)
  have h3 := (fr_rd (h2.le (show _ ≤ 50 by decide))).sp (q := 2) (i := 4) (v := some 42) (by decide)
  have h4 := (h3.le (show _ ≤ 54 by decide)).pH.sp (q := 2) (i := 5) (v := some 50) (by decide)
  have h5 := (h4.le (show _ ≤ 61 by decide)).pPl.sp (q := 2) (i := 6) (v := some 54) (by decide)
  have h6 := ((h5.le (show _ ≤ 67 by decide)).pS (q := 61) (by decide)).sp (q := 2) (i := 7) (v := some 61) (by decide)
  have h7 := ((h6.le (show _ ≤ 73 by decide)).pS (q := 67) (by decide)).sp (q := 2) (i := 8) (v := some 67) (by decide)
  have h8 := ((h7.le (show _ ≤ 79 by decide)).pS (q := 73) (by decide)).sp (q := 2) (i := 9) (v := some 73) (by decide)
  have h9 := (h8.le (show _ ≤ 201 by decide)).pU.sp (q := 2) (i := 11) (v := some 79) (by decide)
  have ha := (h9.le (show _ ≤ 208 by decide)).pN.sp (q := 2) (i := 12) (v := some 201) (by decide)
  have hb := (ha.le (show _ ≤ 209 by decide)).sp (q := 2) (i := 13) (v := some 208) (by decide)
  exact fun k hk i => (hb k hk).2 i
theorem pf_ok : PFok (pX11 (pX10 pn)) := by unfold PFok; decide +kernel
/-- the law, from its entry -/
theorem lawZ {G : zG} {l : Launch} {L sa va : Nat} {xs : Nat → Int32} {Z : zZ} (hX : ∀ U, G.2.2.2.2 U → XH G.2.2.2.1 U) (hT : ∀ U, G.2.2.2.2 U → XT G.2.2.2.1 sa va U) (hl : l.stackTraces = false) (hL : L ≤ 3072) (hZ : ∀ (P : zP) (M : zM), Z (some (aI 1)) (LAY L) P M) : AW G l (mdL room_1) Z 0 [some (aR 0), none, none, none, none, none, none] [] ((LAY L).take 2) pn (M0 xs) 0 0 := by
  have hF0 := M0_F xs
  have hF1 : FR (M0 xs) pn 3 := hF0.le (by decide)
  have hR : LR room_1 := ⟨by decide, by decide⟩
  refine a_new (N := 14) (lay' := (LAY L).take 3) dL_law_0 nwL_8 (xkL (by decide)) (by decide) (fun i => (hF0 2 (by decide)).1 i) (fun i => (hF0 2 (by decide)).2 i) (xkS (L2 L)) ⟨Nat.le_of_ble_eq_true rfl, Nat.le_of_ble_eq_true rfl⟩ ?_
  refine a_dupR dL_law_3 ?_
  refine a_invI (as := []) (q := 2) (C := "") dL_law_4 miL_17 ⟨by decide, by decide⟩ rfl rfl (Nat.le_of_ble_eq_true rfl) ⟨Nat.le_of_ble_eq_true rfl, Nat.le_of_ble_eq_true rfl⟩ (i_X10 hT hF1) ?_
  rintro _ _ _ Ma ⟨rfl, rfl, rfl, M1, M2, hc1, hc2, hc3⟩
  obtain ⟨hCK, hz⟩ := ck_made (M0_s xs) hF1 hc1 hc2 hc3
  have hFa : FR Ma (pX10 pn) 209 := fun k hk => ⟨hz k hk, FR.x10 hF1 k hk⟩
  refine c_astoren (ls' := [some (aR 0), some (aR 2), none, none, none, none, none]) dL_law_7 (by decide) rfl rfl ?_
  refine a_new (N := 71) (lay' := (LAY L).take 210) dL_law_8 nwL_18 (xkL (by decide)) (by decide) (fun i => (hFa 209 (by decide)).1 i) (fun i => (hFa 209 (by decide)).2 i) (xkS (L209 L)) ⟨Nat.le_of_ble_eq_true rfl, Nat.le_of_ble_eq_true rfl⟩ ?_
  refine a_dupR dL_law_11 ?_
  refine a_invI (as := []) (q := 209) (C := "") dL_law_12 miL_20 ⟨by decide, by decide⟩ rfl rfl (Nat.le_of_ble_eq_true rfl) ⟨Nat.le_of_ble_eq_true rfl, Nat.le_of_ble_eq_true rfl⟩ (i_X11 pf_ok (hFa.le (by decide))) ?_
  rintro _ _ _ Mb ⟨rfl, rfl, rfl, hb⟩
  obtain ⟨hRK, hsame⟩ := rk_made hz hb
  have hrel : REL 4 23 Mb Mb := rel_made (hCK.of hsame) hRK
  refine c_astoren (ls' := [some (aR 0), some (aR 2), some (aR 209), none, none, none, none]) dL_law_15 (by decide) rfl rfl ?_
  refine a_iconst dL_law_16 ?_
  refine a_newa (t := 2) (N := 1) (lay' := LAY L) dL_law_17 acl_2 (Or.inr (Or.inr ⟨rfl, rfl⟩)) rfl (by decide) (xkL (by decide)) (by decide) ?_ ?_ ((xkS (L243 L)).trans (List.take_of_length_le (Nat.le_of_eq (LAY_244 L)))) ⟨Nat.le_of_ble_eq_true rfl, Nat.le_of_ble_eq_true rfl⟩ ?_
  · exact hRK.1 243 (by decide) (by decide) (by decide)
  · intro i
    unfold pX11
    repeat rw [sp_n (show (243 : Nat) ≠ 209 by decide)]
    exact FR.x10 hF1 243 (by decide) i
  refine c_astoren (ls' := [some (aR 0), some (aR 2), some (aR 209), some (aR 243), none, none, none]) dL_law_19 (by decide) rfl rfl ?_
  refine a_iconst dL_law_20 ?_
  refine c_istore (ls' := [some (aR 0), some (aR 2), some (aR 209), some (aR 243), some (aI 0), none, none]) dL_law_21 (by decide) rfl rfl ?_
  refine lpL hL hR (hsCs hX hl hL hR) (fun P M k n i x5 x6 kn => finL hZ P M k n i x5 x6 kn) 513 4 23 _ _ _ _ 0 none none pf_ok (by decide +kernel) (by decide +kernel) (by decide +kernel) hrel (by decide) (by decide) (by omega) ⟨?_, ?_⟩
  · exact Nat.le_of_ble_eq_true rfl
  · exact Nat.le_of_ble_eq_true rfl
end ZLW
