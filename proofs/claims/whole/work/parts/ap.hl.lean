section ZHL
theorem REL.r42 {t d : Nat} {C R R' : zM} (h : REL t d C R) (hr0 : ∀ (k : Nat) (i : Int), 209 ≤ k → k ≤ 242 → ¬ scR k i → R' k i = R k i) (h60 : 0 ≤ R' 209 60 ∧ R' 209 60 ≤ 20) : REL t d C R' := by
  have td := h.td
  have hr : ∀ (k : Nat) (i : Int), (209 ≤ k ∧ k ≤ 242) → ¬ scR k i → R' k i = R k i := fun k i a b => hr0 k i a.1 a.2 b
  obtain ⟨⟨a1, a2, a3⟩, ⟨b1, b2⟩, ⟨⟨c1, c2⟩, c3⟩, e, ⟨f1, f2⟩, g, ⟨i1, i2, i3⟩, _⟩ := h
  have n6 := a1.n6
  unfold scR at hr
  have r : ∀ k : Nat, (210 ≤ k ∧ k ≤ 230) ∨ k = 239 ∨ k = 241 ∨ k = 242 → R' k = R k := fun k hk => funext fun i => hr k i (by omega) (by omega)
  have r9 : ∀ i : Int, i ≠ 2 → i ≠ 47 → ¬ (55 ≤ i ∧ i ≤ 60) → R' 209 i = R 209 i := fun i x y z => hr 209 i (by omega) (by omega)
  obtain ⟨k, s, nn, ii, ht, h5⟩ := id a1
  obtain ⟨⟨x1, ⟨x2, x3, x4⟩, ⟨y1, y2, y3, y4⟩, _⟩, x6⟩ := f1
  have lr : ∀ w : Int, LrI R w → LrI R' w := fun w q => LrI_of (r _ (by decide)) (r _ (by decide)) (r _ (by decide)) (r _ (by decide)) (r _ (by decide)) (r _ (by decide)) q
  refine ⟨⟨⟨k.of (fun _ _ _ => rfl) (fun q x y => r q (by omega)) (fun i x y => r9 i (by omega) (by omega) (by omega)), s.mk n6.2 rfl (fun _ _ _ => ⟨rfl, rfl, rfl, rfl⟩) (fun _ _ _ => rfl) rfl (fun j x y => ⟨hr 233 _ (by omega) (by omega), hr 234 _ (by omega) (by omega), hr 235 _ (by omega) (by omega)⟩) (fun j x y => ⟨hr 236 _ (by omega) (by omega), hr 237 _ (by omega) (by omega)⟩) (hr 238 0 (by omega) (by omega)), by rw [r9 54 (by decide) (by decide) (by decide)]; exact nn, ii, ht, h5⟩, a2.of n6.2 rfl (fun _ _ => rfl) rfl rfl (r 241 (by omega)) (r9 65 (by decide) (by decide) (by decide)), a3.of n6.2 rfl (fun _ _ => rfl) rfl (r 242 (by omega)) (fun i hi => r9 i (by omega) (by omega) (by omega))⟩, ⟨b1.of (fun _ _ _ => rfl) (r 239 (by omega)) (fun i hi => r9 i (by omega) (by omega) (by omega)), b2⟩, ⟨⟨by rw [r 210 (by omega)]; exact c1, by rw [r9 1 (by decide) (by decide) (by decide)]; exact c2⟩, c3⟩, ⟨by rw [r9 4 (by decide) (by decide) (by decide)]; exact e.1, by rw [r9 5 (by decide) (by decide) (by decide)]; exact e.2⟩, ⟨⟨⟨?_, ⟨lr 0 x2, lr 1 x3, lr 2 x4⟩, ⟨?_, ?_, ?_, ?_⟩, h60⟩, by rw [r9 54 (by decide) (by decide) (by decide)]; exact x6⟩, f2.c9 (fun k x y => r k (by omega))⟩, g, ⟨i1, i2, by rw [r 211 (by omega)]; exact i3⟩, td⟩
  · unfold TxI at *
    rw [r9 12 (by decide) (by decide) (by decide), r9 13 (by decide) (by decide) (by decide), r9 14 (by decide) (by decide) (by decide), r 213 (by omega), r 215 (by omega), r 216 (by omega), r 217 (by omega), r 218 (by omega), r 219 (by omega), r 220 (by omega), r 221 (by omega), r 222 (by omega)]
    exact x1
  · intro i x y; rw [hr 233 _ (by omega) (by omega)]; exact y1 i x y
  · intro i x y; rw [hr 234 _ (by omega) (by omega)]; exact y2 i x y
  · intro i x y; rw [hr 236 _ (by omega) (by omega)]; exact y3 i x y
  · rw [hr 238 _ (by omega) (by omega)]; exact y4
/-- out's row doesn't matter -/
theorem REL.w243 {t d : Nat} {C R : zM} (h : REL t d C R) (i v : Int) : REL t d C (sm R 243 i v) := h.r42 (fun k j h1 h2 _ => by rw [sm_n (by omega)]) (by rw [sm_n (by omega)]; exact h.h60)
section ZHLa
variable {G : zG} {l : Launch} {md : zMd} {Z : zZ} {pc : Nat} {ls : List (Option av)} {st : List av} {lay : List zKd} {P : zP} {M : zM} {k n : Nat}
theorem a_i2w {x : Int} (d : decode md.2.2.1 pc = .ok (.i2l, 1)) (kk : AW G l md Z (pc + 1) ls (aL ((Int32.ofInt x).toInt) :: st) lay P M (k) (n)) : AW G l md Z (pc) ls (aI x :: st) lay P M (k) (n) := by
  have h := a_i2l (x := (Int32.ofInt x).toInt) d ⟨Int32.le_toInt _, Int32.toInt_lt _⟩ kk
  intro hG p e s m args below meth c H locs lsA hC hl hH hS
  have h9 := h hG p e s m args below meth c H locs lsA hC hl hH hS
  rw [List.map_cons, cv_I, Int32.ofInt_toInt] at h9
  rw [List.map_cons, cv_I]
  exact h9
end ZHLa
/-- the law's own row for house -/
abbrev mdL_h : zMd := mdL_house
def lhZ2 (L : Nat) (P : zP) (M : zM) (t : Nat) (h w : Int) : zZ := fun r lay' P' M' => lay' = LAY L ∧ P' = P ∧ ((r = some (aI 1) ∧ ¬ (0 ≤ h ∧ h < M t 2) ∧ M' = M) ∨ (r = some (aI 2) ∧ (0 ≤ h ∧ h < M t 2) ∧ ¬ (0 ≤ w ∧ w ≤ 6) ∧ M' = M) ∨ (r = some (aI 0) ∧ (0 ≤ h ∧ h < M t 2) ∧ (0 ≤ w ∧ w ≤ 6) ∧ ∃ M1, Cn t M M1 ∧ M' = sm M1 243 0 ((Int32.ofInt (hsC9 M t w h)).toInt)))
theorem MQ.vx {G : zG} {Z : zZ} {XC : String → State → State → Prop} {below : List Frame} {s : State} {args : Array Value} {mc ms : Nat} {t : State} (z : MQ below (zQ G Z) args s mc ms (zA G) t) : vx_MQ below (zQ G Z) XC args s mc ms (zA G) t := by
  obtain ⟨o, s1, s2, s3, s4⟩ := z
  exact ⟨o, s1, s2, Or.inl ⟨s3, s4⟩⟩
/-- the two rows of the table -/
theorem hh_13 : tableOf hhL = [] ++ { startPc := 0, endPc := 10, handlerPc := 13, catchType := 13 } :: [{ startPc := 0, endPc := 10, handlerPc := 17, catchType := 15 }] := rfl
theorem hh_17 : tableOf hhL = [{ startPc := 0, endPc := 10, handlerPc := 13, catchType := 13 }] ++ { startPc := 0, endPc := 10, handlerPc := 17, catchType := 15 } :: [] := rfl
set_option maxRecDepth 100000 in
set_option maxHeartbeats 4000000 in
theorem m_L_house {G : zG} {l : Launch} {L : Nat} {P : zP} {M : zM} {t : Nat} {h w : Int} (hX : ∀ U, G.2.2.2.2 U → XH G.2.2.2.1 U) (hl : l.stackTraces = false) (hv : CV L P M t) (rh : inR h) (rw : inR w) (hG : GK G) : vx_Met l yL_house (.codeWith yL_house mdL_house.2.2.1 mdL_house.2.2.2.1 mdL_house.2.2.2.2.1 hhL :: zt) mdL_house.2.2.2.2.2 (fun v U => v = ([aR 2, aI h, aI w, aR 243].map (cv G.1)).toArray ∧ HR G (LAY L) P M U.heap ∧ KK G U) (zQ G (lhZ2 L P M t h w)) (fun _ _ _ => False) mdL_house.2.2.2.2.2.cells mdL_house.2.2.2.2.2.slots (zA G) := by
  refine AC.metH (ls := [some (aR 2), some (aI h), some (aI w), some (aR 243), none]) rfl (Nat.le_of_ble_eq_true rfl) (by decide) rfl rfl (fun c ht => ?_) hG
  refine y_aloadn dL_house_0 rfl ?_
  refine y_iconst dL_house_1 ?_
  refine y_aloadn dL_house_2 rfl ?_
  refine y_iloadn dL_house_3 rfl ?_
  refine y_iloadn dL_house_4 rfl ?_
  refine y_invVX (as := [_, _]) (q := 2) dL_house_5 mvL_7 ⟨by decide, by decide⟩ (L2 L) rfl rfl rfl (Nat.le_of_ble_eq_true rfl) ⟨by decide, by decide⟩ (m_X10_house hX hl hv rh rw) ?_ ?_
  · rintro r9 lay9 P9 M9 ⟨z1, z2, x9, z3, z4, hh, hw, z5⟩
    rw [z1, z2, z3]
    refine AQ.fx (AW.q (Z := lhZ2 L P M t h w) ?_ (fun below s args t2 z => MQ.vx z)) c
    refine a_i2w dL_house_8 ?_
    refine a_last (N := 1) dL_house_9 (L243 L) (by decide) (by decide) (by decide) (by decide) ?_ ?_
    · have h1 := Int32.le_toInt (Int32.ofInt x9)
      have h2 := Int32.toInt_lt (Int32.ofInt x9)
      exact ⟨by omega, by omega⟩
    refine a_goto (tgt := 21) dL_house_10 (by decide) ?_
    refine a_iconst dL_house_21 ?_
    refine a_ireturn dL_house_22 rfl rfl rfl ?_
    exact ⟨rfl, rfl, Or.inr (Or.inr ⟨rfl, hh, hw, M9, z4, by rw [z5]⟩)⟩
  · intro hG p e s m args below meth locs lsA E ce qa s0 t2 hC hlv hS hx hce hcv hcl
    obtain ⟨hH, hx⟩ := hx
    have hts := hC.2.2.2.2.2.2.1
    have hK := hC.2.2.2.2.2.2.2.1
    obtain ⟨-, -, hnc, hw9⟩ := hX s hK.2.2.2.2
    have e0 : lv_has lsA 5 (zp G.1 []) := zl_sub hlv (fun i v h9 => by cases h9)
    rcases hx with ⟨rfl, hb⟩ | ⟨rfl, hb⟩
    · refine vx_catch (own := RL) (name := sIO) (E := sIO) hC.2.2.2.2.2.1 _ _ _ (ht.trans hh_13) (fun z hz => absurd hz List.not_mem_nil) (by decide) (by decide) (hts _ clL_13) (va_Nw.use rfl (hw9 (Cond.castable sIO sIO) (by simp [xw]))) hce hcv hcl ?_
      refine lv_astore (cc := cL_house) (i := 4) (nL := 5) hC.1 hC.2.1 dL_house_13 e0 (by decide) rfl (fun ls2 h2 => ?_)
      have k9 : AW G l mdL_house (lhZ2 L P M t h w) 15 [] [] (LAY L) P M 1 6 := by
        refine a_iconst dL_house_15 ?_
        refine a_ireturn dL_house_16 rfl rfl rfl ?_
        exact ⟨rfl, rfl, Or.inl ⟨rfl, hb, rfl⟩⟩
      intro T hT X
      obtain ⟨t3, b1, b2⟩ := k9 hG p e s m args below meth c t2.heap locs ls2 hC (zl_sub h2 (fun i v h9 => by cases h9)) hH hS T hT X
      exact ⟨t3, b1, MQ.vx b2⟩
    · refine vx_catch (own := RL) (name := sNS) (E := sNS) hC.2.2.2.2.2.1 _ _ _ (ht.trans hh_17) (fun z hz => ?_) (by decide) (by decide) (hts _ clL_15) (va_Nw.use rfl (hw9 (Cond.castable sNS sNS) (by simp [xw]))) hce hcv hcl ?_
      · rw [List.mem_singleton.mp hz]
        exact Or.inr ⟨by decide, sIO, hts _ clL_13, hnc⟩
      refine lv_astore (cc := cL_house) (i := 4) (nL := 5) hC.1 hC.2.1 dL_house_17 e0 (by decide) rfl (fun ls2 h2 => ?_)
      have k9 : AW G l mdL_house (lhZ2 L P M t h w) 19 [] [] (LAY L) P M 1 6 := by
        refine a_iconst dL_house_19 ?_
        refine a_ireturn dL_house_20 rfl rfl rfl ?_
        exact ⟨rfl, rfl, Or.inr (Or.inl ⟨rfl, hb.1, hb.2, rfl⟩)⟩
      intro T hT X
      obtain ⟨t3, b1, b2⟩ := k9 hG p e s m args below meth c t2.heap locs ls2 hC (zl_sub h2 (fun i v h9 => by cases h9)) hH hS T hT X
      exact ⟨t3, b1, MQ.vx b2⟩
set_option maxRecDepth 100000 in
set_option maxHeartbeats 4000000 in
theorem hsT {G : zG} {l : Launch} {R : Room} {Z : zZ} {L : Nat} {P : zP} {M N : zM} {k n t d : Nat} {i x : Int} {x5 x6 : Option av} (hL : L ≤ 3072) (hR : LR R) (kn : k ≤ R.cells ∧ n ≤ R.slots) (hP : PFok P) (hMN : REL t d M N) (hNN : REL t d N N) (i0 : 0 ≤ i) (i1 : i + 6 ≤ L)
    (hx : (x = 1 ∧ ¬ (0 ≤ N 0 (i + 1) ∧ N 0 (i + 1) < M t 2)) ∨ (x = 2 ∧ (0 ≤ N 0 (i + 1) ∧ N 0 (i + 1) < M t 2) ∧ ¬ (0 ≤ N 0 (i + 2) ∧ N 0 (i + 2) ≤ 6)) ∨ (x = 0 ∧ (0 ≤ N 0 (i + 1) ∧ N 0 (i + 1) < M t 2) ∧ (0 ≤ N 0 (i + 2) ∧ N 0 (i + 2) ≤ 6) ∧ N 243 0 = (Int32.ofInt (hsC9 M t (N 0 (i + 2)) (N 0 (i + 1)))).toInt))
    (kk : ∀ (y5 y6 : Option av) (M2 : zM), REL t d M2 M2 → AW G l (mdL R) Z 1650 (lsL i y5 y6) [] (LAY L) P M2 k n) : AW G l (mdL R) Z 389 (lsL i x5 x6) [aI x] (LAY L) P N k n := by
  have eh : N 209 12 = M t 2 := hMN.1.1.1.1.1
  refine c_istore (ls' := lsL i (some (aI x)) x6) dL_law_389 (show 5 < 7 by decide) rfl rfl ?_
  refine a_aloadn dL_law_391 rfl ?_
  refine a_aloadn dL_law_392 rfl ?_
  refine a_iload dL_law_393 rfl ?_
  refine a_iconst dL_law_395 ?_
  refine a_iadd dL_law_396 ?_
  refine b_iald dL_law_397 (L0 L) (by omega) (by omega) (by omega) (fun ra1 => ?_)
  refine a_aloadn dL_law_398 rfl ?_
  refine a_iload dL_law_399 rfl ?_
  refine a_iconst dL_law_401 ?_
  refine a_iadd dL_law_402 ?_
  refine b_iald dL_law_403 (L0 L) (by omega) (by omega) (by omega) (fun ra2 => ?_)
  refine a_anyV (as := [_, _]) (q := 209) dL_law_404 mvL_44 ⟨Nat.le_trans (by decide) hR.1, Nat.le_trans (by decide) hR.2⟩ (L209 L) rfl rfl rfl (Nat.le_of_ble_eq_true rfl) ⟨rfl, rfl⟩ kn (m_X11_house (hNN.rv hP) ra1 ra2) (fun r2 N2 hN2 => ?_)
  obtain ⟨hr, hc⟩ := hN2
  have h2 : REL t d N2 N2 := (hNN.ra hr).lo hr.1.lo
  have e243 : N2 243 0 = N 243 0 := hr.1 243 0 (by omega)
  refine c_istore (ls' := lsL i (some (aI x)) (some (aI r2))) dL_law_407 (show 6 < 7 by decide) rfl rfl ?_
  refine a_aloadn dL_law_409 rfl ?_
  refine a_callV (as := []) (q := 209) dL_law_410 mvL_45 ⟨Nat.le_trans (by decide) hR.1, Nat.le_trans (by decide) hR.2⟩ (L209 L) rfl rfl rfl (Nat.le_of_ble_eq_true rfl) ⟨rfl, rfl⟩ kn (m_X11_thrown hP) ?_
  refine a_iload dL_law_413 rfl ?_
  rw [eh] at hc
  have et : N2 209 2 = x := by
    rcases hx with ⟨q1, q2⟩ | ⟨q1, q2, q3⟩ | ⟨q1, q2, q3, q4⟩
    · rcases hc with ⟨p1, p2, p3⟩ | ⟨p1, p2, p3, p4⟩ | ⟨p1, p2, p3, p4⟩
      · rw [q1]; exact p3
      · exact absurd p1 q2
      · exact absurd p1 q2
    · rcases hc with ⟨p1, p2, p3⟩ | ⟨p1, p2, p3, p4⟩ | ⟨p1, p2, p3, p4⟩
      · exact absurd q2 p1
      · exact absurd p2 q3
      · rw [q1]; exact p4
    · rcases hc with ⟨p1, p2, p3⟩ | ⟨p1, p2, p3, p4⟩ | ⟨p1, p2, p3, p4⟩
      · exact absurd q2 p1
      · rw [q1]; exact p3
      · exact absurd q3 p2
  rw [et]
  refine a_same (tgt := 420) dL_law_415 (by decide) ?_
  refine a_iload dL_law_420 rfl ?_
  have rx : inR x := ⟨by omega, by omega⟩
  refine a_if_ne (tgt := 437) dL_law_422 (by decide) rx (fun _ => ?_) (fun q => ?_)
  · exact a_goto (tgt := 1650) dL_law_437 (by decide) (kk _ _ N2 h2)
  have h3 : (0 ≤ N 0 (i + 1) ∧ N 0 (i + 1) < M t 2) ∧ (0 ≤ N 0 (i + 2) ∧ N 0 (i + 2) ≤ 6) ∧ N 243 0 = (Int32.ofInt (hsC9 M t (N 0 (i + 2)) (N 0 (i + 1)))).toInt := by
    rcases hx with ⟨q1, q2⟩ | ⟨q1, q2, q3⟩ | ⟨q1, q2, q3, q4⟩
    · exfalso; omega
    · exfalso; omega
    · exact ⟨q2, q3, q4⟩
  obtain ⟨g1, g2, g3⟩ := h3
  have er : r2 = hsC9 M t (N 0 (i + 2)) (N 0 (i + 1)) := by
    rcases hc with ⟨p1, p2, p3⟩ | ⟨p1, p2, p3, Mb, p4, p5⟩ | ⟨p1, p2, p3, p4⟩
    · exact absurd g1 p1
    · rw [p5]; exact q_house hMN.1.1 p4 g1
    · exact absurd g2 p2
  refine a_aloadn dL_law_425 rfl ?_
  refine a_iconst dL_law_426 ?_
  refine b_lald (N := 1) dL_law_427 (L243 L) (by decide) (by decide) (by decide) (fun _ => ?_)
  refine a_iload dL_law_428 rfl ?_
  refine a_i2w dL_law_430 ?_
  rw [e243, g3, er]
  refine a_lsame dL_law_431 ?_
  refine a_if_eq (tgt := 437) dL_law_432 (by decide) ⟨by decide, by decide⟩ (fun _ => ?_) (fun q => absurd rfl q)
  exact a_goto (tgt := 1650) dL_law_437 (by decide) (kk _ _ N2 h2)
set_option maxRecDepth 100000 in
set_option maxHeartbeats 4000000 in
theorem hsCs {G : zG} {l : Launch} {R : Room} {Z : zZ} {L : Nat} (hX : ∀ U, G.2.2.2.2 U → XH G.2.2.2.1 U) (hl : l.stackTraces = false) (hL : L ≤ 3072) (hR : LR R) : HsC G l R Z L := by
  intro t d P M k n i x5 x6 hP h22 h50 h i0 i1 kn kk
  refine a_aloadn dL_law_372 rfl ?_
  refine a_aloadn dL_law_373 rfl ?_
  refine a_iload dL_law_374 rfl ?_
  refine a_iconst dL_law_376 ?_
  refine a_iadd dL_law_377 ?_
  refine b_iald dL_law_378 (L0 L) (by omega) (by omega) (by omega) (fun ra1 => ?_)
  refine a_aloadn dL_law_379 rfl ?_
  refine a_iload dL_law_380 rfl ?_
  refine a_iconst dL_law_382 ?_
  refine a_iadd dL_law_383 ?_
  refine b_iald dL_law_384 (L0 L) (by omega) (by omega) (by omega) (fun ra2 => ?_)
  refine a_aloadn dL_law_385 rfl ?_
  refine a_invSX (as := [_, _, _, _]) dL_law_386 msL_39 ⟨Nat.le_trans (by decide) hR.1, Nat.le_trans (by decide) hR.2⟩ rfl rfl (Nat.le_of_ble_eq_true rfl) ⟨Nat.le_trans (show k + 1 ≤ k + 100 by omega) kn.1, Nat.le_trans (show n + 6 ≤ n + 1000 by omega) kn.2⟩ (m_L_house hX hl (h.cv hP h22 h50) ra1 ra2) ?_
  rintro r9 lay9 P9 M9 ⟨z1, z2, z⟩
  rw [z1, z2]
  have k9 : k + 1 ≤ R.cells ∧ n + 6 ≤ R.slots := ⟨by omega, by omega⟩
  have kk2 : ∀ (y5 y6 : Option av) (M2 : zM), REL t d M2 M2 → AW G l (mdL R) Z 1650 (lsL i y5 y6) [] (LAY L) P M2 (k + 1) (n + 6) := fun y5 y6 M2 h2 => kk (k + 1) (n + 6) y5 y6 M2 (by omega) (by omega) h2
  rcases z with ⟨zr, zh, zM⟩ | ⟨zr, zh, zw, zM⟩ | ⟨zr, zh, zw, M1, zc, zM⟩
  · rw [zr, zM]
    exact hsT hL hR k9 hP h h i0 i1 (Or.inl ⟨rfl, zh⟩) kk2
  · rw [zr, zM]
    exact hsT hL hR k9 hP h h i0 i1 (Or.inr (Or.inl ⟨rfl, zh, zw⟩)) kk2
  · rw [zr]
    have e0 : M9 0 = M 0 := by rw [zM, sm_n (by decide)]; exact zc.1 0 (by omega)
    have h1 : REL t d M M9 := by rw [zM]; exact (h.up zc.up).w243 _ _
    have h2 : REL t d M9 M9 := by
      have h3 := h1.ca zc
      refine h3.lo (fun q hq => ?_)
      rw [zM, sm_n (by omega)]
    refine hsT hL hR k9 hP h1 h2 i0 i1 (Or.inr (Or.inr ⟨rfl, by rw [e0]; exact zh, by rw [e0]; exact zw, ?_⟩)) kk2
    rw [e0, zM, sm_s]
end ZHL
