section ZLAWC
abbrev mdL (R : Room) : zMd := (RL, "law", cL_law, 7, some .boolean, R)
def LR (R : Room) : Prop := 20 ≤ R.frames ∧ 2000 ≤ R.locals
abbrev lsL (i : Int) (x5 x6 : Option av) : List (Option av) := [some (aR 0), some (aR 2), some (aR 209), some (aR 243), some (aI i), x5, x6]
theorem a_same {G : zG} {l : Launch} {md : zMd} {Z : zZ} {pc : Nat} {ls : List (Option av)} {st : List av} {lay : List zKd} {P : zP} {M : zM} {k n : Nat} {x : Int} {off : Int} {tgt : Nat} (d : decode md.2.2.1 pc = .ok (.if_icmp .eq off, 3)) (ht : (pc : Int) + off = (tgt : Int)) (kt : AW G l md Z (tgt) ls (st) lay P M (k) (n)) : AW G l md Z (pc) ls (aI x :: aI x :: st) lay P M (k) (n) := by
  intro hG p e s m args below meth c H locs lsA hC hl hH hS
  exact lv_icmp_eq hC.1 hC.2.1 d ht (fun q => kt hG p e s m args below meth c H locs lsA hC hl hH hS) (fun q => absurd rfl q)
theorem a_lsame {G : zG} {l : Launch} {md : zMd} {Z : zZ} {pc : Nat} {ls : List (Option av)} {st : List av} {lay : List zKd} {P : zP} {M : zM} {k n : Nat} {x : Int} (d : decode md.2.2.1 pc = .ok (.lcmp, 1)) (kk : AW G l md Z (pc + 1) ls (aI 0 :: st) lay P M (k) (n)) : AW G l md Z (pc) ls (aL x :: aL x :: st) lay P M (k) (n) := by
  intro hG p e s m args below meth c H locs lsA hC hl hH hS
  have h := kk hG p e s m args below meth c H locs lsA hC hl hH hS
  refine W.lcmp hC.1 hC.2.1 d ?_
  rw [List.map_cons, cv_I] at h
  have e : Int32.ofInt 0 = lg_cmp (Int64.ofInt x) (Int64.ofInt x) := by
    unfold lg_cmp
    rw [if_neg (fun q => absurd (Int64.lt_iff_toInt_lt.mp q) (Int.lt_irrefl _)), if_pos rfl]
    rfl
  rw [e] at h
  exact h
end ZLAWC

set_option maxRecDepth 100000 in
set_option maxHeartbeats 4000000 in
theorem csL_fault {G : zG} {l : Launch} {R : Room} {Z : zZ} {L : Nat} {P : zP} {M : zM} {k n t d : Nat} {i : Int} {x5 x6 : Option av} (hL : L ≤ 3072) (hR : LR R) (kn : k ≤ R.cells ∧ n ≤ R.slots) (hP : PFok P) (h22 : P 2 2 = some t) (h50 : P 50 0 = some t) (h : REL t d M M) (i0 : 0 ≤ i) (i1 : i + 6 ≤ L) (kk : ∀ M2, REL t d M2 M2 → AW G l (mdL R) Z 1650 (lsL i x5 x6) [] (LAY L) P M2 k n) : AW G l (mdL R) Z 322 (lsL i x5 x6) [] (LAY L) P M k n := by
  refine a_aloadn dL_law_322 rfl ?_
  refine a_aloadn dL_law_323 rfl ?_
  refine a_iload dL_law_324 rfl ?_
  refine a_iconst dL_law_326 ?_
  refine a_iadd dL_law_327 ?_
  refine b_iald dL_law_328 (L0 L) (by omega) (by omega) (by omega) (fun ra1 => ?_)
  refine a_anyV (as := [_]) (q := 2) dL_law_329 mvL_31 ⟨Nat.le_trans (by decide) hR.1, Nat.le_trans (by decide) hR.2⟩ (L2 L) rfl rfl rfl (Nat.le_of_ble_eq_true rfl) ⟨rfl, rfl⟩ kn (m_X10_fault (h.cv hP h22 h50) ra1) (fun r1 M1 hM1 => ?_)
  have h1 := h.up hM1.1.up
  have e0 : M1 0 = M 0 := hM1.1.1 0 (by omega)
  refine a_aloadn dL_law_332 rfl ?_
  refine a_aloadn dL_law_333 rfl ?_
  refine a_iload dL_law_334 rfl ?_
  refine a_iconst dL_law_336 ?_
  refine a_iadd dL_law_337 ?_
  refine b_iald dL_law_338 (L0 L) (by omega) (by omega) (by omega) (fun _ => ?_)
  rw [e0]
  refine a_anyV (as := [_]) (q := 209) dL_law_339 mvL_34 ⟨Nat.le_trans (by decide) hR.1, Nat.le_trans (by decide) hR.2⟩ (L209 L) rfl rfl rfl (Nat.le_of_ble_eq_true rfl) ⟨rfl, rfl⟩ kn (m_X11_fault (h1.rv hP) ra1) (fun r2 M2 hM2 => ?_)
  obtain ⟨e2, h2⟩ := g_fault h hM1 hM2
  rw [e2]
  refine a_same (tgt := 1650) dL_law_342 (by decide) ?_
  exact kk M2 h2

set_option maxRecDepth 100000 in
set_option maxHeartbeats 4000000 in
theorem csL_named {G : zG} {l : Launch} {R : Room} {Z : zZ} {L : Nat} {P : zP} {M : zM} {k n t d : Nat} {i : Int} {x5 x6 : Option av} (hL : L ≤ 3072) (hR : LR R) (kn : k ≤ R.cells ∧ n ≤ R.slots) (hP : PFok P) (h22 : P 2 2 = some t) (h50 : P 50 0 = some t) (h : REL t d M M) (i0 : 0 ≤ i) (i1 : i + 6 ≤ L) (kk : ∀ M2, REL t d M2 M2 → AW G l (mdL R) Z 1650 (lsL i x5 x6) [] (LAY L) P M2 k n) : AW G l (mdL R) Z 347 (lsL i x5 x6) [] (LAY L) P M k n := by
  refine a_aloadn dL_law_347 rfl ?_
  refine a_aloadn dL_law_348 rfl ?_
  refine a_iload dL_law_349 rfl ?_
  refine a_iconst dL_law_351 ?_
  refine a_iadd dL_law_352 ?_
  refine b_iald dL_law_353 (L0 L) (by omega) (by omega) (by omega) (fun ra1 => ?_)
  refine a_anyV (as := [_]) (q := 2) dL_law_354 mvL_35 ⟨Nat.le_trans (by decide) hR.1, Nat.le_trans (by decide) hR.2⟩ (L2 L) rfl rfl rfl (Nat.le_of_ble_eq_true rfl) ⟨rfl, rfl⟩ kn (m_X10_named (h.cv hP h22 h50) ra1) (fun r1 M1 hM1 => ?_)
  have h1 := h.up hM1.1.up
  have e0 : M1 0 = M 0 := hM1.1.1 0 (by omega)
  refine a_aloadn dL_law_357 rfl ?_
  refine a_aloadn dL_law_358 rfl ?_
  refine a_iload dL_law_359 rfl ?_
  refine a_iconst dL_law_361 ?_
  refine a_iadd dL_law_362 ?_
  refine b_iald dL_law_363 (L0 L) (by omega) (by omega) (by omega) (fun _ => ?_)
  rw [e0]
  refine a_anyV (as := [_]) (q := 209) dL_law_364 mvL_38 ⟨Nat.le_trans (by decide) hR.1, Nat.le_trans (by decide) hR.2⟩ (L209 L) rfl rfl rfl (Nat.le_of_ble_eq_true rfl) ⟨rfl, rfl⟩ kn (m_X11_named (h1.rv hP) ra1) (fun r2 M2 hM2 => ?_)
  obtain ⟨e2, h2⟩ := g_named h hM1 hM2
  rw [e2]
  refine a_same (tgt := 1650) dL_law_367 (by decide) ?_
  exact kk M2 h2

set_option maxRecDepth 100000 in
set_option maxHeartbeats 4000000 in
theorem csL_heard {G : zG} {l : Launch} {R : Room} {Z : zZ} {L : Nat} {P : zP} {M : zM} {k n t d : Nat} {i : Int} {x5 x6 : Option av} (hL : L ≤ 3072) (hR : LR R) (kn : k ≤ R.cells ∧ n ≤ R.slots) (hP : PFok P) (h22 : P 2 2 = some t) (h50 : P 50 0 = some t) (h : REL t d M M) (i0 : 0 ≤ i) (i1 : i + 6 ≤ L) (kk : ∀ M2, REL t d M2 M2 → AW G l (mdL R) Z 1650 (lsL i x5 x6) [] (LAY L) P M2 k n) : AW G l (mdL R) Z 440 (lsL i x5 x6) [] (LAY L) P M k n := by
  refine a_aloadn dL_law_440 rfl ?_
  refine a_aloadn dL_law_441 rfl ?_
  refine a_iload dL_law_442 rfl ?_
  refine a_iconst dL_law_444 ?_
  refine a_iadd dL_law_445 ?_
  refine b_iald dL_law_446 (L0 L) (by omega) (by omega) (by omega) (fun ra1 => ?_)
  refine a_aloadn dL_law_447 rfl ?_
  refine a_iload dL_law_448 rfl ?_
  refine a_iconst dL_law_450 ?_
  refine a_iadd dL_law_451 ?_
  refine b_iald dL_law_452 (L0 L) (by omega) (by omega) (by omega) (fun ra2 => ?_)
  refine a_anyV (as := [_, _]) (q := 2) dL_law_453 mvL_49 ⟨Nat.le_trans (by decide) hR.1, Nat.le_trans (by decide) hR.2⟩ (L2 L) rfl rfl rfl (Nat.le_of_ble_eq_true rfl) ⟨rfl, rfl⟩ kn (m_X10_heard (h.cv hP h22 h50) ra1 ra2) (fun r1 M1 hM1 => ?_)
  have h1 := h.up hM1.1.up
  have e0 : M1 0 = M 0 := hM1.1.1 0 (by omega)
  refine a_aloadn dL_law_456 rfl ?_
  refine a_aloadn dL_law_457 rfl ?_
  refine a_iload dL_law_458 rfl ?_
  refine a_iconst dL_law_460 ?_
  refine a_iadd dL_law_461 ?_
  refine b_iald dL_law_462 (L0 L) (by omega) (by omega) (by omega) (fun _ => ?_)
  rw [e0]
  refine a_aloadn dL_law_463 rfl ?_
  refine a_iload dL_law_464 rfl ?_
  refine a_iconst dL_law_466 ?_
  refine a_iadd dL_law_467 ?_
  refine b_iald dL_law_468 (L0 L) (by omega) (by omega) (by omega) (fun _ => ?_)
  rw [e0]
  refine a_anyV (as := [_, _]) (q := 209) dL_law_469 mvL_52 ⟨Nat.le_trans (by decide) hR.1, Nat.le_trans (by decide) hR.2⟩ (L209 L) rfl rfl rfl (Nat.le_of_ble_eq_true rfl) ⟨rfl, rfl⟩ kn (m_X11_heard (h1.rv hP) ra1 ra2) (fun r2 M2 hM2 => ?_)
  obtain ⟨e2, h2⟩ := g_heard h hM1 hM2
  rw [e2]
  refine a_same (tgt := 1650) dL_law_472 (by decide) ?_
  exact kk M2 h2

set_option maxRecDepth 100000 in
set_option maxHeartbeats 4000000 in
theorem csL_sound {G : zG} {l : Launch} {R : Room} {Z : zZ} {L : Nat} {P : zP} {M : zM} {k n t d : Nat} {i : Int} {x5 x6 : Option av} (hL : L ≤ 3072) (hR : LR R) (kn : k ≤ R.cells ∧ n ≤ R.slots) (hP : PFok P) (h22 : P 2 2 = some t) (h50 : P 50 0 = some t) (h : REL t d M M) (i0 : 0 ≤ i) (i1 : i + 6 ≤ L) (kk : ∀ M2, REL t d M2 M2 → AW G l (mdL R) Z 1650 (lsL i x5 x6) [] (LAY L) P M2 k n) : AW G l (mdL R) Z 477 (lsL i x5 x6) [] (LAY L) P M k n := by
  refine a_aloadn dL_law_477 rfl ?_
  refine a_aloadn dL_law_478 rfl ?_
  refine a_iload dL_law_479 rfl ?_
  refine a_iconst dL_law_481 ?_
  refine a_iadd dL_law_482 ?_
  refine b_iald dL_law_483 (L0 L) (by omega) (by omega) (by omega) (fun ra1 => ?_)
  refine a_aloadn dL_law_484 rfl ?_
  refine a_iload dL_law_485 rfl ?_
  refine a_iconst dL_law_487 ?_
  refine a_iadd dL_law_488 ?_
  refine b_iald dL_law_489 (L0 L) (by omega) (by omega) (by omega) (fun ra2 => ?_)
  refine a_anyV (as := [_, _]) (q := 2) dL_law_490 mvL_53 ⟨Nat.le_trans (by decide) hR.1, Nat.le_trans (by decide) hR.2⟩ (L2 L) rfl rfl rfl (Nat.le_of_ble_eq_true rfl) ⟨rfl, rfl⟩ kn (m_X10_sound (h.cv hP h22 h50) ra1 ra2) (fun r1 M1 hM1 => ?_)
  have h1 := h.up hM1.1.up
  have e0 : M1 0 = M 0 := hM1.1.1 0 (by omega)
  refine a_aloadn dL_law_493 rfl ?_
  refine a_aloadn dL_law_494 rfl ?_
  refine a_iload dL_law_495 rfl ?_
  refine a_iconst dL_law_497 ?_
  refine a_iadd dL_law_498 ?_
  refine b_iald dL_law_499 (L0 L) (by omega) (by omega) (by omega) (fun _ => ?_)
  rw [e0]
  refine a_aloadn dL_law_500 rfl ?_
  refine a_iload dL_law_501 rfl ?_
  refine a_iconst dL_law_503 ?_
  refine a_iadd dL_law_504 ?_
  refine b_iald dL_law_505 (L0 L) (by omega) (by omega) (by omega) (fun _ => ?_)
  rw [e0]
  refine a_anyV (as := [_, _]) (q := 209) dL_law_506 mvL_56 ⟨Nat.le_trans (by decide) hR.1, Nat.le_trans (by decide) hR.2⟩ (L209 L) rfl rfl rfl (Nat.le_of_ble_eq_true rfl) ⟨rfl, rfl⟩ kn (m_X11_sound (h1.rv hP) ra1 ra2) (fun r2 M2 hM2 => ?_)
  obtain ⟨e2, h2⟩ := g_sound h hM1 hM2
  rw [e2]
  refine a_same (tgt := 1650) dL_law_509 (by decide) ?_
  exact kk M2 h2

set_option maxRecDepth 100000 in
set_option maxHeartbeats 4000000 in
theorem csL_law {G : zG} {l : Launch} {R : Room} {Z : zZ} {L : Nat} {P : zP} {M : zM} {k n t d : Nat} {i : Int} {x5 x6 : Option av} (hL : L ≤ 3072) (hR : LR R) (kn : k ≤ R.cells ∧ n ≤ R.slots) (hP : PFok P) (h22 : P 2 2 = some t) (h50 : P 50 0 = some t) (h : REL t d M M) (i0 : 0 ≤ i) (i1 : i + 6 ≤ L) (kk : ∀ M2, REL t d M2 M2 → AW G l (mdL R) Z 1650 (lsL i x5 x6) [] (LAY L) P M2 k n) : AW G l (mdL R) Z 514 (lsL i x5 x6) [] (LAY L) P M k n := by
  refine a_aloadn dL_law_514 rfl ?_
  refine a_aloadn dL_law_515 rfl ?_
  refine a_iload dL_law_516 rfl ?_
  refine a_iconst dL_law_518 ?_
  refine a_iadd dL_law_519 ?_
  refine b_iald dL_law_520 (L0 L) (by omega) (by omega) (by omega) (fun ra1 => ?_)
  refine a_aloadn dL_law_521 rfl ?_
  refine a_iload dL_law_522 rfl ?_
  refine a_iconst dL_law_524 ?_
  refine a_iadd dL_law_525 ?_
  refine b_iald dL_law_526 (L0 L) (by omega) (by omega) (by omega) (fun ra2 => ?_)
  refine a_aloadn dL_law_527 rfl ?_
  refine a_iload dL_law_528 rfl ?_
  refine a_iconst dL_law_530 ?_
  refine a_iadd dL_law_531 ?_
  refine b_iald dL_law_532 (L0 L) (by omega) (by omega) (by omega) (fun ra3 => ?_)
  refine a_anyLV (as := [_, _, _]) (q := 2) dL_law_533 mvL_57 ⟨Nat.le_trans (by decide) hR.1, Nat.le_trans (by decide) hR.2⟩ (L2 L) rfl rfl rfl (Nat.le_of_ble_eq_true rfl) ⟨rfl, rfl⟩ kn (m_X10_law (h.cv hP h22 h50) ra1 ra2 ra3) (fun r1 M1 hM1 => ?_)
  have h1 := h.up hM1.1.up
  have e0 : M1 0 = M 0 := hM1.1.1 0 (by omega)
  refine a_aloadn dL_law_536 rfl ?_
  refine a_aloadn dL_law_537 rfl ?_
  refine a_iload dL_law_538 rfl ?_
  refine a_iconst dL_law_540 ?_
  refine a_iadd dL_law_541 ?_
  refine b_iald dL_law_542 (L0 L) (by omega) (by omega) (by omega) (fun _ => ?_)
  rw [e0]
  refine a_aloadn dL_law_543 rfl ?_
  refine a_iload dL_law_544 rfl ?_
  refine a_iconst dL_law_546 ?_
  refine a_iadd dL_law_547 ?_
  refine b_iald dL_law_548 (L0 L) (by omega) (by omega) (by omega) (fun _ => ?_)
  rw [e0]
  refine a_aloadn dL_law_549 rfl ?_
  refine a_iload dL_law_550 rfl ?_
  refine a_iconst dL_law_552 ?_
  refine a_iadd dL_law_553 ?_
  refine b_iald dL_law_554 (L0 L) (by omega) (by omega) (by omega) (fun _ => ?_)
  rw [e0]
  refine a_anyLV (as := [_, _, _]) (q := 209) dL_law_555 mvL_61 ⟨Nat.le_trans (by decide) hR.1, Nat.le_trans (by decide) hR.2⟩ (L209 L) rfl rfl rfl (Nat.le_of_ble_eq_true rfl) ⟨rfl, rfl⟩ kn (m_X11_law (h1.rv hP) ra1 ra2 ra3) (fun r2 M2 hM2 => ?_)
  obtain ⟨e2, h2⟩ := g_law h hM1 hM2
  rw [e2]
  refine a_lsame dL_law_558 ?_
  refine a_if_eq (tgt := 1650) dL_law_559 (by decide) (by decide) (fun _ => kk M2 h2) (fun q => absurd rfl q)

set_option maxRecDepth 100000 in
set_option maxHeartbeats 4000000 in
theorem csL_ahead {G : zG} {l : Launch} {R : Room} {Z : zZ} {L : Nat} {P : zP} {M : zM} {k n t d : Nat} {i : Int} {x5 x6 : Option av} (hL : L ≤ 3072) (hR : LR R) (kn : k ≤ R.cells ∧ n ≤ R.slots) (hP : PFok P) (h22 : P 2 2 = some t) (h50 : P 50 0 = some t) (h : REL t d M M) (i0 : 0 ≤ i) (i1 : i + 6 ≤ L) (kk : ∀ M2, REL t d M2 M2 → AW G l (mdL R) Z 1650 (lsL i x5 x6) [] (LAY L) P M2 k n) : AW G l (mdL R) Z 688 (lsL i x5 x6) [] (LAY L) P M k n := by
  refine a_aloadn dL_law_688 rfl ?_
  refine a_aloadn dL_law_689 rfl ?_
  refine a_iload dL_law_690 rfl ?_
  refine a_iconst dL_law_692 ?_
  refine a_iadd dL_law_693 ?_
  refine b_iald dL_law_694 (L0 L) (by omega) (by omega) (by omega) (fun ra1 => ?_)
  refine a_aloadn dL_law_695 rfl ?_
  refine a_iload dL_law_696 rfl ?_
  refine a_iconst dL_law_698 ?_
  refine a_iadd dL_law_699 ?_
  refine b_iald dL_law_700 (L0 L) (by omega) (by omega) (by omega) (fun ra2 => ?_)
  refine a_aloadn dL_law_701 rfl ?_
  refine a_iload dL_law_702 rfl ?_
  refine a_iconst dL_law_704 ?_
  refine a_iadd dL_law_705 ?_
  refine b_iald dL_law_706 (L0 L) (by omega) (by omega) (by omega) (fun ra3 => ?_)
  refine a_anyV (as := [_, _, _]) (q := 2) dL_law_707 mvL_79 ⟨Nat.le_trans (by decide) hR.1, Nat.le_trans (by decide) hR.2⟩ (L2 L) rfl rfl rfl (Nat.le_of_ble_eq_true rfl) ⟨rfl, rfl⟩ kn (m_X10_ahead (h.cv hP h22 h50) ra1 ra2 ra3) (fun r1 M1 hM1 => ?_)
  have h1 := h.up hM1.1.up
  have e0 : M1 0 = M 0 := hM1.1.1 0 (by omega)
  refine a_aloadn dL_law_710 rfl ?_
  refine a_aloadn dL_law_711 rfl ?_
  refine a_iload dL_law_712 rfl ?_
  refine a_iconst dL_law_714 ?_
  refine a_iadd dL_law_715 ?_
  refine b_iald dL_law_716 (L0 L) (by omega) (by omega) (by omega) (fun _ => ?_)
  rw [e0]
  refine a_aloadn dL_law_717 rfl ?_
  refine a_iload dL_law_718 rfl ?_
  refine a_iconst dL_law_720 ?_
  refine a_iadd dL_law_721 ?_
  refine b_iald dL_law_722 (L0 L) (by omega) (by omega) (by omega) (fun _ => ?_)
  rw [e0]
  refine a_aloadn dL_law_723 rfl ?_
  refine a_iload dL_law_724 rfl ?_
  refine a_iconst dL_law_726 ?_
  refine a_iadd dL_law_727 ?_
  refine b_iald dL_law_728 (L0 L) (by omega) (by omega) (by omega) (fun _ => ?_)
  rw [e0]
  refine a_anyV (as := [_, _, _]) (q := 209) dL_law_729 mvL_83 ⟨Nat.le_trans (by decide) hR.1, Nat.le_trans (by decide) hR.2⟩ (L209 L) rfl rfl rfl (Nat.le_of_ble_eq_true rfl) ⟨rfl, rfl⟩ kn (m_X11_ahead (h1.rv hP) ra1 ra2 ra3) (fun r2 M2 hM2 => ?_)
  obtain ⟨e2, h2⟩ := g_ahead h hM1 hM2
  rw [e2]
  refine a_same (tgt := 1650) dL_law_732 (by decide) ?_
  exact kk M2 h2

set_option maxRecDepth 100000 in
set_option maxHeartbeats 4000000 in
theorem csL_first {G : zG} {l : Launch} {R : Room} {Z : zZ} {L : Nat} {P : zP} {M : zM} {k n t d : Nat} {i : Int} {x5 x6 : Option av} (hL : L ≤ 3072) (hR : LR R) (kn : k ≤ R.cells ∧ n ≤ R.slots) (hP : PFok P) (h22 : P 2 2 = some t) (h50 : P 50 0 = some t) (h : REL t d M M) (i0 : 0 ≤ i) (i1 : i + 6 ≤ L) (kk : ∀ M2, REL t d M2 M2 → AW G l (mdL R) Z 1650 (lsL i x5 x6) [] (LAY L) P M2 k n) : AW G l (mdL R) Z 737 (lsL i x5 x6) [] (LAY L) P M k n := by
  refine a_aloadn dL_law_737 rfl ?_
  refine a_aloadn dL_law_738 rfl ?_
  refine a_iload dL_law_739 rfl ?_
  refine a_iconst dL_law_741 ?_
  refine a_iadd dL_law_742 ?_
  refine b_iald dL_law_743 (L0 L) (by omega) (by omega) (by omega) (fun ra1 => ?_)
  refine a_anyV (as := [_]) (q := 2) dL_law_744 mvL_84 ⟨Nat.le_trans (by decide) hR.1, Nat.le_trans (by decide) hR.2⟩ (L2 L) rfl rfl rfl (Nat.le_of_ble_eq_true rfl) ⟨rfl, rfl⟩ kn (m_X10_first (h.cv hP h22 h50) ra1) (fun r1 M1 hM1 => ?_)
  have h1 := h.up hM1.1.up
  have e0 : M1 0 = M 0 := hM1.1.1 0 (by omega)
  refine a_aloadn dL_law_747 rfl ?_
  refine a_aloadn dL_law_748 rfl ?_
  refine a_iload dL_law_749 rfl ?_
  refine a_iconst dL_law_751 ?_
  refine a_iadd dL_law_752 ?_
  refine b_iald dL_law_753 (L0 L) (by omega) (by omega) (by omega) (fun _ => ?_)
  rw [e0]
  refine a_anyV (as := [_]) (q := 209) dL_law_754 mvL_87 ⟨Nat.le_trans (by decide) hR.1, Nat.le_trans (by decide) hR.2⟩ (L209 L) rfl rfl rfl (Nat.le_of_ble_eq_true rfl) ⟨rfl, rfl⟩ kn (m_X11_first (h1.rv hP) ra1) (fun r2 M2 hM2 => ?_)
  obtain ⟨e2, h2⟩ := g_first h hM1 hM2
  rw [e2]
  refine a_same (tgt := 1650) dL_law_757 (by decide) ?_
  exact kk M2 h2

set_option maxRecDepth 100000 in
set_option maxHeartbeats 4000000 in
theorem csL_secret {G : zG} {l : Launch} {R : Room} {Z : zZ} {L : Nat} {P : zP} {M : zM} {k n t d : Nat} {i : Int} {x5 x6 : Option av} (hL : L ≤ 3072) (hR : LR R) (kn : k ≤ R.cells ∧ n ≤ R.slots) (hP : PFok P) (h22 : P 2 2 = some t) (h50 : P 50 0 = some t) (h : REL t d M M) (i0 : 0 ≤ i) (i1 : i + 6 ≤ L) (kk : ∀ M2, REL t d M2 M2 → AW G l (mdL R) Z 1650 (lsL i x5 x6) [] (LAY L) P M2 k n) : AW G l (mdL R) Z 762 (lsL i x5 x6) [] (LAY L) P M k n := by
  refine a_aloadn dL_law_762 rfl ?_
  refine a_aloadn dL_law_763 rfl ?_
  refine a_iload dL_law_764 rfl ?_
  refine a_iconst dL_law_766 ?_
  refine a_iadd dL_law_767 ?_
  refine b_iald dL_law_768 (L0 L) (by omega) (by omega) (by omega) (fun ra1 => ?_)
  refine a_aloadn dL_law_769 rfl ?_
  refine a_iload dL_law_770 rfl ?_
  refine a_iconst dL_law_772 ?_
  refine a_iadd dL_law_773 ?_
  refine b_iald dL_law_774 (L0 L) (by omega) (by omega) (by omega) (fun ra2 => ?_)
  refine a_aloadn dL_law_775 rfl ?_
  refine a_iload dL_law_776 rfl ?_
  refine a_iconst dL_law_778 ?_
  refine a_iadd dL_law_779 ?_
  refine b_iald dL_law_780 (L0 L) (by omega) (by omega) (by omega) (fun ra3 => ?_)
  refine a_anyV (as := [_, _, _]) (q := 2) dL_law_781 mvL_88 ⟨Nat.le_trans (by decide) hR.1, Nat.le_trans (by decide) hR.2⟩ (L2 L) rfl rfl rfl (Nat.le_of_ble_eq_true rfl) ⟨rfl, rfl⟩ kn (m_X10_secret (h.cv hP h22 h50) ra1 ra2 ra3) (fun r1 M1 hM1 => ?_)
  have h1 := h.up hM1.1.up
  have e0 : M1 0 = M 0 := hM1.1.1 0 (by omega)
  refine a_aloadn dL_law_784 rfl ?_
  refine a_aloadn dL_law_785 rfl ?_
  refine a_iload dL_law_786 rfl ?_
  refine a_iconst dL_law_788 ?_
  refine a_iadd dL_law_789 ?_
  refine b_iald dL_law_790 (L0 L) (by omega) (by omega) (by omega) (fun _ => ?_)
  rw [e0]
  refine a_aloadn dL_law_791 rfl ?_
  refine a_iload dL_law_792 rfl ?_
  refine a_iconst dL_law_794 ?_
  refine a_iadd dL_law_795 ?_
  refine b_iald dL_law_796 (L0 L) (by omega) (by omega) (by omega) (fun _ => ?_)
  rw [e0]
  refine a_aloadn dL_law_797 rfl ?_
  refine a_iload dL_law_798 rfl ?_
  refine a_iconst dL_law_800 ?_
  refine a_iadd dL_law_801 ?_
  refine b_iald dL_law_802 (L0 L) (by omega) (by omega) (by omega) (fun _ => ?_)
  rw [e0]
  refine a_anyV (as := [_, _, _]) (q := 209) dL_law_803 mvL_91 ⟨Nat.le_trans (by decide) hR.1, Nat.le_trans (by decide) hR.2⟩ (L209 L) rfl rfl rfl (Nat.le_of_ble_eq_true rfl) ⟨rfl, rfl⟩ kn (m_X11_secret (h1.rv hP) ra1 ra2 ra3) (fun r2 M2 hM2 => ?_)
  obtain ⟨e2, h2⟩ := g_secret h hM1 hM2
  rw [e2]
  refine a_same (tgt := 1650) dL_law_806 (by decide) ?_
  exact kk M2 h2

set_option maxRecDepth 100000 in
set_option maxHeartbeats 4000000 in
theorem csL_spread {G : zG} {l : Launch} {R : Room} {Z : zZ} {L : Nat} {P : zP} {M : zM} {k n t d : Nat} {i : Int} {x5 x6 : Option av} (hL : L ≤ 3072) (hR : LR R) (kn : k ≤ R.cells ∧ n ≤ R.slots) (hP : PFok P) (h22 : P 2 2 = some t) (h50 : P 50 0 = some t) (h : REL t d M M) (i0 : 0 ≤ i) (i1 : i + 6 ≤ L) (kk : ∀ M2, REL t d M2 M2 → AW G l (mdL R) Z 1650 (lsL i x5 x6) [] (LAY L) P M2 k n) : AW G l (mdL R) Z 811 (lsL i x5 x6) [] (LAY L) P M k n := by
  refine a_aloadn dL_law_811 rfl ?_
  refine a_aloadn dL_law_812 rfl ?_
  refine a_iload dL_law_813 rfl ?_
  refine a_iconst dL_law_815 ?_
  refine a_iadd dL_law_816 ?_
  refine b_iald dL_law_817 (L0 L) (by omega) (by omega) (by omega) (fun ra1 => ?_)
  refine a_anyV (as := [_]) (q := 2) dL_law_818 mvL_92 ⟨Nat.le_trans (by decide) hR.1, Nat.le_trans (by decide) hR.2⟩ (L2 L) rfl rfl rfl (Nat.le_of_ble_eq_true rfl) ⟨rfl, rfl⟩ kn (m_X10_spread (h.cv hP h22 h50) ra1) (fun r1 M1 hM1 => ?_)
  have h1 := h.up hM1.1.up
  have e0 : M1 0 = M 0 := hM1.1.1 0 (by omega)
  refine a_aloadn dL_law_821 rfl ?_
  refine a_aloadn dL_law_822 rfl ?_
  refine a_iload dL_law_823 rfl ?_
  refine a_iconst dL_law_825 ?_
  refine a_iadd dL_law_826 ?_
  refine b_iald dL_law_827 (L0 L) (by omega) (by omega) (by omega) (fun _ => ?_)
  rw [e0]
  refine a_anyV (as := [_]) (q := 209) dL_law_828 mvL_95 ⟨Nat.le_trans (by decide) hR.1, Nat.le_trans (by decide) hR.2⟩ (L209 L) rfl rfl rfl (Nat.le_of_ble_eq_true rfl) ⟨rfl, rfl⟩ kn (m_X11_spread (h1.rv hP) ra1) (fun r2 M2 hM2 => ?_)
  obtain ⟨e2, h2⟩ := g_spread h hM1 hM2
  rw [e2]
  refine a_same (tgt := 1650) dL_law_831 (by decide) ?_
  exact kk M2 h2

set_option maxRecDepth 100000 in
set_option maxHeartbeats 4000000 in
theorem csL_whose {G : zG} {l : Launch} {R : Room} {Z : zZ} {L : Nat} {P : zP} {M : zM} {k n t d : Nat} {i : Int} {x5 x6 : Option av} (hL : L ≤ 3072) (hR : LR R) (kn : k ≤ R.cells ∧ n ≤ R.slots) (hP : PFok P) (h22 : P 2 2 = some t) (h50 : P 50 0 = some t) (h : REL t d M M) (i0 : 0 ≤ i) (i1 : i + 6 ≤ L) (kk : ∀ M2, REL t d M2 M2 → AW G l (mdL R) Z 1650 (lsL i x5 x6) [] (LAY L) P M2 k n) : AW G l (mdL R) Z 836 (lsL i x5 x6) [] (LAY L) P M k n := by
  refine a_aloadn dL_law_836 rfl ?_
  refine a_anyV (as := []) (q := 2) dL_law_837 mvL_96 ⟨Nat.le_trans (by decide) hR.1, Nat.le_trans (by decide) hR.2⟩ (L2 L) rfl rfl rfl (Nat.le_of_ble_eq_true rfl) ⟨rfl, rfl⟩ kn (m_X10_whose (h.cv hP h22 h50) h.ni ) (fun r1 M1 hM1 => ?_)
  have h1 := h.up hM1.1.up
  have e0 : M1 0 = M 0 := hM1.1.1 0 (by omega)
  refine a_aloadn dL_law_840 rfl ?_
  refine a_anyV (as := []) (q := 209) dL_law_841 mvL_99 ⟨Nat.le_trans (by decide) hR.1, Nat.le_trans (by decide) hR.2⟩ (L209 L) rfl rfl rfl (Nat.le_of_ble_eq_true rfl) ⟨rfl, rfl⟩ kn (m_X11_whose (h1.rv hP) h1.nri ) (fun r2 M2 hM2 => ?_)
  obtain ⟨e2, h2⟩ := g_whose h hM1 hM2
  rw [e2]
  refine a_same (tgt := 1650) dL_law_844 (by decide) ?_
  exact kk M2 h2

set_option maxRecDepth 100000 in
set_option maxHeartbeats 4000000 in
theorem csL_ask {G : zG} {l : Launch} {R : Room} {Z : zZ} {L : Nat} {P : zP} {M : zM} {k n t d : Nat} {i : Int} {x5 x6 : Option av} (hL : L ≤ 3072) (hR : LR R) (kn : k ≤ R.cells ∧ n ≤ R.slots) (hP : PFok P) (h22 : P 2 2 = some t) (h50 : P 50 0 = some t) (h : REL t d M M) (i0 : 0 ≤ i) (i1 : i + 6 ≤ L) (kk : ∀ M2, REL t d M2 M2 → AW G l (mdL R) Z 1650 (lsL i x5 x6) [] (LAY L) P M2 k n) : AW G l (mdL R) Z 849 (lsL i x5 x6) [] (LAY L) P M k n := by
  refine a_aloadn dL_law_849 rfl ?_
  refine a_aloadn dL_law_850 rfl ?_
  refine a_iload dL_law_851 rfl ?_
  refine a_iconst dL_law_853 ?_
  refine a_iadd dL_law_854 ?_
  refine b_iald dL_law_855 (L0 L) (by omega) (by omega) (by omega) (fun ra1 => ?_)
  refine a_anyV (as := [_]) (q := 2) dL_law_856 mvL_100 ⟨Nat.le_trans (by decide) hR.1, Nat.le_trans (by decide) hR.2⟩ (L2 L) rfl rfl rfl (Nat.le_of_ble_eq_true rfl) ⟨rfl, rfl⟩ kn (m_X10_ask (h.cv hP h22 h50) h.ni ra1) (fun r1 M1 hM1 => ?_)
  have h1 := h.up hM1.1.up
  have e0 : M1 0 = M 0 := hM1.1.1 0 (by omega)
  refine a_aloadn dL_law_859 rfl ?_
  refine a_aloadn dL_law_860 rfl ?_
  refine a_iload dL_law_861 rfl ?_
  refine a_iconst dL_law_863 ?_
  refine a_iadd dL_law_864 ?_
  refine b_iald dL_law_865 (L0 L) (by omega) (by omega) (by omega) (fun _ => ?_)
  rw [e0]
  refine a_anyV (as := [_]) (q := 209) dL_law_866 mvL_103 ⟨Nat.le_trans (by decide) hR.1, Nat.le_trans (by decide) hR.2⟩ (L209 L) rfl rfl rfl (Nat.le_of_ble_eq_true rfl) ⟨rfl, rfl⟩ kn (m_X11_ask (h1.rv hP) h1.nri ra1) (fun r2 M2 hM2 => ?_)
  obtain ⟨e2, h2⟩ := g_ask h hM1 hM2
  rw [e2]
  refine a_same (tgt := 1650) dL_law_869 (by decide) ?_
  exact kk M2 h2

set_option maxRecDepth 100000 in
set_option maxHeartbeats 4000000 in
theorem csL_passed {G : zG} {l : Launch} {R : Room} {Z : zZ} {L : Nat} {P : zP} {M : zM} {k n t d : Nat} {i : Int} {x5 x6 : Option av} (hL : L ≤ 3072) (hR : LR R) (kn : k ≤ R.cells ∧ n ≤ R.slots) (hP : PFok P) (h22 : P 2 2 = some t) (h50 : P 50 0 = some t) (h : REL t d M M) (i0 : 0 ≤ i) (i1 : i + 6 ≤ L) (kk : ∀ M2, REL t d M2 M2 → AW G l (mdL R) Z 1650 (lsL i x5 x6) [] (LAY L) P M2 k n) : AW G l (mdL R) Z 874 (lsL i x5 x6) [] (LAY L) P M k n := by
  refine a_aloadn dL_law_874 rfl ?_
  refine a_aloadn dL_law_875 rfl ?_
  refine a_iload dL_law_876 rfl ?_
  refine a_iconst dL_law_878 ?_
  refine a_iadd dL_law_879 ?_
  refine b_iald dL_law_880 (L0 L) (by omega) (by omega) (by omega) (fun ra1 => ?_)
  refine a_aloadn dL_law_881 rfl ?_
  refine a_iload dL_law_882 rfl ?_
  refine a_iconst dL_law_884 ?_
  refine a_iadd dL_law_885 ?_
  refine b_iald dL_law_886 (L0 L) (by omega) (by omega) (by omega) (fun ra2 => ?_)
  refine a_anyV (as := [_, _]) (q := 2) dL_law_887 mvL_104 ⟨Nat.le_trans (by decide) hR.1, Nat.le_trans (by decide) hR.2⟩ (L2 L) rfl rfl rfl (Nat.le_of_ble_eq_true rfl) ⟨rfl, rfl⟩ kn (m_X10_passed (h.cv hP h22 h50) ra1 ra2) (fun r1 M1 hM1 => ?_)
  have h1 := h.up hM1.1.up
  have e0 : M1 0 = M 0 := hM1.1.1 0 (by omega)
  refine a_aloadn dL_law_890 rfl ?_
  refine a_aloadn dL_law_891 rfl ?_
  refine a_iload dL_law_892 rfl ?_
  refine a_iconst dL_law_894 ?_
  refine a_iadd dL_law_895 ?_
  refine b_iald dL_law_896 (L0 L) (by omega) (by omega) (by omega) (fun _ => ?_)
  rw [e0]
  refine a_aloadn dL_law_897 rfl ?_
  refine a_iload dL_law_898 rfl ?_
  refine a_iconst dL_law_900 ?_
  refine a_iadd dL_law_901 ?_
  refine b_iald dL_law_902 (L0 L) (by omega) (by omega) (by omega) (fun _ => ?_)
  rw [e0]
  refine a_anyV (as := [_, _]) (q := 209) dL_law_903 mvL_107 ⟨Nat.le_trans (by decide) hR.1, Nat.le_trans (by decide) hR.2⟩ (L209 L) rfl rfl rfl (Nat.le_of_ble_eq_true rfl) ⟨rfl, rfl⟩ kn (m_X11_passed (h1.rv hP) ra1 ra2) (fun r2 M2 hM2 => ?_)
  obtain ⟨e2, h2⟩ := g_passed h hM1 hM2
  rw [e2]
  refine a_same (tgt := 1650) dL_law_906 (by decide) ?_
  exact kk M2 h2

set_option maxRecDepth 100000 in
set_option maxHeartbeats 4000000 in
theorem csL_before {G : zG} {l : Launch} {R : Room} {Z : zZ} {L : Nat} {P : zP} {M : zM} {k n t d : Nat} {i : Int} {x5 x6 : Option av} (hL : L ≤ 3072) (hR : LR R) (kn : k ≤ R.cells ∧ n ≤ R.slots) (hP : PFok P) (h22 : P 2 2 = some t) (h50 : P 50 0 = some t) (h : REL t d M M) (i0 : 0 ≤ i) (i1 : i + 6 ≤ L) (kk : ∀ M2, REL t d M2 M2 → AW G l (mdL R) Z 1650 (lsL i x5 x6) [] (LAY L) P M2 k n) : AW G l (mdL R) Z 911 (lsL i x5 x6) [] (LAY L) P M k n := by
  refine a_aloadn dL_law_911 rfl ?_
  refine a_aloadn dL_law_912 rfl ?_
  refine a_iload dL_law_913 rfl ?_
  refine a_iconst dL_law_915 ?_
  refine a_iadd dL_law_916 ?_
  refine b_iald dL_law_917 (L0 L) (by omega) (by omega) (by omega) (fun ra1 => ?_)
  refine a_aloadn dL_law_918 rfl ?_
  refine a_iload dL_law_919 rfl ?_
  refine a_iconst dL_law_921 ?_
  refine a_iadd dL_law_922 ?_
  refine b_iald dL_law_923 (L0 L) (by omega) (by omega) (by omega) (fun ra2 => ?_)
  refine a_aloadn dL_law_924 rfl ?_
  refine a_iload dL_law_925 rfl ?_
  refine a_iconst dL_law_927 ?_
  refine a_iadd dL_law_928 ?_
  refine b_iald dL_law_929 (L0 L) (by omega) (by omega) (by omega) (fun ra3 => ?_)
  refine a_anyV (as := [_, _, _]) (q := 2) dL_law_930 mvL_108 ⟨Nat.le_trans (by decide) hR.1, Nat.le_trans (by decide) hR.2⟩ (L2 L) rfl rfl rfl (Nat.le_of_ble_eq_true rfl) ⟨rfl, rfl⟩ kn (m_X10_before (h.cv hP h22 h50) ra1 ra2 ra3) (fun r1 M1 hM1 => ?_)
  have h1 := h.up hM1.1.up
  have e0 : M1 0 = M 0 := hM1.1.1 0 (by omega)
  refine a_aloadn dL_law_933 rfl ?_
  refine a_aloadn dL_law_934 rfl ?_
  refine a_iload dL_law_935 rfl ?_
  refine a_iconst dL_law_937 ?_
  refine a_iadd dL_law_938 ?_
  refine b_iald dL_law_939 (L0 L) (by omega) (by omega) (by omega) (fun _ => ?_)
  rw [e0]
  refine a_aloadn dL_law_940 rfl ?_
  refine a_iload dL_law_941 rfl ?_
  refine a_iconst dL_law_943 ?_
  refine a_iadd dL_law_944 ?_
  refine b_iald dL_law_945 (L0 L) (by omega) (by omega) (by omega) (fun _ => ?_)
  rw [e0]
  refine a_aloadn dL_law_946 rfl ?_
  refine a_iload dL_law_947 rfl ?_
  refine a_iconst dL_law_949 ?_
  refine a_iadd dL_law_950 ?_
  refine b_iald dL_law_951 (L0 L) (by omega) (by omega) (by omega) (fun _ => ?_)
  rw [e0]
  refine a_anyV (as := [_, _, _]) (q := 209) dL_law_952 mvL_111 ⟨Nat.le_trans (by decide) hR.1, Nat.le_trans (by decide) hR.2⟩ (L209 L) rfl rfl rfl (Nat.le_of_ble_eq_true rfl) ⟨rfl, rfl⟩ kn (m_X11_before (h1.rv hP) ra1 ra2 ra3) (fun r2 M2 hM2 => ?_)
  obtain ⟨e2, h2⟩ := g_before h hM1 hM2
  rw [e2]
  refine a_same (tgt := 1650) dL_law_955 (by decide) ?_
  exact kk M2 h2

set_option maxRecDepth 100000 in
set_option maxHeartbeats 4000000 in
theorem csL_warn {G : zG} {l : Launch} {R : Room} {Z : zZ} {L : Nat} {P : zP} {M : zM} {k n t d : Nat} {i : Int} {x5 x6 : Option av} (hL : L ≤ 3072) (hR : LR R) (kn : k ≤ R.cells ∧ n ≤ R.slots) (hP : PFok P) (h22 : P 2 2 = some t) (h50 : P 50 0 = some t) (h : REL t d M M) (i0 : 0 ≤ i) (i1 : i + 6 ≤ L) (kk : ∀ M2, REL t d M2 M2 → AW G l (mdL R) Z 1650 (lsL i x5 x6) [] (LAY L) P M2 k n) : AW G l (mdL R) Z 960 (lsL i x5 x6) [] (LAY L) P M k n := by
  refine a_aloadn dL_law_960 rfl ?_
  refine a_anyV (as := []) (q := 2) dL_law_961 mvL_112 ⟨Nat.le_trans (by decide) hR.1, Nat.le_trans (by decide) hR.2⟩ (L2 L) rfl rfl rfl (Nat.le_of_ble_eq_true rfl) ⟨rfl, rfl⟩ kn (m_X10_warn (h.cv hP h22 h50) ) (fun r1 M1 hM1 => ?_)
  have h1 := h.up hM1.1.up
  have e0 : M1 0 = M 0 := hM1.1.1 0 (by omega)
  refine a_aloadn dL_law_964 rfl ?_
  refine a_anyV (as := []) (q := 209) dL_law_965 mvL_115 ⟨Nat.le_trans (by decide) hR.1, Nat.le_trans (by decide) hR.2⟩ (L209 L) rfl rfl rfl (Nat.le_of_ble_eq_true rfl) ⟨rfl, rfl⟩ kn (m_X11_warn (h1.rv hP) ) (fun r2 M2 hM2 => ?_)
  obtain ⟨e2, h2⟩ := g_warn h hM1 hM2
  rw [e2]
  refine a_same (tgt := 1650) dL_law_968 (by decide) ?_
  exact kk M2 h2

set_option maxRecDepth 100000 in
set_option maxHeartbeats 4000000 in
theorem csL_busiest {G : zG} {l : Launch} {R : Room} {Z : zZ} {L : Nat} {P : zP} {M : zM} {k n t d : Nat} {i : Int} {x5 x6 : Option av} (hL : L ≤ 3072) (hR : LR R) (kn : k ≤ R.cells ∧ n ≤ R.slots) (hP : PFok P) (h22 : P 2 2 = some t) (h50 : P 50 0 = some t) (h : REL t d M M) (i0 : 0 ≤ i) (i1 : i + 6 ≤ L) (kk : ∀ M2, REL t d M2 M2 → AW G l (mdL R) Z 1650 (lsL i x5 x6) [] (LAY L) P M2 k n) : AW G l (mdL R) Z 973 (lsL i x5 x6) [] (LAY L) P M k n := by
  refine a_aloadn dL_law_973 rfl ?_
  refine a_aloadn dL_law_974 rfl ?_
  refine a_iload dL_law_975 rfl ?_
  refine a_iconst dL_law_977 ?_
  refine a_iadd dL_law_978 ?_
  refine b_iald dL_law_979 (L0 L) (by omega) (by omega) (by omega) (fun ra1 => ?_)
  refine a_aloadn dL_law_980 rfl ?_
  refine a_iload dL_law_981 rfl ?_
  refine a_iconst dL_law_983 ?_
  refine a_iadd dL_law_984 ?_
  refine b_iald dL_law_985 (L0 L) (by omega) (by omega) (by omega) (fun ra2 => ?_)
  refine a_anyV (as := [_, _]) (q := 2) dL_law_986 mvL_116 ⟨Nat.le_trans (by decide) hR.1, Nat.le_trans (by decide) hR.2⟩ (L2 L) rfl rfl rfl (Nat.le_of_ble_eq_true rfl) ⟨rfl, rfl⟩ kn (m_X10_busiest (h.cv hP h22 h50) ra1 ra2) (fun r1 M1 hM1 => ?_)
  have h1 := h.up hM1.1.up
  have e0 : M1 0 = M 0 := hM1.1.1 0 (by omega)
  refine a_aloadn dL_law_989 rfl ?_
  refine a_aloadn dL_law_990 rfl ?_
  refine a_iload dL_law_991 rfl ?_
  refine a_iconst dL_law_993 ?_
  refine a_iadd dL_law_994 ?_
  refine b_iald dL_law_995 (L0 L) (by omega) (by omega) (by omega) (fun _ => ?_)
  rw [e0]
  refine a_aloadn dL_law_996 rfl ?_
  refine a_iload dL_law_997 rfl ?_
  refine a_iconst dL_law_999 ?_
  refine a_iadd dL_law_1000 ?_
  refine b_iald dL_law_1001 (L0 L) (by omega) (by omega) (by omega) (fun _ => ?_)
  rw [e0]
  refine a_anyV (as := [_, _]) (q := 209) dL_law_1002 mvL_119 ⟨Nat.le_trans (by decide) hR.1, Nat.le_trans (by decide) hR.2⟩ (L209 L) rfl rfl rfl (Nat.le_of_ble_eq_true rfl) ⟨rfl, rfl⟩ kn (m_X11_busiest (h1.rv hP) ra1 ra2) (fun r2 M2 hM2 => ?_)
  obtain ⟨e2, h2⟩ := g_busiest h hM1 hM2
  rw [e2]
  refine a_same (tgt := 1650) dL_law_1005 (by decide) ?_
  exact kk M2 h2

set_option maxRecDepth 100000 in
set_option maxHeartbeats 4000000 in
theorem csL_rests {G : zG} {l : Launch} {R : Room} {Z : zZ} {L : Nat} {P : zP} {M : zM} {k n t d : Nat} {i : Int} {x5 x6 : Option av} (hL : L ≤ 3072) (hR : LR R) (kn : k ≤ R.cells ∧ n ≤ R.slots) (hP : PFok P) (h22 : P 2 2 = some t) (h50 : P 50 0 = some t) (h : REL t d M M) (i0 : 0 ≤ i) (i1 : i + 6 ≤ L) (kk : ∀ M2, REL t d M2 M2 → AW G l (mdL R) Z 1650 (lsL i x5 x6) [] (LAY L) P M2 k n) : AW G l (mdL R) Z 1010 (lsL i x5 x6) [] (LAY L) P M k n := by
  refine a_aloadn dL_law_1010 rfl ?_
  refine a_aloadn dL_law_1011 rfl ?_
  refine a_iload dL_law_1012 rfl ?_
  refine a_iconst dL_law_1014 ?_
  refine a_iadd dL_law_1015 ?_
  refine b_iald dL_law_1016 (L0 L) (by omega) (by omega) (by omega) (fun ra1 => ?_)
  refine a_anyV (as := [_]) (q := 2) dL_law_1017 mvL_120 ⟨Nat.le_trans (by decide) hR.1, Nat.le_trans (by decide) hR.2⟩ (L2 L) rfl rfl rfl (Nat.le_of_ble_eq_true rfl) ⟨rfl, rfl⟩ kn (m_X10_rests (h.cv hP h22 h50) ra1) (fun r1 M1 hM1 => ?_)
  have h1 := h.up hM1.1.up
  have e0 : M1 0 = M 0 := hM1.1.1 0 (by omega)
  refine a_aloadn dL_law_1020 rfl ?_
  refine a_aloadn dL_law_1021 rfl ?_
  refine a_iload dL_law_1022 rfl ?_
  refine a_iconst dL_law_1024 ?_
  refine a_iadd dL_law_1025 ?_
  refine b_iald dL_law_1026 (L0 L) (by omega) (by omega) (by omega) (fun _ => ?_)
  rw [e0]
  refine a_anyV (as := [_]) (q := 209) dL_law_1027 mvL_123 ⟨Nat.le_trans (by decide) hR.1, Nat.le_trans (by decide) hR.2⟩ (L209 L) rfl rfl rfl (Nat.le_of_ble_eq_true rfl) ⟨rfl, rfl⟩ kn (m_X11_rests (h1.rv hP) ra1) (fun r2 M2 hM2 => ?_)
  obtain ⟨e2, h2⟩ := g_rests h hM1 hM2
  rw [e2]
  refine a_same (tgt := 1650) dL_law_1030 (by decide) ?_
  exact kk M2 h2

set_option maxRecDepth 100000 in
set_option maxHeartbeats 4000000 in
theorem csL_rest {G : zG} {l : Launch} {R : Room} {Z : zZ} {L : Nat} {P : zP} {M : zM} {k n t d : Nat} {i : Int} {x5 x6 : Option av} (hL : L ≤ 3072) (hR : LR R) (kn : k ≤ R.cells ∧ n ≤ R.slots) (hP : PFok P) (h22 : P 2 2 = some t) (h50 : P 50 0 = some t) (h : REL t d M M) (i0 : 0 ≤ i) (i1 : i + 6 ≤ L) (kk : ∀ M2, REL t d M2 M2 → AW G l (mdL R) Z 1650 (lsL i x5 x6) [] (LAY L) P M2 k n) : AW G l (mdL R) Z 1035 (lsL i x5 x6) [] (LAY L) P M k n := by
  refine a_aloadn dL_law_1035 rfl ?_
  refine a_aloadn dL_law_1036 rfl ?_
  refine a_iload dL_law_1037 rfl ?_
  refine a_iconst dL_law_1039 ?_
  refine a_iadd dL_law_1040 ?_
  refine b_iald dL_law_1041 (L0 L) (by omega) (by omega) (by omega) (fun ra1 => ?_)
  refine a_aloadn dL_law_1042 rfl ?_
  refine a_iload dL_law_1043 rfl ?_
  refine a_iconst dL_law_1045 ?_
  refine a_iadd dL_law_1046 ?_
  refine b_iald dL_law_1047 (L0 L) (by omega) (by omega) (by omega) (fun ra2 => ?_)
  refine a_anyV (as := [_, _]) (q := 2) dL_law_1048 mvL_124 ⟨Nat.le_trans (by decide) hR.1, Nat.le_trans (by decide) hR.2⟩ (L2 L) rfl rfl rfl (Nat.le_of_ble_eq_true rfl) ⟨rfl, rfl⟩ kn (m_X10_rest (h.cv hP h22 h50) ra1 ra2) (fun r1 M1 hM1 => ?_)
  have h1 := h.up hM1.1.up
  have e0 : M1 0 = M 0 := hM1.1.1 0 (by omega)
  refine a_aloadn dL_law_1051 rfl ?_
  refine a_aloadn dL_law_1052 rfl ?_
  refine a_iload dL_law_1053 rfl ?_
  refine a_iconst dL_law_1055 ?_
  refine a_iadd dL_law_1056 ?_
  refine b_iald dL_law_1057 (L0 L) (by omega) (by omega) (by omega) (fun _ => ?_)
  rw [e0]
  refine a_aloadn dL_law_1058 rfl ?_
  refine a_iload dL_law_1059 rfl ?_
  refine a_iconst dL_law_1061 ?_
  refine a_iadd dL_law_1062 ?_
  refine b_iald dL_law_1063 (L0 L) (by omega) (by omega) (by omega) (fun _ => ?_)
  rw [e0]
  refine a_anyV (as := [_, _]) (q := 209) dL_law_1064 mvL_127 ⟨Nat.le_trans (by decide) hR.1, Nat.le_trans (by decide) hR.2⟩ (L209 L) rfl rfl rfl (Nat.le_of_ble_eq_true rfl) ⟨rfl, rfl⟩ kn (m_X11_rest (h1.rv hP) ra1 ra2) (fun r2 M2 hM2 => ?_)
  obtain ⟨e2, h2⟩ := g_rest h hM1 hM2
  rw [e2]
  refine a_same (tgt := 1650) dL_law_1067 (by decide) ?_
  exact kk M2 h2

set_option maxRecDepth 100000 in
set_option maxHeartbeats 4000000 in
theorem csL_alone {G : zG} {l : Launch} {R : Room} {Z : zZ} {L : Nat} {P : zP} {M : zM} {k n t d : Nat} {i : Int} {x5 x6 : Option av} (hL : L ≤ 3072) (hR : LR R) (kn : k ≤ R.cells ∧ n ≤ R.slots) (hP : PFok P) (h22 : P 2 2 = some t) (h50 : P 50 0 = some t) (h : REL t d M M) (i0 : 0 ≤ i) (i1 : i + 6 ≤ L) (kk : ∀ M2, REL t d M2 M2 → AW G l (mdL R) Z 1650 (lsL i x5 x6) [] (LAY L) P M2 k n) : AW G l (mdL R) Z 1072 (lsL i x5 x6) [] (LAY L) P M k n := by
  refine a_aloadn dL_law_1072 rfl ?_
  refine a_anyV (as := []) (q := 2) dL_law_1073 mvL_128 ⟨Nat.le_trans (by decide) hR.1, Nat.le_trans (by decide) hR.2⟩ (L2 L) rfl rfl rfl (Nat.le_of_ble_eq_true rfl) ⟨rfl, rfl⟩ kn (m_X10_alone (h.cv hP h22 h50) ) (fun r1 M1 hM1 => ?_)
  have h1 := h.up hM1.1.up
  have e0 : M1 0 = M 0 := hM1.1.1 0 (by omega)
  refine a_aloadn dL_law_1076 rfl ?_
  refine a_anyV (as := []) (q := 209) dL_law_1077 mvL_131 ⟨Nat.le_trans (by decide) hR.1, Nat.le_trans (by decide) hR.2⟩ (L209 L) rfl rfl rfl (Nat.le_of_ble_eq_true rfl) ⟨rfl, rfl⟩ kn (m_X11_alone (h1.rv hP) ) (fun r2 M2 hM2 => ?_)
  obtain ⟨e2, h2⟩ := g_alone h hM1 hM2
  rw [e2]
  refine a_same (tgt := 1650) dL_law_1080 (by decide) ?_
  exact kk M2 h2

set_option maxRecDepth 100000 in
set_option maxHeartbeats 4000000 in
theorem csL_code {G : zG} {l : Launch} {R : Room} {Z : zZ} {L : Nat} {P : zP} {M : zM} {k n t d : Nat} {i : Int} {x5 x6 : Option av} (hL : L ≤ 3072) (hR : LR R) (kn : k ≤ R.cells ∧ n ≤ R.slots) (hP : PFok P) (h22 : P 2 2 = some t) (h50 : P 50 0 = some t) (h : REL t d M M) (i0 : 0 ≤ i) (i1 : i + 6 ≤ L) (kk : ∀ M2, REL t d M2 M2 → AW G l (mdL R) Z 1650 (lsL i x5 x6) [] (LAY L) P M2 k n) : AW G l (mdL R) Z 1085 (lsL i x5 x6) [] (LAY L) P M k n := by
  refine a_aloadn dL_law_1085 rfl ?_
  refine a_aloadn dL_law_1086 rfl ?_
  refine a_iload dL_law_1087 rfl ?_
  refine a_iconst dL_law_1089 ?_
  refine a_iadd dL_law_1090 ?_
  refine b_iald dL_law_1091 (L0 L) (by omega) (by omega) (by omega) (fun ra1 => ?_)
  refine a_aloadn dL_law_1092 rfl ?_
  refine a_iload dL_law_1093 rfl ?_
  refine a_iconst dL_law_1095 ?_
  refine a_iadd dL_law_1096 ?_
  refine b_iald dL_law_1097 (L0 L) (by omega) (by omega) (by omega) (fun ra2 => ?_)
  refine a_anyV (as := [_, _]) (q := 2) dL_law_1098 mvL_132 ⟨Nat.le_trans (by decide) hR.1, Nat.le_trans (by decide) hR.2⟩ (L2 L) rfl rfl rfl (Nat.le_of_ble_eq_true rfl) ⟨rfl, rfl⟩ kn (m_X10_code (h.cv hP h22 h50) ra1 ra2) (fun r1 M1 hM1 => ?_)
  have h1 := h.up hM1.1.up
  have e0 : M1 0 = M 0 := hM1.1.1 0 (by omega)
  refine a_aloadn dL_law_1101 rfl ?_
  refine a_aloadn dL_law_1102 rfl ?_
  refine a_iload dL_law_1103 rfl ?_
  refine a_iconst dL_law_1105 ?_
  refine a_iadd dL_law_1106 ?_
  refine b_iald dL_law_1107 (L0 L) (by omega) (by omega) (by omega) (fun _ => ?_)
  rw [e0]
  refine a_aloadn dL_law_1108 rfl ?_
  refine a_iload dL_law_1109 rfl ?_
  refine a_iconst dL_law_1111 ?_
  refine a_iadd dL_law_1112 ?_
  refine b_iald dL_law_1113 (L0 L) (by omega) (by omega) (by omega) (fun _ => ?_)
  rw [e0]
  refine a_anyV (as := [_, _]) (q := 209) dL_law_1114 mvL_135 ⟨Nat.le_trans (by decide) hR.1, Nat.le_trans (by decide) hR.2⟩ (L209 L) rfl rfl rfl (Nat.le_of_ble_eq_true rfl) ⟨rfl, rfl⟩ kn (m_X11_code (h1.rv hP) ra1 ra2) (fun r2 M2 hM2 => ?_)
  obtain ⟨e2, h2⟩ := g_code h hM1 hM2
  rw [e2]
  refine a_same (tgt := 1650) dL_law_1117 (by decide) ?_
  exact kk M2 h2

set_option maxRecDepth 100000 in
set_option maxHeartbeats 4000000 in
theorem csL_hide {G : zG} {l : Launch} {R : Room} {Z : zZ} {L : Nat} {P : zP} {M : zM} {k n t d : Nat} {i : Int} {x5 x6 : Option av} (hL : L ≤ 3072) (hR : LR R) (kn : k ≤ R.cells ∧ n ≤ R.slots) (hP : PFok P) (h22 : P 2 2 = some t) (h50 : P 50 0 = some t) (h : REL t d M M) (i0 : 0 ≤ i) (i1 : i + 6 ≤ L) (kk : ∀ M2, REL t d M2 M2 → AW G l (mdL R) Z 1650 (lsL i x5 x6) [] (LAY L) P M2 k n) : AW G l (mdL R) Z 1122 (lsL i x5 x6) [] (LAY L) P M k n := by
  refine a_aloadn dL_law_1122 rfl ?_
  refine a_aloadn dL_law_1123 rfl ?_
  refine a_iload dL_law_1124 rfl ?_
  refine a_iconst dL_law_1126 ?_
  refine a_iadd dL_law_1127 ?_
  refine b_iald dL_law_1128 (L0 L) (by omega) (by omega) (by omega) (fun ra1 => ?_)
  refine a_anyV (as := [_]) (q := 2) dL_law_1129 mvL_136 ⟨Nat.le_trans (by decide) hR.1, Nat.le_trans (by decide) hR.2⟩ (L2 L) rfl rfl rfl (Nat.le_of_ble_eq_true rfl) ⟨rfl, rfl⟩ kn (m_X10_hide (h.cv hP h22 h50) ra1) (fun r1 M1 hM1 => ?_)
  have h1 := h.up hM1.1.up
  have e0 : M1 0 = M 0 := hM1.1.1 0 (by omega)
  refine a_aloadn dL_law_1132 rfl ?_
  refine a_aloadn dL_law_1133 rfl ?_
  refine a_iload dL_law_1134 rfl ?_
  refine a_iconst dL_law_1136 ?_
  refine a_iadd dL_law_1137 ?_
  refine b_iald dL_law_1138 (L0 L) (by omega) (by omega) (by omega) (fun _ => ?_)
  rw [e0]
  refine a_anyV (as := [_]) (q := 209) dL_law_1139 mvL_139 ⟨Nat.le_trans (by decide) hR.1, Nat.le_trans (by decide) hR.2⟩ (L209 L) rfl rfl rfl (Nat.le_of_ble_eq_true rfl) ⟨rfl, rfl⟩ kn (m_X11_hide (h1.rv hP) ra1) (fun r2 M2 hM2 => ?_)
  obtain ⟨e2, h2⟩ := g_hide h hM1 hM2
  rw [e2]
  refine a_same (tgt := 1650) dL_law_1142 (by decide) ?_
  exact kk M2 h2

set_option maxRecDepth 100000 in
set_option maxHeartbeats 4000000 in
theorem csL_gossip {G : zG} {l : Launch} {R : Room} {Z : zZ} {L : Nat} {P : zP} {M : zM} {k n t d : Nat} {i : Int} {x5 x6 : Option av} (hL : L ≤ 3072) (hR : LR R) (kn : k ≤ R.cells ∧ n ≤ R.slots) (hP : PFok P) (h22 : P 2 2 = some t) (h50 : P 50 0 = some t) (h : REL t d M M) (i0 : 0 ≤ i) (i1 : i + 6 ≤ L) (kk : ∀ M2, REL t d M2 M2 → AW G l (mdL R) Z 1650 (lsL i x5 x6) [] (LAY L) P M2 k n) : AW G l (mdL R) Z 1147 (lsL i x5 x6) [] (LAY L) P M k n := by
  refine a_aloadn dL_law_1147 rfl ?_
  refine a_aloadn dL_law_1148 rfl ?_
  refine a_iload dL_law_1149 rfl ?_
  refine a_iconst dL_law_1151 ?_
  refine a_iadd dL_law_1152 ?_
  refine b_iald dL_law_1153 (L0 L) (by omega) (by omega) (by omega) (fun ra1 => ?_)
  refine a_aloadn dL_law_1154 rfl ?_
  refine a_iload dL_law_1155 rfl ?_
  refine a_iconst dL_law_1157 ?_
  refine a_iadd dL_law_1158 ?_
  refine b_iald dL_law_1159 (L0 L) (by omega) (by omega) (by omega) (fun ra2 => ?_)
  refine a_anyV (as := [_, _]) (q := 2) dL_law_1160 mvL_140 ⟨Nat.le_trans (by decide) hR.1, Nat.le_trans (by decide) hR.2⟩ (L2 L) rfl rfl rfl (Nat.le_of_ble_eq_true rfl) ⟨rfl, rfl⟩ kn (m_X10_gossip (h.cv hP h22 h50) ra1 ra2) (fun r1 M1 hM1 => ?_)
  have h1 := h.up hM1.1.up
  have e0 : M1 0 = M 0 := hM1.1.1 0 (by omega)
  refine a_aloadn dL_law_1163 rfl ?_
  refine a_aloadn dL_law_1164 rfl ?_
  refine a_iload dL_law_1165 rfl ?_
  refine a_iconst dL_law_1167 ?_
  refine a_iadd dL_law_1168 ?_
  refine b_iald dL_law_1169 (L0 L) (by omega) (by omega) (by omega) (fun _ => ?_)
  rw [e0]
  refine a_aloadn dL_law_1170 rfl ?_
  refine a_iload dL_law_1171 rfl ?_
  refine a_iconst dL_law_1173 ?_
  refine a_iadd dL_law_1174 ?_
  refine b_iald dL_law_1175 (L0 L) (by omega) (by omega) (by omega) (fun _ => ?_)
  rw [e0]
  refine a_anyV (as := [_, _]) (q := 209) dL_law_1176 mvL_143 ⟨Nat.le_trans (by decide) hR.1, Nat.le_trans (by decide) hR.2⟩ (L209 L) rfl rfl rfl (Nat.le_of_ble_eq_true rfl) ⟨rfl, rfl⟩ kn (m_X11_gossip (h1.rv hP) ra1 ra2) (fun r2 M2 hM2 => ?_)
  obtain ⟨e2, h2⟩ := g_gossip h hM1 hM2
  rw [e2]
  refine a_same (tgt := 1650) dL_law_1179 (by decide) ?_
  exact kk M2 h2

set_option maxRecDepth 100000 in
set_option maxHeartbeats 4000000 in
theorem csL_loudest {G : zG} {l : Launch} {R : Room} {Z : zZ} {L : Nat} {P : zP} {M : zM} {k n t d : Nat} {i : Int} {x5 x6 : Option av} (hL : L ≤ 3072) (hR : LR R) (kn : k ≤ R.cells ∧ n ≤ R.slots) (hP : PFok P) (h22 : P 2 2 = some t) (h50 : P 50 0 = some t) (h : REL t d M M) (i0 : 0 ≤ i) (i1 : i + 6 ≤ L) (kk : ∀ M2, REL t d M2 M2 → AW G l (mdL R) Z 1650 (lsL i x5 x6) [] (LAY L) P M2 k n) : AW G l (mdL R) Z 1184 (lsL i x5 x6) [] (LAY L) P M k n := by
  refine a_aloadn dL_law_1184 rfl ?_
  refine a_oneV (as := []) (q := 2) dL_law_1185 mvL_144 ⟨Nat.le_trans (by decide) hR.1, Nat.le_trans (by decide) hR.2⟩ (L2 L) rfl rfl rfl (Nat.le_of_ble_eq_true rfl) ⟨rfl, rfl⟩ kn (m_X10_loudest (h.cv hP h22 h50)) (fun r1 hM1 => ?_)
  refine a_aloadn dL_law_1188 rfl ?_
  refine a_anyV (as := []) (q := 209) dL_law_1189 mvL_147 ⟨Nat.le_trans (by decide) hR.1, Nat.le_trans (by decide) hR.2⟩ (L209 L) rfl rfl rfl (Nat.le_of_ble_eq_true rfl) ⟨rfl, rfl⟩ kn (m_X11_loudest (h.rv hP) ) (fun r2 M2 hM2 => ?_)
  obtain ⟨e2, h2⟩ := g_loudest h hM1 hM2
  rw [e2]
  refine a_same (tgt := 1650) dL_law_1192 (by decide) ?_
  exact kk M2 h2

set_option maxRecDepth 100000 in
set_option maxHeartbeats 4000000 in
theorem csL_nextHeard {G : zG} {l : Launch} {R : Room} {Z : zZ} {L : Nat} {P : zP} {M : zM} {k n t d : Nat} {i : Int} {x5 x6 : Option av} (hL : L ≤ 3072) (hR : LR R) (kn : k ≤ R.cells ∧ n ≤ R.slots) (hP : PFok P) (h22 : P 2 2 = some t) (h50 : P 50 0 = some t) (h : REL t d M M) (i0 : 0 ≤ i) (i1 : i + 6 ≤ L) (kk : ∀ M2, REL t d M2 M2 → AW G l (mdL R) Z 1650 (lsL i x5 x6) [] (LAY L) P M2 k n) : AW G l (mdL R) Z 1197 (lsL i x5 x6) [] (LAY L) P M k n := by
  refine a_aloadn dL_law_1197 rfl ?_
  refine a_aloadn dL_law_1198 rfl ?_
  refine a_iload dL_law_1199 rfl ?_
  refine a_iconst dL_law_1201 ?_
  refine a_iadd dL_law_1202 ?_
  refine b_iald dL_law_1203 (L0 L) (by omega) (by omega) (by omega) (fun ra1 => ?_)
  refine a_aloadn dL_law_1204 rfl ?_
  refine a_iload dL_law_1205 rfl ?_
  refine a_iconst dL_law_1207 ?_
  refine a_iadd dL_law_1208 ?_
  refine b_iald dL_law_1209 (L0 L) (by omega) (by omega) (by omega) (fun ra2 => ?_)
  refine a_anyV (as := [_, _]) (q := 2) dL_law_1210 mvL_148 ⟨Nat.le_trans (by decide) hR.1, Nat.le_trans (by decide) hR.2⟩ (L2 L) rfl rfl rfl (Nat.le_of_ble_eq_true rfl) ⟨rfl, rfl⟩ kn (m_X10_nextHeard (h.cv hP h22 h50) ra1 ra2) (fun r1 M1 hM1 => ?_)
  have h1 := h.up hM1.1.up
  have e0 : M1 0 = M 0 := hM1.1.1 0 (by omega)
  refine a_aloadn dL_law_1213 rfl ?_
  refine a_aloadn dL_law_1214 rfl ?_
  refine a_iload dL_law_1215 rfl ?_
  refine a_iconst dL_law_1217 ?_
  refine a_iadd dL_law_1218 ?_
  refine b_iald dL_law_1219 (L0 L) (by omega) (by omega) (by omega) (fun _ => ?_)
  rw [e0]
  refine a_aloadn dL_law_1220 rfl ?_
  refine a_iload dL_law_1221 rfl ?_
  refine a_iconst dL_law_1223 ?_
  refine a_iadd dL_law_1224 ?_
  refine b_iald dL_law_1225 (L0 L) (by omega) (by omega) (by omega) (fun _ => ?_)
  rw [e0]
  refine a_anyV (as := [_, _]) (q := 209) dL_law_1226 mvL_151 ⟨Nat.le_trans (by decide) hR.1, Nat.le_trans (by decide) hR.2⟩ (L209 L) rfl rfl rfl (Nat.le_of_ble_eq_true rfl) ⟨rfl, rfl⟩ kn (m_X11_nextHeard (h1.rv hP) ra1 ra2) (fun r2 M2 hM2 => ?_)
  obtain ⟨e2, h2⟩ := g_next h hM1 hM2
  rw [e2]
  refine a_same (tgt := 1650) dL_law_1229 (by decide) ?_
  exact kk M2 h2

set_option maxRecDepth 100000 in
set_option maxHeartbeats 4000000 in
theorem csL_lure {G : zG} {l : Launch} {R : Room} {Z : zZ} {L : Nat} {P : zP} {M : zM} {k n t d : Nat} {i : Int} {x5 x6 : Option av} (hL : L ≤ 3072) (hR : LR R) (kn : k ≤ R.cells ∧ n ≤ R.slots) (hP : PFok P) (h22 : P 2 2 = some t) (h50 : P 50 0 = some t) (h : REL t d M M) (i0 : 0 ≤ i) (i1 : i + 6 ≤ L) (kk : ∀ M2, REL t d M2 M2 → AW G l (mdL R) Z 1650 (lsL i x5 x6) [] (LAY L) P M2 k n) : AW G l (mdL R) Z 1234 (lsL i x5 x6) [] (LAY L) P M k n := by
  refine a_aloadn dL_law_1234 rfl ?_
  refine a_aloadn dL_law_1235 rfl ?_
  refine a_iload dL_law_1236 rfl ?_
  refine a_iconst dL_law_1238 ?_
  refine a_iadd dL_law_1239 ?_
  refine b_iald dL_law_1240 (L0 L) (by omega) (by omega) (by omega) (fun ra1 => ?_)
  refine a_aloadn dL_law_1241 rfl ?_
  refine a_iload dL_law_1242 rfl ?_
  refine a_iconst dL_law_1244 ?_
  refine a_iadd dL_law_1245 ?_
  refine b_iald dL_law_1246 (L0 L) (by omega) (by omega) (by omega) (fun ra2 => ?_)
  refine a_anyV (as := [_, _]) (q := 2) dL_law_1247 mvL_152 ⟨Nat.le_trans (by decide) hR.1, Nat.le_trans (by decide) hR.2⟩ (L2 L) rfl rfl rfl (Nat.le_of_ble_eq_true rfl) ⟨rfl, rfl⟩ kn (m_X10_lure (h.cv hP h22 h50) ra1 ra2) (fun r1 M1 hM1 => ?_)
  have h1 := h.up hM1.1.up
  have e0 : M1 0 = M 0 := hM1.1.1 0 (by omega)
  refine a_aloadn dL_law_1250 rfl ?_
  refine a_aloadn dL_law_1251 rfl ?_
  refine a_iload dL_law_1252 rfl ?_
  refine a_iconst dL_law_1254 ?_
  refine a_iadd dL_law_1255 ?_
  refine b_iald dL_law_1256 (L0 L) (by omega) (by omega) (by omega) (fun _ => ?_)
  rw [e0]
  refine a_aloadn dL_law_1257 rfl ?_
  refine a_iload dL_law_1258 rfl ?_
  refine a_iconst dL_law_1260 ?_
  refine a_iadd dL_law_1261 ?_
  refine b_iald dL_law_1262 (L0 L) (by omega) (by omega) (by omega) (fun _ => ?_)
  rw [e0]
  refine a_anyV (as := [_, _]) (q := 209) dL_law_1263 mvL_155 ⟨Nat.le_trans (by decide) hR.1, Nat.le_trans (by decide) hR.2⟩ (L209 L) rfl rfl rfl (Nat.le_of_ble_eq_true rfl) ⟨rfl, rfl⟩ kn (m_X11_lure (h1.rv hP) ra1 ra2) (fun r2 M2 hM2 => ?_)
  obtain ⟨e2, h2⟩ := g_lure h hM1 hM2
  rw [e2]
  refine a_same (tgt := 1650) dL_law_1266 (by decide) ?_
  exact kk M2 h2

set_option maxRecDepth 100000 in
set_option maxHeartbeats 4000000 in
theorem csL_nears {G : zG} {l : Launch} {R : Room} {Z : zZ} {L : Nat} {P : zP} {M : zM} {k n t d : Nat} {i : Int} {x5 x6 : Option av} (hL : L ≤ 3072) (hR : LR R) (kn : k ≤ R.cells ∧ n ≤ R.slots) (hP : PFok P) (h22 : P 2 2 = some t) (h50 : P 50 0 = some t) (h : REL t d M M) (i0 : 0 ≤ i) (i1 : i + 6 ≤ L) (kk : ∀ M2, REL t d M2 M2 → AW G l (mdL R) Z 1650 (lsL i x5 x6) [] (LAY L) P M2 k n) : AW G l (mdL R) Z 1463 (lsL i x5 x6) [] (LAY L) P M k n := by
  refine a_aloadn dL_law_1463 rfl ?_
  refine a_anyV (as := []) (q := 2) dL_law_1464 mvL_175 ⟨Nat.le_trans (by decide) hR.1, Nat.le_trans (by decide) hR.2⟩ (L2 L) rfl rfl rfl (Nat.le_of_ble_eq_true rfl) ⟨rfl, rfl⟩ kn (m_X10_nears (h.cv hP h22 h50) h.ni ) (fun r1 M1 hM1 => ?_)
  have h1 := h.up hM1.1.up
  have e0 : M1 0 = M 0 := hM1.1.1 0 (by omega)
  refine a_aloadn dL_law_1467 rfl ?_
  refine a_anyV (as := []) (q := 209) dL_law_1468 mvL_178 ⟨Nat.le_trans (by decide) hR.1, Nat.le_trans (by decide) hR.2⟩ (L209 L) rfl rfl rfl (Nat.le_of_ble_eq_true rfl) ⟨rfl, rfl⟩ kn (m_X11_nears (h1.rv hP) h1.nri ) (fun r2 M2 hM2 => ?_)
  obtain ⟨e2, h2⟩ := g_nears h hM1 hM2
  rw [e2]
  refine a_same (tgt := 1650) dL_law_1471 (by decide) ?_
  exact kk M2 h2

set_option maxRecDepth 100000 in
set_option maxHeartbeats 4000000 in
theorem csL_chance {G : zG} {l : Launch} {R : Room} {Z : zZ} {L : Nat} {P : zP} {M : zM} {k n t d : Nat} {i : Int} {x5 x6 : Option av} (hL : L ≤ 3072) (hR : LR R) (kn : k ≤ R.cells ∧ n ≤ R.slots) (hP : PFok P) (h22 : P 2 2 = some t) (h50 : P 50 0 = some t) (h : REL t d M M) (i0 : 0 ≤ i) (i1 : i + 6 ≤ L) (kk : ∀ M2, REL t d M2 M2 → AW G l (mdL R) Z 1650 (lsL i x5 x6) [] (LAY L) P M2 k n) : AW G l (mdL R) Z 1476 (lsL i x5 x6) [] (LAY L) P M k n := by
  refine a_aloadn dL_law_1476 rfl ?_
  refine a_aloadn dL_law_1477 rfl ?_
  refine a_iload dL_law_1478 rfl ?_
  refine a_iconst dL_law_1480 ?_
  refine a_iadd dL_law_1481 ?_
  refine b_iald dL_law_1482 (L0 L) (by omega) (by omega) (by omega) (fun ra1 => ?_)
  refine a_aloadn dL_law_1483 rfl ?_
  refine a_iload dL_law_1484 rfl ?_
  refine a_iconst dL_law_1486 ?_
  refine a_iadd dL_law_1487 ?_
  refine b_iald dL_law_1488 (L0 L) (by omega) (by omega) (by omega) (fun ra2 => ?_)
  refine a_aloadn dL_law_1489 rfl ?_
  refine a_iload dL_law_1490 rfl ?_
  refine a_iconst dL_law_1492 ?_
  refine a_iadd dL_law_1493 ?_
  refine b_iald dL_law_1494 (L0 L) (by omega) (by omega) (by omega) (fun ra3 => ?_)
  refine a_aloadn dL_law_1495 rfl ?_
  refine a_iload dL_law_1496 rfl ?_
  refine a_iconst dL_law_1498 ?_
  refine a_iadd dL_law_1499 ?_
  refine b_iald dL_law_1500 (L0 L) (by omega) (by omega) (by omega) (fun ra4 => ?_)
  refine a_anyV (as := [_, _, _, _]) (q := 2) dL_law_1501 mvL_179 ⟨Nat.le_trans (by decide) hR.1, Nat.le_trans (by decide) hR.2⟩ (L2 L) rfl rfl rfl (Nat.le_of_ble_eq_true rfl) ⟨rfl, rfl⟩ kn (m_X10_chance (h.cv hP h22 h50) ra1 ra2 ra3 ra4) (fun r1 M1 hM1 => ?_)
  have h1 := h.up hM1.1.up
  have e0 : M1 0 = M 0 := hM1.1.1 0 (by omega)
  refine a_aloadn dL_law_1504 rfl ?_
  refine a_aloadn dL_law_1505 rfl ?_
  refine a_iload dL_law_1506 rfl ?_
  refine a_iconst dL_law_1508 ?_
  refine a_iadd dL_law_1509 ?_
  refine b_iald dL_law_1510 (L0 L) (by omega) (by omega) (by omega) (fun _ => ?_)
  rw [e0]
  refine a_aloadn dL_law_1511 rfl ?_
  refine a_iload dL_law_1512 rfl ?_
  refine a_iconst dL_law_1514 ?_
  refine a_iadd dL_law_1515 ?_
  refine b_iald dL_law_1516 (L0 L) (by omega) (by omega) (by omega) (fun _ => ?_)
  rw [e0]
  refine a_aloadn dL_law_1517 rfl ?_
  refine a_iload dL_law_1518 rfl ?_
  refine a_iconst dL_law_1520 ?_
  refine a_iadd dL_law_1521 ?_
  refine b_iald dL_law_1522 (L0 L) (by omega) (by omega) (by omega) (fun _ => ?_)
  rw [e0]
  refine a_aloadn dL_law_1523 rfl ?_
  refine a_iload dL_law_1524 rfl ?_
  refine a_iconst dL_law_1526 ?_
  refine a_iadd dL_law_1527 ?_
  refine b_iald dL_law_1528 (L0 L) (by omega) (by omega) (by omega) (fun _ => ?_)
  rw [e0]
  refine a_anyV (as := [_, _, _, _]) (q := 209) dL_law_1529 mvL_183 ⟨Nat.le_trans (by decide) hR.1, Nat.le_trans (by decide) hR.2⟩ (L209 L) rfl rfl rfl (Nat.le_of_ble_eq_true rfl) ⟨rfl, rfl⟩ kn (m_X11_chance (h1.rv hP) ra1 ra2 ra3 ra4) (fun r2 M2 hM2 => ?_)
  obtain ⟨e2, h2⟩ := g_chance h (by omega) hM1 hM2
  rw [e2]
  refine a_same (tgt := 1650) dL_law_1532 (by decide) ?_
  exact kk M2 h2

set_option maxRecDepth 100000 in
set_option maxHeartbeats 4000000 in
theorem csL_tried {G : zG} {l : Launch} {R : Room} {Z : zZ} {L : Nat} {P : zP} {M : zM} {k n t d : Nat} {i : Int} {x5 x6 : Option av} (hL : L ≤ 3072) (hR : LR R) (kn : k ≤ R.cells ∧ n ≤ R.slots) (hP : PFok P) (h22 : P 2 2 = some t) (h50 : P 50 0 = some t) (h : REL t d M M) (i0 : 0 ≤ i) (i1 : i + 6 ≤ L) (kk : ∀ M2, REL t d M2 M2 → AW G l (mdL R) Z 1650 (lsL i x5 x6) [] (LAY L) P M2 k n) : AW G l (mdL R) Z 1537 (lsL i x5 x6) [] (LAY L) P M k n := by
  refine a_aloadn dL_law_1537 rfl ?_
  refine a_aloadn dL_law_1538 rfl ?_
  refine a_iload dL_law_1539 rfl ?_
  refine a_iconst dL_law_1541 ?_
  refine a_iadd dL_law_1542 ?_
  refine b_iald dL_law_1543 (L0 L) (by omega) (by omega) (by omega) (fun ra1 => ?_)
  refine a_aloadn dL_law_1544 rfl ?_
  refine a_iload dL_law_1545 rfl ?_
  refine a_iconst dL_law_1547 ?_
  refine a_iadd dL_law_1548 ?_
  refine b_iald dL_law_1549 (L0 L) (by omega) (by omega) (by omega) (fun ra2 => ?_)
  refine a_aloadn dL_law_1550 rfl ?_
  refine a_iload dL_law_1551 rfl ?_
  refine a_iconst dL_law_1553 ?_
  refine a_iadd dL_law_1554 ?_
  refine b_iald dL_law_1555 (L0 L) (by omega) (by omega) (by omega) (fun ra3 => ?_)
  refine a_anyV (as := [_, _, _]) (q := 2) dL_law_1556 mvL_184 ⟨Nat.le_trans (by decide) hR.1, Nat.le_trans (by decide) hR.2⟩ (L2 L) rfl rfl rfl (Nat.le_of_ble_eq_true rfl) ⟨rfl, rfl⟩ kn (m_X10_tried (h.cv hP h22 h50) ra1 ra2 ra3) (fun r1 M1 hM1 => ?_)
  have h1 := h.up hM1.1.up
  have e0 : M1 0 = M 0 := hM1.1.1 0 (by omega)
  refine a_aloadn dL_law_1559 rfl ?_
  refine a_aloadn dL_law_1560 rfl ?_
  refine a_iload dL_law_1561 rfl ?_
  refine a_iconst dL_law_1563 ?_
  refine a_iadd dL_law_1564 ?_
  refine b_iald dL_law_1565 (L0 L) (by omega) (by omega) (by omega) (fun _ => ?_)
  rw [e0]
  refine a_aloadn dL_law_1566 rfl ?_
  refine a_iload dL_law_1567 rfl ?_
  refine a_iconst dL_law_1569 ?_
  refine a_iadd dL_law_1570 ?_
  refine b_iald dL_law_1571 (L0 L) (by omega) (by omega) (by omega) (fun _ => ?_)
  rw [e0]
  refine a_aloadn dL_law_1572 rfl ?_
  refine a_iload dL_law_1573 rfl ?_
  refine a_iconst dL_law_1575 ?_
  refine a_iadd dL_law_1576 ?_
  refine b_iald dL_law_1577 (L0 L) (by omega) (by omega) (by omega) (fun _ => ?_)
  rw [e0]
  refine a_anyV (as := [_, _, _]) (q := 209) dL_law_1578 mvL_187 ⟨Nat.le_trans (by decide) hR.1, Nat.le_trans (by decide) hR.2⟩ (L209 L) rfl rfl rfl (Nat.le_of_ble_eq_true rfl) ⟨rfl, rfl⟩ kn (m_X11_tried (h1.rv hP) ra1 ra2 ra3) (fun r2 M2 hM2 => ?_)
  obtain ⟨e2, h2⟩ := g_tried h hM1 hM2
  rw [e2]
  refine a_same (tgt := 1650) dL_law_1581 (by decide) ?_
  exact kk M2 h2

set_option maxRecDepth 100000 in
set_option maxHeartbeats 4000000 in
theorem csL_count {G : zG} {l : Launch} {R : Room} {Z : zZ} {L : Nat} {P : zP} {M : zM} {k n t d : Nat} {i : Int} {x5 x6 : Option av} (hL : L ≤ 3072) (hR : LR R) (kn : k ≤ R.cells ∧ n ≤ R.slots) (hP : PFok P) (h22 : P 2 2 = some t) (h50 : P 50 0 = some t) (h : REL t d M M) (i0 : 0 ≤ i) (i1 : i + 6 ≤ L) (kk : ∀ M2, REL t d M2 M2 → AW G l (mdL R) Z 1650 (lsL i x5 x6) [] (LAY L) P M2 k n) : AW G l (mdL R) Z 1625 (lsL i x5 x6) [] (LAY L) P M k n := by
  refine a_aloadn dL_law_1625 rfl ?_
  refine a_aloadn dL_law_1626 rfl ?_
  refine a_iload dL_law_1627 rfl ?_
  refine a_iconst dL_law_1629 ?_
  refine a_iadd dL_law_1630 ?_
  refine b_iald dL_law_1631 (L0 L) (by omega) (by omega) (by omega) (fun ra1 => ?_)
  refine a_anyV (as := [_]) (q := 2) dL_law_1632 mvL_200 ⟨Nat.le_trans (by decide) hR.1, Nat.le_trans (by decide) hR.2⟩ (L2 L) rfl rfl rfl (Nat.le_of_ble_eq_true rfl) ⟨rfl, rfl⟩ kn (m_X10_count (h.cv hP h22 h50) h.ni ra1) (fun r1 M1 hM1 => ?_)
  have h1 := h.up hM1.1.up
  have e0 : M1 0 = M 0 := hM1.1.1 0 (by omega)
  refine a_aloadn dL_law_1635 rfl ?_
  refine a_aloadn dL_law_1636 rfl ?_
  refine a_iload dL_law_1637 rfl ?_
  refine a_iconst dL_law_1639 ?_
  refine a_iadd dL_law_1640 ?_
  refine b_iald dL_law_1641 (L0 L) (by omega) (by omega) (by omega) (fun _ => ?_)
  rw [e0]
  refine a_anyV (as := [_]) (q := 209) dL_law_1642 mvL_203 ⟨Nat.le_trans (by decide) hR.1, Nat.le_trans (by decide) hR.2⟩ (L209 L) rfl rfl rfl (Nat.le_of_ble_eq_true rfl) ⟨rfl, rfl⟩ kn (m_X11_count (h1.rv hP) ra1) (fun r2 M2 hM2 => ?_)
  obtain ⟨e2, h2⟩ := g_count h hM1 hM2
  rw [e2]
  refine a_same (tgt := 1650) dL_law_1645 (by decide) ?_
  exact kk M2 h2
