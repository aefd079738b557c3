
/-- the law's own row for house, as the loop wants it -/
def HsC (G : zG) (l : Launch) (R : Room) (Z : zZ) (L : Nat) : Prop := ∀ (t d : Nat) (P : zP) (M : zM) (k n : Nat) (i : Int) (x5 x6 : Option av), PFok P → P 2 2 = some t → P 50 0 = some t → REL t d M M → 0 ≤ i → i + 6 ≤ L → (k + 100 ≤ R.cells ∧ n + 1000 ≤ R.slots) → (∀ (k2 n2 : Nat) (y5 y6 : Option av) (M2 : zM), k2 ≤ k + 100 → n2 ≤ n + 1000 → REL t d M2 M2 → AW G l (mdL R) Z 1650 (lsL i y5 y6) [] (LAY L) P M2 k2 n2) → AW G l (mdL R) Z 372 (lsL i x5 x6) [] (LAY L) P M k n

set_option maxRecDepth 100000 in
set_option maxHeartbeats 4000000 in
theorem lpL {G : zG} {l : Launch} {R : Room} {Z : zZ} {L : Nat} (hL : L ≤ 3072) (hR : LR R) (hs : HsC G l R Z L) (fin : ∀ (P : zP) (M : zM) (k n : Nat) (i : Int) (x5 x6 : Option av), k ≤ R.cells ∧ n ≤ R.slots → AW G l (mdL R) Z 1656 (lsL i x5 x6) [] (LAY L) P M k n) : ∀ (m : Nat) (t d : Nat) (P : zP) (M : zM) (k n : Nat) (i : Int) (x5 x6 : Option av), PFok P → P 2 2 = some t → P 2 3 = some d → P 50 0 = some t → REL t d M M → 0 ≤ i → i ≤ 6000 → (L : Int) < i + 6 * m → (k + 100 * m ≤ R.cells ∧ n + 1000 * m ≤ R.slots) → AW G l (mdL R) Z 23 (lsL i x5 x6) [] (LAY L) P M k n := by
  intro m
  induction m with
  | zero =>
    intro t d P M k n i x5 x6 hP h22 h23 h50 h i0 i2 im kn
    refine a_iload dL_law_23 rfl ?_
    refine a_aloadn dL_law_25 rfl ?_
    refine a_alen dL_law_26 (L0 L) (by decide) rfl ?_
    refine a_bipush (w := 6) dL_law_27 (by decide) ?_
    refine a_isub dL_law_29 ?_
    refine a_icmp_gt (tgt := 1656) dL_law_30 (by decide) ⟨by omega, by omega⟩ ⟨by omega, by omega⟩ (fun _ => fin P M k n i x5 x6 (by omega)) (fun q => ?_)
    exfalso; omega
  | succ m ih =>
    intro t d P M k n i x5 x6 hP h22 h23 h50 h i0 i2 im kn
    refine a_iload dL_law_23 rfl ?_
    refine a_aloadn dL_law_25 rfl ?_
    refine a_alen dL_law_26 (L0 L) (by decide) rfl ?_
    refine a_bipush (w := 6) dL_law_27 (by decide) ?_
    refine a_isub dL_law_29 ?_
    refine a_icmp_gt (tgt := 1656) dL_law_30 (by decide) ⟨by omega, by omega⟩ ⟨by omega, by omega⟩ (fun _ => fin P M k n i x5 x6 (by omega)) (fun q => ?_)
    have i1 : i + 6 ≤ L := by omega
    have kn0 : k ≤ R.cells ∧ n ≤ R.slots := by omega
    have nx : ∀ (t2 d2 : Nat) (P2 : zP) (M2 : zM) (k2 n2 : Nat) (y5 y6 : Option av), k2 ≤ k + 100 → n2 ≤ n + 1000 → PFok P2 → P2 2 2 = some t2 → P2 2 3 = some d2 → P2 50 0 = some t2 → REL t2 d2 M2 M2 → AW G l (mdL R) Z 1650 (lsL i y5 y6) [] (LAY L) P2 M2 k2 n2 := by
      intro t2 d2 P2 M2 k2 n2 y5 y6 b1 b2 c1 c2 c3 c4 c5
      refine c_iinc (ls' := lsL (i + 6) y5 y6) dL_law_1650 rfl (show 4 < 7 by decide) rfl rfl ?_
      refine a_goto (tgt := 23) dL_law_1653 (by decide) ?_
      exact ih t2 d2 P2 M2 k2 n2 (i + 6) y5 y6 c1 c2 c3 c4 c5 (by omega) (by omega) (by omega) (by omega)
    have nq : ∀ M2 : zM, REL t d M2 M2 → AW G l (mdL R) Z 1650 (lsL i x5 x6) [] (LAY L) P M2 k n := fun M2 h2 => nx t d P M2 k n x5 x6 (by omega) (by omega) hP h22 h23 h50 h2
    refine a_aloadn dL_law_33 rfl ?_
    refine a_iload dL_law_34 rfl ?_
    refine b_iald dL_law_36 (L0 L) (by omega) (by omega) (by omega) (fun ra0 => ?_)
    refine a_bipush (w := 63) dL_law_37 (by decide) ?_
    refine a_iand dL_law_39 ?_
    obtain ⟨v, ev⟩ : ∃ v, v = b_iand (M 0 i) 63 := ⟨_, rfl⟩
    have rv : inR v := by rw [ev]; exact ⟨Int32.le_toInt _, Int32.toInt_lt _⟩
    rw [← ev]
    by_cases c0 : v = 0
    · refine a_tabIn (tgt := 224) dL_law_40 rv (by omega) (by omega) (by rw [c0]; rfl) (by decide) ?_
      exact csL_feed hL hR kn0 hP h22 h50 h i0 i1 nq
    by_cases c1 : v = 1
    · refine a_tabIn (tgt := 297) dL_law_40 rv (by omega) (by omega) (by rw [c1]; rfl) (by decide) ?_
      exact csL_text hL hR kn0 hP h22 h23 h50 h i0 i1 (fun t2 d2 P2 M2 c1 c2 c3 c4 c5 => nx t2 d2 P2 M2 k n x5 x6 (by omega) (by omega) c1 c2 c3 c4 c5)
    by_cases c2 : v = 2
    · refine a_tabIn (tgt := 322) dL_law_40 rv (by omega) (by omega) (by rw [c2]; rfl) (by decide) ?_
      exact csL_fault hL hR kn0 hP h22 h50 h i0 i1 nq
    by_cases c3 : v = 3
    · refine a_tabIn (tgt := 347) dL_law_40 rv (by omega) (by omega) (by rw [c3]; rfl) (by decide) ?_
      exact csL_named hL hR kn0 hP h22 h50 h i0 i1 nq
    by_cases c4 : v = 4
    · refine a_tabIn (tgt := 372) dL_law_40 rv (by omega) (by omega) (by rw [c4]; rfl) (by decide) ?_
      exact hs t d P M k n i x5 x6 hP h22 h50 h i0 i1 (by omega) (fun k2 n2 y5 y6 M2 b1 b2 h2 => nx t d P M2 k2 n2 y5 y6 b1 b2 hP h22 h23 h50 h2)
    by_cases c5 : v = 5
    · refine a_tabIn (tgt := 440) dL_law_40 rv (by omega) (by omega) (by rw [c5]; rfl) (by decide) ?_
      exact csL_heard hL hR kn0 hP h22 h50 h i0 i1 nq
    by_cases c6 : v = 6
    · refine a_tabIn (tgt := 477) dL_law_40 rv (by omega) (by omega) (by rw [c6]; rfl) (by decide) ?_
      exact csL_sound hL hR kn0 hP h22 h50 h i0 i1 nq
    by_cases c7 : v = 7
    · refine a_tabIn (tgt := 514) dL_law_40 rv (by omega) (by omega) (by rw [c7]; rfl) (by decide) ?_
      exact csL_law hL hR kn0 hP h22 h50 h i0 i1 nq
    by_cases c8 : v = 8
    · refine a_tabIn (tgt := 564) dL_law_40 rv (by omega) (by omega) (by rw [c8]; rfl) (by decide) ?_
      exact csL_turn hL hR kn0 hP h22 h50 h i0 i1 nq
    by_cases c9 : v = 9
    · refine a_tabIn (tgt := 601) dL_law_40 rv (by omega) (by omega) (by rw [c9]; rfl) (by decide) ?_
      exact csL_make hL hR kn0 hP h22 h50 h i0 i1 nq
    by_cases c10 : v = 10
    · refine a_tabIn (tgt := 638) dL_law_40 rv (by omega) (by omega) (by rw [c10]; rfl) (by decide) ?_
      exact csL_valve hL hR kn0 hP h22 h50 h i0 i1 nq
    by_cases c11 : v = 11
    · refine a_tabIn (tgt := 663) dL_law_40 rv (by omega) (by omega) (by rw [c11]; rfl) (by decide) ?_
      exact csL_go hL hR kn0 hP h22 h50 h i0 i1 nq
    by_cases c12 : v = 12
    · refine a_tabIn (tgt := 688) dL_law_40 rv (by omega) (by omega) (by rw [c12]; rfl) (by decide) ?_
      exact csL_ahead hL hR kn0 hP h22 h50 h i0 i1 nq
    by_cases c13 : v = 13
    · refine a_tabIn (tgt := 737) dL_law_40 rv (by omega) (by omega) (by rw [c13]; rfl) (by decide) ?_
      exact csL_first hL hR kn0 hP h22 h50 h i0 i1 nq
    by_cases c14 : v = 14
    · refine a_tabIn (tgt := 762) dL_law_40 rv (by omega) (by omega) (by rw [c14]; rfl) (by decide) ?_
      exact csL_secret hL hR kn0 hP h22 h50 h i0 i1 nq
    by_cases c15 : v = 15
    · refine a_tabIn (tgt := 811) dL_law_40 rv (by omega) (by omega) (by rw [c15]; rfl) (by decide) ?_
      exact csL_spread hL hR kn0 hP h22 h50 h i0 i1 nq
    by_cases c16 : v = 16
    · refine a_tabIn (tgt := 836) dL_law_40 rv (by omega) (by omega) (by rw [c16]; rfl) (by decide) ?_
      exact csL_whose hL hR kn0 hP h22 h50 h i0 i1 nq
    by_cases c17 : v = 17
    · refine a_tabIn (tgt := 849) dL_law_40 rv (by omega) (by omega) (by rw [c17]; rfl) (by decide) ?_
      exact csL_ask hL hR kn0 hP h22 h50 h i0 i1 nq
    by_cases c18 : v = 18
    · refine a_tabIn (tgt := 874) dL_law_40 rv (by omega) (by omega) (by rw [c18]; rfl) (by decide) ?_
      exact csL_passed hL hR kn0 hP h22 h50 h i0 i1 nq
    by_cases c19 : v = 19
    · refine a_tabIn (tgt := 911) dL_law_40 rv (by omega) (by omega) (by rw [c19]; rfl) (by decide) ?_
      exact csL_before hL hR kn0 hP h22 h50 h i0 i1 nq
    by_cases c20 : v = 20
    · refine a_tabIn (tgt := 960) dL_law_40 rv (by omega) (by omega) (by rw [c20]; rfl) (by decide) ?_
      exact csL_warn hL hR kn0 hP h22 h50 h i0 i1 nq
    by_cases c21 : v = 21
    · refine a_tabIn (tgt := 973) dL_law_40 rv (by omega) (by omega) (by rw [c21]; rfl) (by decide) ?_
      exact csL_busiest hL hR kn0 hP h22 h50 h i0 i1 nq
    by_cases c22 : v = 22
    · refine a_tabIn (tgt := 1010) dL_law_40 rv (by omega) (by omega) (by rw [c22]; rfl) (by decide) ?_
      exact csL_rests hL hR kn0 hP h22 h50 h i0 i1 nq
    by_cases c23 : v = 23
    · refine a_tabIn (tgt := 1035) dL_law_40 rv (by omega) (by omega) (by rw [c23]; rfl) (by decide) ?_
      exact csL_rest hL hR kn0 hP h22 h50 h i0 i1 nq
    by_cases c24 : v = 24
    · refine a_tabIn (tgt := 1072) dL_law_40 rv (by omega) (by omega) (by rw [c24]; rfl) (by decide) ?_
      exact csL_alone hL hR kn0 hP h22 h50 h i0 i1 nq
    by_cases c25 : v = 25
    · refine a_tabIn (tgt := 1085) dL_law_40 rv (by omega) (by omega) (by rw [c25]; rfl) (by decide) ?_
      exact csL_code hL hR kn0 hP h22 h50 h i0 i1 nq
    by_cases c26 : v = 26
    · refine a_tabIn (tgt := 1122) dL_law_40 rv (by omega) (by omega) (by rw [c26]; rfl) (by decide) ?_
      exact csL_hide hL hR kn0 hP h22 h50 h i0 i1 nq
    by_cases c27 : v = 27
    · refine a_tabIn (tgt := 1147) dL_law_40 rv (by omega) (by omega) (by rw [c27]; rfl) (by decide) ?_
      exact csL_gossip hL hR kn0 hP h22 h50 h i0 i1 nq
    by_cases c28 : v = 28
    · refine a_tabIn (tgt := 1184) dL_law_40 rv (by omega) (by omega) (by rw [c28]; rfl) (by decide) ?_
      exact csL_loudest hL hR kn0 hP h22 h50 h i0 i1 nq
    by_cases c29 : v = 29
    · refine a_tabIn (tgt := 1197) dL_law_40 rv (by omega) (by omega) (by rw [c29]; rfl) (by decide) ?_
      exact csL_nextHeard hL hR kn0 hP h22 h50 h i0 i1 nq
    by_cases c30 : v = 30
    · refine a_tabIn (tgt := 1234) dL_law_40 rv (by omega) (by omega) (by rw [c30]; rfl) (by decide) ?_
      exact csL_lure hL hR kn0 hP h22 h50 h i0 i1 nq
    by_cases c31 : v = 31
    · refine a_tabIn (tgt := 1271) dL_law_40 rv (by omega) (by omega) (by rw [c31]; rfl) (by decide) ?_
      exact csL_note hL hR kn0 hP h22 h50 h i0 i1 nq
    by_cases c32 : v = 32
    · refine a_tabIn (tgt := 1336) dL_law_40 rv (by omega) (by omega) (by rw [c32]; rfl) (by decide) ?_
      exact csL_see hL hR kn0 hP h22 h50 h i0 i1 nq
    by_cases c33 : v = 33
    · refine a_tabIn (tgt := 1413) dL_law_40 rv (by omega) (by omega) (by rw [c33]; rfl) (by decide) ?_
      exact csL_strike hL hR kn0 hP h22 h50 h i0 i1 nq
    by_cases c34 : v = 34
    · refine a_tabIn (tgt := 1438) dL_law_40 rv (by omega) (by omega) (by rw [c34]; rfl) (by decide) ?_
      exact csL_known hL hR kn0 hP h22 h50 h i0 i1 nq
    by_cases c35 : v = 35
    · refine a_tabIn (tgt := 1463) dL_law_40 rv (by omega) (by omega) (by rw [c35]; rfl) (by decide) ?_
      exact csL_nears hL hR kn0 hP h22 h50 h i0 i1 nq
    by_cases c36 : v = 36
    · refine a_tabIn (tgt := 1476) dL_law_40 rv (by omega) (by omega) (by rw [c36]; rfl) (by decide) ?_
      exact csL_chance hL hR kn0 hP h22 h50 h i0 i1 nq
    by_cases c37 : v = 37
    · refine a_tabIn (tgt := 1537) dL_law_40 rv (by omega) (by omega) (by rw [c37]; rfl) (by decide) ?_
      exact csL_tried hL hR kn0 hP h22 h50 h i0 i1 nq
    by_cases c38 : v = 38
    · refine a_tabIn (tgt := 1586) dL_law_40 rv (by omega) (by omega) (by rw [c38]; rfl) (by decide) ?_
      exact csL_undo hL hR kn0 hP h22 h50 h i0 i1 nq
    by_cases c39 : v = 39
    · refine a_tabIn (tgt := 1599) dL_law_40 rv (by omega) (by omega) (by rw [c39]; rfl) (by decide) ?_
      exact csL_keep hL hR kn0 hP h22 h50 h i0 i1 nq
    by_cases c40 : v = 40
    · refine a_tabIn (tgt := 1612) dL_law_40 rv (by omega) (by omega) (by rw [c40]; rfl) (by decide) ?_
      exact csL_back hL hR kn0 hP h22 h50 h i0 i1 nq
    by_cases c41 : v = 41
    · refine a_tabIn (tgt := 1625) dL_law_40 rv (by omega) (by omega) (by rw [c41]; rfl) (by decide) ?_
      exact csL_count hL hR kn0 hP h22 h50 h i0 i1 nq
    exact a_tabOut (tgt := 1650) dL_law_40 rv (by omega) (by decide) (nq M h)
