/-- how many are about a dial, in the reference -/
def byR (M : zM) (g x : Int) : Int := zsm (fun j => if iabs (x - M 233 j) ≤ M 213 0 + g then 1 else 0) (M 209 12).toNat 0 0
theorem byR_in {M : zM} (hT : TxI M) (g x : Int) : 0 ≤ byR M g x ∧ byR M g x ≤ 6 := by
  have := zsm01 (fun j => iabs (x - M 233 j) ≤ M 213 0 + g) (M 209 12).toNat 0 0
  have q := hT.1
  unfold byR
  omega
def bsR (f : Int → Int) : Nat → Int → Int → Int
  | 0, _, best => best
  | n + 1, x, best => bsR f n (x + 1) (if f best < f x then x else best)
theorem Rq.by9 {M0 M : zM} (h : Rq M0 M) (hT : TxI M0) (g : Int) : byR M g = byR M0 g := by
  have q := hT.1
  funext x
  unfold byR
  rw [h 209 12 (by omega)]
  exact zsm_cong _ _ _ (fun j j0 j1 => by rw [h 233 j (by omega), h 213 0 (by omega)])

set_option maxRecDepth 100000 in
set_option maxHeartbeats 4000000 in
theorem lpX11_busyAt {G : zG} {l : Launch} {L : Nat} {P : zP} {M : zM} {x g : Int} (hP : PFok P) (hT : TxI M) (hs : SmI M 0) (rx : 0 ≤ x ∧ x ≤ 99) (rg : 0 ≤ g ∧ g ≤ 9) : ∀ (n : Nat) (j acc : Int) (g0 : 0 ≤ j) (g1 : j + n = M 209 12), AW G l mdX11_busyAt (zdet (some (aI (zsm (fun j => if iabs (x - M 233 j) ≤ M 213 0 + g then 1 else 0) n j acc))) (LAY L) P M) 5 [some (aR 209), some (aI x), some (aI g), some (aI acc), some (aI j)] [] (LAY L) P M 0 0 := by
  intro n
  induction n with
  | zero =>
    intro j acc g0 g1
    have q4 := hT.1
    have q5 := hT.2.2.2.2.2.2.2.1
    refine a_iload dX11_busyAt_5 rfl ?_
    refine a_aloadn dX11_busyAt_7 rfl ?_
    refine b_getI (j' := 12) dX11_busyAt_8 flX11_201 rfl rfl (L209 L) (fun hr8 => ?_)
    refine a_icmp_ge (tgt := 50) dX11_busyAt_11 (by decide) ⟨by omega, by omega⟩ ⟨by omega, by omega⟩ (fun hb11 => ?_) (fun hb11 => ?_)
    · refine a_iloadn dX11_busyAt_50 rfl ?_
      exact a_ireturn dX11_busyAt_51 rfl rfl rfl (zdet_I (by first | rfl | omega) rfl)
    · exfalso; omega
  | succ n ih =>
    intro j acc g0 g1
    have q4 := hT.1
    have q5 := hT.2.2.2.2.2.2.2.1
    refine a_iload dX11_busyAt_5 rfl ?_
    refine a_aloadn dX11_busyAt_7 rfl ?_
    refine b_getI (j' := 12) dX11_busyAt_8 flX11_201 rfl rfl (L209 L) (fun hr8 => ?_)
    refine a_icmp_ge (tgt := 50) dX11_busyAt_11 (by decide) ⟨by omega, by omega⟩ ⟨by omega, by omega⟩ (fun hb11 => ?_) (fun hb11 => ?_)
    · exfalso; omega
    · have q6 := hs.1 j (by omega) (by omega)
      rw [show 6 * (0 : Int) + j = j by omega] at q6
      have q7 := iabs_99 rx q6
      refine a_iloadn dX11_busyAt_14 rfl ?_
      refine a_iloadn dX11_busyAt_15 rfl ?_
      refine a_aloadn dX11_busyAt_16 rfl ?_
      refine a_getR (j' := 48) (y := 233) dX11_busyAt_17 flX11_85 rfl rfl (L209 L) (p209_48 hP) ?_
      refine a_iload dX11_busyAt_20 rfl ?_
      refine b_iald (N := 12) dX11_busyAt_22 (L233 L) (by decide) (by omega) (by omega) (fun hr22 => ?_)
      refine a_callS (as := [_, _]) dX11_busyAt_23 mvX11_355 ⟨by decide, by decide⟩ rfl rfl (Nat.le_of_ble_eq_true rfl) ⟨rfl, rfl⟩ ⟨by decide, by decide⟩ (m_X11_apart ⟨by omega, by omega⟩ ⟨by omega, by omega⟩) ?_
      refine a_aloadn dX11_busyAt_26 rfl ?_
      refine a_getR (j' := 21) (y := 213) dX11_busyAt_27 flX11_24 rfl rfl (L209 L) (p209_21 hP) ?_
      refine a_iconst dX11_busyAt_30 ?_
      refine b_iald (N := 8) dX11_busyAt_31 (L213 L) (by decide) (by decide) (by decide) (fun hr31 => ?_)
      refine a_iloadn dX11_busyAt_32 rfl ?_
      refine a_iadd dX11_busyAt_33 ?_
      refine a_icmp_gt (tgt := 41) dX11_busyAt_34 (by decide) ⟨by omega, by omega⟩ ⟨by omega, by omega⟩ (fun hb34 => ?_) (fun hb34 => ?_)
      · refine a_iconst dX11_busyAt_41 ?_
        refine a_iadd dX11_busyAt_42 ?_
        refine c_istoren (ls' := [_, _, _, _, _]) dX11_busyAt_43 (by decide) rfl rfl ?_
        refine c_iinc (ls' := [_, _, _, _, _]) dX11_busyAt_44 rfl (by decide) rfl rfl ?_
        refine a_goto (tgt := 5) dX11_busyAt_47 (by decide) ?_
        simp only [zsm]
        first
        | (rw [if_pos (by omega)]; exact ih _ _ (by omega) (by omega))
        | (rw [if_neg (by omega)]; exact ih _ _ (by omega) (by omega))
      · refine a_iconst dX11_busyAt_37 ?_
        refine a_goto (tgt := 42) dX11_busyAt_38 (by decide) ?_
        refine a_iadd dX11_busyAt_42 ?_
        refine c_istoren (ls' := [_, _, _, _, _]) dX11_busyAt_43 (by decide) rfl rfl ?_
        refine c_iinc (ls' := [_, _, _, _, _]) dX11_busyAt_44 rfl (by decide) rfl rfl ?_
        refine a_goto (tgt := 5) dX11_busyAt_47 (by decide) ?_
        simp only [zsm]
        first
        | (rw [if_pos (by omega)]; exact ih _ _ (by omega) (by omega))
        | (rw [if_neg (by omega)]; exact ih _ _ (by omega) (by omega))

set_option maxRecDepth 100000 in
set_option maxHeartbeats 4000000 in
theorem m_X11_busyAt {G : zG} {l : Launch} {L : Nat} {P : zP} {M : zM} {x g : Int} (hP : PFok P) (hT : TxI M) (hs : SmI M 0) (rx : 0 ≤ x ∧ x ≤ 99) (rg : 0 ≤ g ∧ g ≤ 9) : AM G l yX11_busyAt mdX11_busyAt [aR 209, aI x, aI g] (LAY L) P M (zdet (some (aI (byR M g x))) (LAY L) P M) := by
  have q4 := hT.1
  refine AM.go [some (aR 209), some (aI x), some (aI g), none, none] rfl (Nat.le_of_ble_eq_true rfl) ?_ (by decide) rfl rfl
  refine a_iconst dX11_busyAt_0 ?_
  refine c_istoren (ls' := [_, _, _, _, _]) dX11_busyAt_1 (by decide) rfl rfl ?_
  refine a_iconst dX11_busyAt_2 ?_
  refine c_istore (ls' := [_, _, _, _, _]) dX11_busyAt_3 (by decide) rfl rfl ?_
  exact lpX11_busyAt hP hT hs rx rg (M 209 12).toNat 0 0 (by omega) (by omega)

set_option maxRecDepth 100000 in
set_option maxHeartbeats 4000000 in
theorem lpX11_busiest {G : zG} {l : Launch} {L : Nat} {P : zP} {M : zM} {g w : Int} (hP : PFok P) (hT : TxI M) (hs : SmI M 0) (rg : 0 ≤ g ∧ g ≤ 9) (rw9 : inR w) : ∀ (n : Nat) (x best : Int) (g0 : 1 ≤ x) (g1 : x + n = 100) (gb : 0 ≤ best ∧ best ≤ 99), AW G l mdX11_busiest (zone (LAY L) P M (fun r => r = if w = 0 then bsR (byR M g) n x best else byR M g (bsR (byR M g) n x best))) 31 [some (aR 209), some (aI g), some (aI w), some (aI best), some (aI x)] [] (LAY L) P M 0 0 := by
  intro n
  induction n with
  | zero =>
    intro x best g0 g1 gb
    have b1 := byR_in hT g x
    have b2 := byR_in hT g best
    refine a_iload dX11_busiest_31 rfl ?_
    refine a_bipush (w := 100) dX11_busiest_33 (by decide) ?_
    refine a_icmp_ge (tgt := 67) dX11_busiest_35 (by decide) ⟨by omega, by omega⟩ ⟨by omega, by omega⟩ (fun hb35 => ?_) (fun hb35 => ?_)
    · refine a_iloadn dX11_busiest_67 rfl ?_
      refine a_if_ne (tgt := 75) dX11_busiest_68 (by decide) ⟨by omega, by omega⟩ (fun hb68 => ?_) (fun hb68 => ?_)
      · refine a_aloadn dX11_busiest_75 rfl ?_
        refine a_iloadn dX11_busiest_76 rfl ?_
        refine a_iloadn dX11_busiest_77 rfl ?_
        refine a_callV (as := [_, _]) (q := 209) dX11_busiest_78 mvX11_473 ⟨by decide, by decide⟩ (L209 L) rfl rfl rfl (Nat.le_of_ble_eq_true rfl) ⟨rfl, rfl⟩ ⟨by decide, by decide⟩ (m_X11_busyAt hP hT hs ⟨by omega, by omega⟩ rg) ?_
        exact a_ireturn dX11_busiest_81 rfl rfl rfl (zone_i (by simp only [bsR]; first | (rw [if_pos (by omega)]; done) | (rw [if_neg (by omega)]; done)))
      · refine a_iloadn dX11_busiest_71 rfl ?_
        refine a_goto (tgt := 81) dX11_busiest_72 (by decide) ?_
        exact a_ireturn dX11_busiest_81 rfl rfl rfl (zone_i (by simp only [bsR]; first | (rw [if_pos (by omega)]; done) | (rw [if_neg (by omega)]; done)))
    · exfalso; omega
  | succ n ih =>
    intro x best g0 g1 gb
    have b1 := byR_in hT g x
    have b2 := byR_in hT g best
    refine a_iload dX11_busiest_31 rfl ?_
    refine a_bipush (w := 100) dX11_busiest_33 (by decide) ?_
    refine a_icmp_ge (tgt := 67) dX11_busiest_35 (by decide) ⟨by omega, by omega⟩ ⟨by omega, by omega⟩ (fun hb35 => ?_) (fun hb35 => ?_)
    · exfalso; omega
    · refine a_aloadn dX11_busiest_38 rfl ?_
      refine a_iload dX11_busiest_39 rfl ?_
      refine a_iloadn dX11_busiest_41 rfl ?_
      refine a_callV (as := [_, _]) (q := 209) dX11_busiest_42 mvX11_473 ⟨by decide, by decide⟩ (L209 L) rfl rfl rfl (Nat.le_of_ble_eq_true rfl) ⟨rfl, rfl⟩ ⟨by decide, by decide⟩ (m_X11_busyAt hP hT hs ⟨by omega, by omega⟩ rg) ?_
      refine a_aloadn dX11_busiest_45 rfl ?_
      refine a_iloadn dX11_busiest_46 rfl ?_
      refine a_iloadn dX11_busiest_47 rfl ?_
      refine a_callV (as := [_, _]) (q := 209) dX11_busiest_48 mvX11_473 ⟨by decide, by decide⟩ (L209 L) rfl rfl rfl (Nat.le_of_ble_eq_true rfl) ⟨rfl, rfl⟩ ⟨by decide, by decide⟩ (m_X11_busyAt hP hT hs ⟨by omega, by omega⟩ rg) ?_
      refine a_icmp_le (tgt := 59) dX11_busiest_51 (by decide) ⟨by omega, by omega⟩ ⟨by omega, by omega⟩ (fun hb51 => ?_) (fun hb51 => ?_)
      · refine a_iloadn dX11_busiest_59 rfl ?_
        refine c_istoren (ls' := [_, _, _, _, _]) dX11_busiest_60 (by decide) rfl rfl ?_
        refine c_iinc (ls' := [_, _, _, _, _]) dX11_busiest_61 rfl (by decide) rfl rfl ?_
        refine a_goto (tgt := 31) dX11_busiest_64 (by decide) ?_
        first
        | (have eb : bsR (byR M g) (n + 1) x best = bsR (byR M g) n (x + 1) x := by simp only [bsR]; rw [if_pos (by omega)]
           rw [eb]; exact ih _ _ (by omega) (by omega) (by omega))
        | (have eb : bsR (byR M g) (n + 1) x best = bsR (byR M g) n (x + 1) best := by simp only [bsR]; rw [if_neg (by omega)]
           rw [eb]; exact ih _ _ (by omega) (by omega) (by omega))
      · refine a_iload dX11_busiest_54 rfl ?_
        refine a_goto (tgt := 60) dX11_busiest_56 (by decide) ?_
        refine c_istoren (ls' := [_, _, _, _, _]) dX11_busiest_60 (by decide) rfl rfl ?_
        refine c_iinc (ls' := [_, _, _, _, _]) dX11_busiest_61 rfl (by decide) rfl rfl ?_
        refine a_goto (tgt := 31) dX11_busiest_64 (by decide) ?_
        first
        | (have eb : bsR (byR M g) (n + 1) x best = bsR (byR M g) n (x + 1) x := by simp only [bsR]; rw [if_pos (by omega)]
           rw [eb]; exact ih _ _ (by omega) (by omega) (by omega))
        | (have eb : bsR (byR M g) (n + 1) x best = bsR (byR M g) n (x + 1) best := by simp only [bsR]; rw [if_neg (by omega)]
           rw [eb]; exact ih _ _ (by omega) (by omega) (by omega))

set_option maxRecDepth 100000 in
set_option maxHeartbeats 4000000 in
theorem m_X11_busiest {G : zG} {l : Launch} {L : Nat} {P : zP} {M : zM} {g w : Int} (hv : RV P M) (rg : inR g) (rw : inR w) : AM G l yX11_busiest mdX11_busiest [aR 209, aI g, aI w] (LAY L) P M (zany (LAY L) P (fun r M' => Rn M M' ∧ (¬ (0 ≤ g ∧ g ≤ 9 ∧ 0 ≤ w ∧ w ≤ 1) ∧ r = -1 ∨ (0 ≤ g ∧ g ≤ 9 ∧ 0 ≤ w ∧ w ≤ 1) ∧ r = if w = 0 then bsR (byR M g) 99 1 0 else byR M g (bsR (byR M g) 99 1 0)))) := by
  have hP := hv.1
  have q0 := hv.2.1.1.1.1
  refine AM.go [some (aR 209), some (aI g), some (aI w), none, none] rfl (Nat.le_of_ble_eq_true rfl) ?_ (by decide) rfl rfl
  refine a_aloadn dX11_busiest_0 rfl ?_
  refine a_iconst dX11_busiest_1 ?_
  refine a_putI (j' := 2) dX11_busiest_2 flX11_124 rfl rfl (L209 L) (by decide) rfl ⟨by omega, by omega⟩ ?_
  obtain ⟨Mt, hMt⟩ : ∃ Mt, Mt = sm M 209 2 0 := ⟨_, rfl⟩
  rw [← hMt]
  obtain ⟨hvt, hnt, e12, eT⟩ := th_all hv hMt
  refine a_iloadn dX11_busiest_5 rfl ?_
  refine a_iconst dX11_busiest_6 ?_
  refine a_bipush (w := 9) dX11_busiest_7 (by decide) ?_
  refine a_oneS (as := [_, _, _]) dX11_busiest_9 mvX11_169 ⟨by decide, by decide⟩ rfl rfl (Nat.le_of_ble_eq_true rfl) ⟨rfl, rfl⟩ ⟨by decide, by decide⟩ (m_isIn1 ⟨by omega, by omega⟩ ⟨by omega, by omega⟩ ⟨by omega, by omega⟩) (fun x9 hx9 => ?_)
  refine a_if_eq (tgt := 24) dX11_busiest_12 (by decide) ⟨by omega, by omega⟩ (fun hb12 => ?_) (fun hb12 => ?_)
  · refine a_iconst dX11_busiest_24 ?_
    exact a_ireturn dX11_busiest_25 rfl rfl rfl (zany_i ⟨hnt, Or.inl ⟨by omega, rfl⟩⟩)
  · refine a_iloadn dX11_busiest_15 rfl ?_
    refine a_iconst dX11_busiest_16 ?_
    refine a_iconst dX11_busiest_17 ?_
    refine a_oneS (as := [_, _, _]) dX11_busiest_18 mvX11_169 ⟨by decide, by decide⟩ rfl rfl (Nat.le_of_ble_eq_true rfl) ⟨rfl, rfl⟩ ⟨by decide, by decide⟩ (m_isIn1 ⟨by omega, by omega⟩ ⟨by omega, by omega⟩ ⟨by omega, by omega⟩) (fun x18 hx18 => ?_)
    refine a_if_ne (tgt := 26) dX11_busiest_21 (by decide) ⟨by omega, by omega⟩ (fun hb21 => ?_) (fun hb21 => ?_)
    · refine a_iconst dX11_busiest_26 ?_
      refine c_istoren (ls' := [_, _, _, _, _]) dX11_busiest_27 (by decide) rfl rfl ?_
      refine a_iconst dX11_busiest_28 ?_
      refine c_istore (ls' := [_, _, _, _, _]) dX11_busiest_29 (by decide) rfl rfl ?_
      refine AW.mono2 (lpX11_busiest hP hvt.2.1.1.1 hvt.2.1.1.2.2.1 (g := g) (w := w) ⟨by omega, by omega⟩ rw 99 1 0 (by omega) (by omega) (by omega)) ?_
      rintro r lay P' M' ⟨z1, z2, rfl, x, z3, z4⟩
      refine ⟨z1, z2, x, z3, hnt, Or.inr ⟨by omega, ?_⟩⟩
      rw [z4, hnt.1.by9 hv.2.1.1.1]
    · refine a_iconst dX11_busiest_24 ?_
      exact a_ireturn dX11_busiest_25 rfl rfl rfl (zany_i ⟨hnt, Or.inl ⟨by omega, rfl⟩⟩)

/-- what a burglar has, what a house has, when they rest, in the reference -/
def snR (M : zM) (h k : Int) : Int := if M 238 0 + k < 100 ∧ 0 < zsnd (M 220) (M 221) (M 222) h (M 238 0 + k) (M 209 14).toNat 0 then 1 else 0
def bgR (M : zM) (h b l : Int) : Int := (if b = l then 0 else 6) + (if snR M h b = 0 then 0 else 2)
def hsR9 (M : zM) (h b l : Int) : Int := (if b = l then 5 else 0) - (if snR M h l = 0 then 0 else 6)
theorem snR01 (M : zM) (h k : Int) : snR M h k = 0 ∨ snR M h k = 1 := by unfold snR; split <;> simp
theorem bgR_in (M : zM) (h b l : Int) : 0 ≤ bgR M h b l ∧ bgR M h b l ≤ 8 := by
  unfold bgR
  split <;> split <;> omega
theorem hsR9_in (M : zM) (h b l : Int) : -6 ≤ hsR9 M h b l ∧ hsR9 M h b l ≤ 5 := by
  unfold hsR9
  split <;> split <;> omega
def rsR1 (M : zM) (h b l k : Int) : Int := if bgR M h k l ≤ bgR M h b l ∧ hsR9 M h b k ≤ hsR9 M h b l then 1 else 0
def rsR (M : zM) (h g : Int) : Int := zall (rsR1 M h (g.tdiv 4) (g.tmod 4)) 4 0
/-- the rests in their row -/
def raR (f : Int → Int) (wd : Int) : Nat → Int → Int → Int
  | 0, _, acc => if wd < 0 then acc else -2
  | n + 1, g, acc => if f g = 0 then raR f wd n (g + 1) acc else if acc = wd then 10 * g.tdiv 4 + g.tmod 4 else raR f wd n (g + 1) (acc + 1)
theorem Rq.sn {M0 M : zM} (h : Rq M0 M) : snR M = snR M0 := by
  unfold snR
  rw [h.row (k := 220) (by omega), h.row (k := 221) (by omega), h.row (k := 222) (by omega), h 209 14 (by omega), h 238 0 (by omega)]
theorem Rq.rs {M0 M : zM} (h : Rq M0 M) : rsR M = rsR M0 := by
  funext x g
  unfold rsR
  rw [show rsR1 M = rsR1 M0 from by unfold rsR1 bgR hsR9; rw [h.sn]]

set_option maxRecDepth 100000 in
set_option maxHeartbeats 4000000 in
theorem m_X11_sounds {G : zG} {l : Launch} {L : Nat} {P : zP} {M : zM} {h k : Int} (hP : PFok P) (hT : TxI M) (hh : 0 ≤ M 238 0 ∧ M 238 0 ≤ 9999) (rh : inR h) (rk : 0 ≤ k ∧ k ≤ 3) : AM G l yX11_sounds mdX11_sounds [aR 209, aI h, aI k] (LAY L) P M (zdet (some (aI (snR M h k))) (LAY L) P M) := by
  have q5 := hT.2.2.1
  have q6 := zsnd_inR h (M 238 0 + k) hT (M 209 14).toNat 0 (by omega) (by omega)
  refine AM.go [some (aR 209), some (aI h), some (aI k)] rfl (Nat.le_of_ble_eq_true rfl) ?_ (by decide) rfl rfl
  refine a_aloadn dX11_sounds_0 rfl ?_
  refine a_getR (j' := 53) (y := 238) dX11_sounds_1 flX11_100 rfl rfl (L209 L) (p209_53 hP) ?_
  refine a_iconst dX11_sounds_4 ?_
  refine b_iald (N := 2) dX11_sounds_5 (L238 L) (by decide) (by decide) (by decide) (fun hr5 => ?_)
  refine a_iloadn dX11_sounds_6 rfl ?_
  refine a_iadd dX11_sounds_7 ?_
  refine a_bipush (w := 100) dX11_sounds_8 (by decide) ?_
  refine a_icmp_ge (tgt := 33) dX11_sounds_10 (by decide) ⟨by omega, by omega⟩ ⟨by omega, by omega⟩ (fun hb10 => ?_) (fun hb10 => ?_)
  · refine a_iconst dX11_sounds_33 ?_
    exact a_zreturn dX11_sounds_34 rfl rfl rfl (by omega) (zdet_I (by unfold snR; first | (rw [if_pos (by omega)]; done) | (rw [if_neg (by omega)]; done)) rfl)
  · refine a_aloadn dX11_sounds_13 rfl ?_
    refine a_iloadn dX11_sounds_14 rfl ?_
    refine a_aloadn dX11_sounds_15 rfl ?_
    refine a_getR (j' := 53) (y := 238) dX11_sounds_16 flX11_100 rfl rfl (L209 L) (p209_53 hP) ?_
    refine a_iconst dX11_sounds_19 ?_
    refine b_iald (N := 2) dX11_sounds_20 (L238 L) (by decide) (by decide) (by decide) (fun hr20 => ?_)
    refine a_iloadn dX11_sounds_21 rfl ?_
    refine a_iadd dX11_sounds_22 ?_
    refine a_callV (as := [_, _]) (q := 209) dX11_sounds_23 mvX11_416 ⟨by decide, by decide⟩ (L209 L) rfl rfl rfl (Nat.le_of_ble_eq_true rfl) ⟨rfl, rfl⟩ ⟨by decide, by decide⟩ (m_X11_soundAt hP hT rh ⟨by omega, by omega⟩) ?_
    refine a_if_le (tgt := 33) dX11_sounds_26 (by decide) ⟨by omega, by omega⟩ (fun hb26 => ?_) (fun hb26 => ?_)
    · refine a_iconst dX11_sounds_33 ?_
      exact a_zreturn dX11_sounds_34 rfl rfl rfl (by omega) (zdet_I (by unfold snR; first | (rw [if_pos (by omega)]; done) | (rw [if_neg (by omega)]; done)) rfl)
    · refine a_iconst dX11_sounds_29 ?_
      refine a_goto (tgt := 34) dX11_sounds_30 (by decide) ?_
      exact a_zreturn dX11_sounds_34 rfl rfl rfl (by omega) (zdet_I (by unfold snR; first | (rw [if_pos (by omega)]; done) | (rw [if_neg (by omega)]; done)) rfl)

set_option maxRecDepth 100000 in
set_option maxHeartbeats 4000000 in
theorem m_X11_burglarHas {G : zG} {l : Launch} {L : Nat} {P : zP} {M : zM} {h b l9 : Int} (hP : PFok P) (hT : TxI M) (hh : 0 ≤ M 238 0 ∧ M 238 0 ≤ 9999) (rh : inR h) (rb : 0 ≤ b ∧ b ≤ 3) (rl : 0 ≤ l9 ∧ l9 ≤ 3) : AM G l yX11_burglarHas mdX11_burglarHas [aR 209, aI h, aI b, aI l9] (LAY L) P M (zdet (some (aI (bgR M h b l9))) (LAY L) P M) := by
  have q8 := snR01 M h b
  refine AM.go [some (aR 209), some (aI h), some (aI b), some (aI l9)] rfl (Nat.le_of_ble_eq_true rfl) ?_ (by decide) rfl rfl
  refine a_iloadn dX11_burglarHas_0 rfl ?_
  refine a_iloadn dX11_burglarHas_1 rfl ?_
  refine a_icmp_ne (tgt := 9) dX11_burglarHas_2 (by decide) ⟨by omega, by omega⟩ ⟨by omega, by omega⟩ (fun hb2 => ?_) (fun hb2 => ?_)
  · refine a_bipush (w := 6) dX11_burglarHas_9 (by decide) ?_
    refine a_aloadn dX11_burglarHas_11 rfl ?_
    refine a_iloadn dX11_burglarHas_12 rfl ?_
    refine a_iloadn dX11_burglarHas_13 rfl ?_
    refine a_callV (as := [_, _]) (q := 209) dX11_burglarHas_14 mvX11_476 ⟨by decide, by decide⟩ (L209 L) rfl rfl rfl (Nat.le_of_ble_eq_true rfl) ⟨rfl, rfl⟩ ⟨by decide, by decide⟩ (m_X11_sounds hP hT hh rh ⟨by omega, by omega⟩) ?_
    refine a_if_eq (tgt := 24) dX11_burglarHas_17 (by decide) (by rcases q8 with z | z <;> exact ⟨by omega, by omega⟩) (fun hb17 => ?_) (fun hb17 => ?_)
    · refine a_iconst dX11_burglarHas_24 ?_
      refine a_iadd dX11_burglarHas_25 ?_
      exact a_ireturn dX11_burglarHas_26 rfl rfl rfl (zdet_I (by unfold bgR; first | (rw [if_pos (by omega), if_pos (by omega)]; done) | (rw [if_pos (by omega), if_neg (by omega)]; done) | (rw [if_neg (by omega), if_pos (by omega)]; done) | (rw [if_neg (by omega), if_neg (by omega)]; done)) rfl)
    · refine a_iconst dX11_burglarHas_20 ?_
      refine a_goto (tgt := 25) dX11_burglarHas_21 (by decide) ?_
      refine a_iadd dX11_burglarHas_25 ?_
      exact a_ireturn dX11_burglarHas_26 rfl rfl rfl (zdet_I (by unfold bgR; first | (rw [if_pos (by omega), if_pos (by omega)]; done) | (rw [if_pos (by omega), if_neg (by omega)]; done) | (rw [if_neg (by omega), if_pos (by omega)]; done) | (rw [if_neg (by omega), if_neg (by omega)]; done)) rfl)
  · refine a_iconst dX11_burglarHas_5 ?_
    refine a_goto (tgt := 11) dX11_burglarHas_6 (by decide) ?_
    refine a_aloadn dX11_burglarHas_11 rfl ?_
    refine a_iloadn dX11_burglarHas_12 rfl ?_
    refine a_iloadn dX11_burglarHas_13 rfl ?_
    refine a_callV (as := [_, _]) (q := 209) dX11_burglarHas_14 mvX11_476 ⟨by decide, by decide⟩ (L209 L) rfl rfl rfl (Nat.le_of_ble_eq_true rfl) ⟨rfl, rfl⟩ ⟨by decide, by decide⟩ (m_X11_sounds hP hT hh rh ⟨by omega, by omega⟩) ?_
    refine a_if_eq (tgt := 24) dX11_burglarHas_17 (by decide) (by rcases q8 with z | z <;> exact ⟨by omega, by omega⟩) (fun hb17 => ?_) (fun hb17 => ?_)
    · refine a_iconst dX11_burglarHas_24 ?_
      refine a_iadd dX11_burglarHas_25 ?_
      exact a_ireturn dX11_burglarHas_26 rfl rfl rfl (zdet_I (by unfold bgR; first | (rw [if_pos (by omega), if_pos (by omega)]; done) | (rw [if_pos (by omega), if_neg (by omega)]; done) | (rw [if_neg (by omega), if_pos (by omega)]; done) | (rw [if_neg (by omega), if_neg (by omega)]; done)) rfl)
    · refine a_iconst dX11_burglarHas_20 ?_
      refine a_goto (tgt := 25) dX11_burglarHas_21 (by decide) ?_
      refine a_iadd dX11_burglarHas_25 ?_
      exact a_ireturn dX11_burglarHas_26 rfl rfl rfl (zdet_I (by unfold bgR; first | (rw [if_pos (by omega), if_pos (by omega)]; done) | (rw [if_pos (by omega), if_neg (by omega)]; done) | (rw [if_neg (by omega), if_pos (by omega)]; done) | (rw [if_neg (by omega), if_neg (by omega)]; done)) rfl)

set_option maxRecDepth 100000 in
set_option maxHeartbeats 4000000 in
theorem m_X11_houseHas {G : zG} {l : Launch} {L : Nat} {P : zP} {M : zM} {h b l9 : Int} (hP : PFok P) (hT : TxI M) (hh : 0 ≤ M 238 0 ∧ M 238 0 ≤ 9999) (rh : inR h) (rb : 0 ≤ b ∧ b ≤ 3) (rl : 0 ≤ l9 ∧ l9 ≤ 3) : AM G l yX11_houseHas mdX11_houseHas [aR 209, aI h, aI b, aI l9] (LAY L) P M (zdet (some (aI (hsR9 M h b l9))) (LAY L) P M) := by
  have q8 := snR01 M h l9
  refine AM.go [some (aR 209), some (aI h), some (aI b), some (aI l9)] rfl (Nat.le_of_ble_eq_true rfl) ?_ (by decide) rfl rfl
  refine a_iloadn dX11_houseHas_0 rfl ?_
  refine a_iloadn dX11_houseHas_1 rfl ?_
  refine a_icmp_ne (tgt := 9) dX11_houseHas_2 (by decide) ⟨by omega, by omega⟩ ⟨by omega, by omega⟩ (fun hb2 => ?_) (fun hb2 => ?_)
  · refine a_iconst dX11_houseHas_9 ?_
    refine a_aloadn dX11_houseHas_10 rfl ?_
    refine a_iloadn dX11_houseHas_11 rfl ?_
    refine a_iloadn dX11_houseHas_12 rfl ?_
    refine a_callV (as := [_, _]) (q := 209) dX11_houseHas_13 mvX11_476 ⟨by decide, by decide⟩ (L209 L) rfl rfl rfl (Nat.le_of_ble_eq_true rfl) ⟨rfl, rfl⟩ ⟨by decide, by decide⟩ (m_X11_sounds hP hT hh rh ⟨by omega, by omega⟩) ?_
    refine a_if_eq (tgt := 24) dX11_houseHas_16 (by decide) (by rcases q8 with z | z <;> exact ⟨by omega, by omega⟩) (fun hb16 => ?_) (fun hb16 => ?_)
    · refine a_iconst dX11_houseHas_24 ?_
      refine a_isub dX11_houseHas_25 ?_
      exact a_ireturn dX11_houseHas_26 rfl rfl rfl (zdet_I (by unfold hsR9; first | (rw [if_pos (by omega), if_pos (by omega)]; done) | (rw [if_pos (by omega), if_neg (by omega)]; done) | (rw [if_neg (by omega), if_pos (by omega)]; done) | (rw [if_neg (by omega), if_neg (by omega)]; done)) rfl)
    · refine a_bipush (w := 6) dX11_houseHas_19 (by decide) ?_
      refine a_goto (tgt := 25) dX11_houseHas_21 (by decide) ?_
      refine a_isub dX11_houseHas_25 ?_
      exact a_ireturn dX11_houseHas_26 rfl rfl rfl (zdet_I (by unfold hsR9; first | (rw [if_pos (by omega), if_pos (by omega)]; done) | (rw [if_pos (by omega), if_neg (by omega)]; done) | (rw [if_neg (by omega), if_pos (by omega)]; done) | (rw [if_neg (by omega), if_neg (by omega)]; done)) rfl)
  · refine a_iconst dX11_houseHas_5 ?_
    refine a_goto (tgt := 10) dX11_houseHas_6 (by decide) ?_
    refine a_aloadn dX11_houseHas_10 rfl ?_
    refine a_iloadn dX11_houseHas_11 rfl ?_
    refine a_iloadn dX11_houseHas_12 rfl ?_
    refine a_callV (as := [_, _]) (q := 209) dX11_houseHas_13 mvX11_476 ⟨by decide, by decide⟩ (L209 L) rfl rfl rfl (Nat.le_of_ble_eq_true rfl) ⟨rfl, rfl⟩ ⟨by decide, by decide⟩ (m_X11_sounds hP hT hh rh ⟨by omega, by omega⟩) ?_
    refine a_if_eq (tgt := 24) dX11_houseHas_16 (by decide) (by rcases q8 with z | z <;> exact ⟨by omega, by omega⟩) (fun hb16 => ?_) (fun hb16 => ?_)
    · refine a_iconst dX11_houseHas_24 ?_
      refine a_isub dX11_houseHas_25 ?_
      exact a_ireturn dX11_houseHas_26 rfl rfl rfl (zdet_I (by unfold hsR9; first | (rw [if_pos (by omega), if_pos (by omega)]; done) | (rw [if_pos (by omega), if_neg (by omega)]; done) | (rw [if_neg (by omega), if_pos (by omega)]; done) | (rw [if_neg (by omega), if_neg (by omega)]; done)) rfl)
    · refine a_bipush (w := 6) dX11_houseHas_19 (by decide) ?_
      refine a_goto (tgt := 25) dX11_houseHas_21 (by decide) ?_
      refine a_isub dX11_houseHas_25 ?_
      exact a_ireturn dX11_houseHas_26 rfl rfl rfl (zdet_I (by unfold hsR9; first | (rw [if_pos (by omega), if_pos (by omega)]; done) | (rw [if_pos (by omega), if_neg (by omega)]; done) | (rw [if_neg (by omega), if_pos (by omega)]; done) | (rw [if_neg (by omega), if_neg (by omega)]; done)) rfl)

set_option maxRecDepth 100000 in
set_option maxHeartbeats 4000000 in
theorem lpX11_restAt_in {G : zG} {l : Launch} {L : Nat} {P : zP} {M : zM} {h wd acc g b l9 : Int} {Z : zZ} (hP : PFok P) (hT : TxI M) (hh : 0 ≤ M 238 0 ∧ M 238 0 ≤ 9999) (rh : inR h) (rb : 0 ≤ b ∧ b ≤ 3) (rl : 0 ≤ l9 ∧ l9 ≤ 3) : ∀ (n : Nat) (k is : Int) (g0 : 0 ≤ k) (g1 : k + n = 4) (gi : is = 0 ∨ is = 1) (kk : AW G l mdX11_restAt Z 96 [some (aR 209), some (aI h), some (aI wd), some (aI acc), some (aI g), some (aI b), some (aI l9), some (aI (anF (rsR1 M h b l9) n k is)), none] [] (LAY L) P M 0 0), AW G l mdX11_restAt Z 30 [some (aR 209), some (aI h), some (aI wd), some (aI acc), some (aI g), some (aI b), some (aI l9), some (aI is), some (aI k)] [] (LAY L) P M 0 0 := by
  intro n
  induction n with
  | zero =>
    intro k is g0 g1 gi kk
    have b1 := bgR_in M h k l9
    have b2 := bgR_in M h b l9
    have b3 := hsR9_in M h b k
    have b4 := hsR9_in M h b l9
    refine a_iload dX11_restAt_30 rfl ?_
    refine a_iconst dX11_restAt_32 ?_
    refine a_icmp_ge (tgt := 96) dX11_restAt_33 (by decide) ⟨by omega, by omega⟩ ⟨by omega, by omega⟩ (fun hb33 => ?_) (fun hb33 => ?_)
    · refine a_forget [8] (ls' := [_, _, _, _, _, _, _, _, none]) rfl kk
    · exfalso; omega
  | succ n ih =>
    intro k is g0 g1 gi kk
    have b1 := bgR_in M h k l9
    have b2 := bgR_in M h b l9
    have b3 := hsR9_in M h b k
    have b4 := hsR9_in M h b l9
    refine a_iload dX11_restAt_30 rfl ?_
    refine a_iconst dX11_restAt_32 ?_
    refine a_icmp_ge (tgt := 96) dX11_restAt_33 (by decide) ⟨by omega, by omega⟩ ⟨by omega, by omega⟩ (fun hb33 => ?_) (fun hb33 => ?_)
    · exfalso; omega
    · refine a_iload dX11_restAt_36 rfl ?_
      refine a_if_eq (tgt := 87) dX11_restAt_38 (by decide) (by rcases gi with z | z <;> exact ⟨by omega, by omega⟩) (fun hb38 => ?_) (fun hb38 => ?_)
      · refine a_iconst dX11_restAt_87 ?_
        refine c_istore (ls' := [_, _, _, _, _, _, _, _, _]) dX11_restAt_88 (by decide) rfl rfl ?_
        refine c_iinc (ls' := [_, _, _, _, _, _, _, _, _]) dX11_restAt_90 rfl (by decide) rfl rfl ?_
        refine a_goto (tgt := 30) dX11_restAt_93 (by decide) ?_
        simp only [anF] at kk
        first
        | (have e9 : rsR1 M h b l9 k = 1 := by unfold rsR1; rw [if_pos (by omega)]
           rw [if_neg (by rw [e9]; decide), show is = 1 by omega] at kk
           exact ih _ _ (by omega) (by omega) (by omega) kk)
        | (have e9 : rsR1 M h b l9 k = 0 := by unfold rsR1; rw [if_neg (by omega)]
           rw [if_pos e9] at kk
           exact ih _ _ (by omega) (by omega) (by omega) kk)
        | (rw [show is = 0 by omega] at kk
           rw [show (if rsR1 M h b l9 k = 0 then (0 : Int) else 0) = 0 from by split <;> rfl] at kk
           exact ih _ _ (by omega) (by omega) (by omega) kk)
      · refine a_aloadn dX11_restAt_41 rfl ?_
        refine a_iloadn dX11_restAt_42 rfl ?_
        refine a_iload dX11_restAt_43 rfl ?_
        refine a_iload dX11_restAt_45 rfl ?_
        refine a_callV (as := [_, _, _]) (q := 209) dX11_restAt_47 mvX11_478 ⟨by decide, by decide⟩ (L209 L) rfl rfl rfl (Nat.le_of_ble_eq_true rfl) ⟨rfl, rfl⟩ ⟨by decide, by decide⟩ (m_X11_burglarHas hP hT hh rh (by omega) (by omega)) ?_
        refine a_aloadn dX11_restAt_50 rfl ?_
        refine a_iloadn dX11_restAt_51 rfl ?_
        refine a_iload dX11_restAt_52 rfl ?_
        refine a_iload dX11_restAt_54 rfl ?_
        refine a_callV (as := [_, _, _]) (q := 209) dX11_restAt_56 mvX11_478 ⟨by decide, by decide⟩ (L209 L) rfl rfl rfl (Nat.le_of_ble_eq_true rfl) ⟨rfl, rfl⟩ ⟨by decide, by decide⟩ (m_X11_burglarHas hP hT hh rh (by omega) (by omega)) ?_
        refine a_icmp_gt (tgt := 87) dX11_restAt_59 (by decide) ⟨by omega, by omega⟩ ⟨by omega, by omega⟩ (fun hb59 => ?_) (fun hb59 => ?_)
        · refine a_iconst dX11_restAt_87 ?_
          refine c_istore (ls' := [_, _, _, _, _, _, _, _, _]) dX11_restAt_88 (by decide) rfl rfl ?_
          refine c_iinc (ls' := [_, _, _, _, _, _, _, _, _]) dX11_restAt_90 rfl (by decide) rfl rfl ?_
          refine a_goto (tgt := 30) dX11_restAt_93 (by decide) ?_
          simp only [anF] at kk
          first
          | (have e9 : rsR1 M h b l9 k = 1 := by unfold rsR1; rw [if_pos (by omega)]
             rw [if_neg (by rw [e9]; decide), show is = 1 by omega] at kk
             exact ih _ _ (by omega) (by omega) (by omega) kk)
          | (have e9 : rsR1 M h b l9 k = 0 := by unfold rsR1; rw [if_neg (by omega)]
             rw [if_pos e9] at kk
             exact ih _ _ (by omega) (by omega) (by omega) kk)
          | (rw [show is = 0 by omega] at kk
             rw [show (if rsR1 M h b l9 k = 0 then (0 : Int) else 0) = 0 from by split <;> rfl] at kk
             exact ih _ _ (by omega) (by omega) (by omega) kk)
        · refine a_aloadn dX11_restAt_62 rfl ?_
          refine a_iloadn dX11_restAt_63 rfl ?_
          refine a_iload dX11_restAt_64 rfl ?_
          refine a_iload dX11_restAt_66 rfl ?_
          refine a_callV (as := [_, _, _]) (q := 209) dX11_restAt_68 mvX11_481 ⟨by decide, by decide⟩ (L209 L) rfl rfl rfl (Nat.le_of_ble_eq_true rfl) ⟨rfl, rfl⟩ ⟨by decide, by decide⟩ (m_X11_houseHas hP hT hh rh (by omega) (by omega)) ?_
          refine a_aloadn dX11_restAt_71 rfl ?_
          refine a_iloadn dX11_restAt_72 rfl ?_
          refine a_iload dX11_restAt_73 rfl ?_
          refine a_iload dX11_restAt_75 rfl ?_
          refine a_callV (as := [_, _, _]) (q := 209) dX11_restAt_77 mvX11_481 ⟨by decide, by decide⟩ (L209 L) rfl rfl rfl (Nat.le_of_ble_eq_true rfl) ⟨rfl, rfl⟩ ⟨by decide, by decide⟩ (m_X11_houseHas hP hT hh rh (by omega) (by omega)) ?_
          refine a_icmp_gt (tgt := 87) dX11_restAt_80 (by decide) ⟨by omega, by omega⟩ ⟨by omega, by omega⟩ (fun hb80 => ?_) (fun hb80 => ?_)
          · refine a_iconst dX11_restAt_87 ?_
            refine c_istore (ls' := [_, _, _, _, _, _, _, _, _]) dX11_restAt_88 (by decide) rfl rfl ?_
            refine c_iinc (ls' := [_, _, _, _, _, _, _, _, _]) dX11_restAt_90 rfl (by decide) rfl rfl ?_
            refine a_goto (tgt := 30) dX11_restAt_93 (by decide) ?_
            simp only [anF] at kk
            first
            | (have e9 : rsR1 M h b l9 k = 1 := by unfold rsR1; rw [if_pos (by omega)]
               rw [if_neg (by rw [e9]; decide), show is = 1 by omega] at kk
               exact ih _ _ (by omega) (by omega) (by omega) kk)
            | (have e9 : rsR1 M h b l9 k = 0 := by unfold rsR1; rw [if_neg (by omega)]
               rw [if_pos e9] at kk
               exact ih _ _ (by omega) (by omega) (by omega) kk)
            | (rw [show is = 0 by omega] at kk
               rw [show (if rsR1 M h b l9 k = 0 then (0 : Int) else 0) = 0 from by split <;> rfl] at kk
               exact ih _ _ (by omega) (by omega) (by omega) kk)
          · refine a_iconst dX11_restAt_83 ?_
            refine a_goto (tgt := 88) dX11_restAt_84 (by decide) ?_
            refine c_istore (ls' := [_, _, _, _, _, _, _, _, _]) dX11_restAt_88 (by decide) rfl rfl ?_
            refine c_iinc (ls' := [_, _, _, _, _, _, _, _, _]) dX11_restAt_90 rfl (by decide) rfl rfl ?_
            refine a_goto (tgt := 30) dX11_restAt_93 (by decide) ?_
            simp only [anF] at kk
            first
            | (have e9 : rsR1 M h b l9 k = 1 := by unfold rsR1; rw [if_pos (by omega)]
               rw [if_neg (by rw [e9]; decide), show is = 1 by omega] at kk
               exact ih _ _ (by omega) (by omega) (by omega) kk)
            | (have e9 : rsR1 M h b l9 k = 0 := by unfold rsR1; rw [if_neg (by omega)]
               rw [if_pos e9] at kk
               exact ih _ _ (by omega) (by omega) (by omega) kk)
            | (rw [show is = 0 by omega] at kk
               rw [show (if rsR1 M h b l9 k = 0 then (0 : Int) else 0) = 0 from by split <;> rfl] at kk
               exact ih _ _ (by omega) (by omega) (by omega) kk)

set_option maxRecDepth 100000 in
set_option maxHeartbeats 4000000 in
theorem lpX11_restAt {G : zG} {l : Launch} {L : Nat} {P : zP} {M : zM} {h wd : Int} (hP : PFok P) (hT : TxI M) (hh : 0 ≤ M 238 0 ∧ M 238 0 ≤ 9999) (rh : inR h) (rwd : inR wd) : ∀ (n : Nat) (g acc : Int) (g0 : 0 ≤ g) (g1 : g + n = 16) (ga : 0 ≤ acc ∧ acc ≤ g), AW G l mdX11_restAt (zone (LAY L) P M (fun r => r = raR (rsR M h) wd n g acc)) 5 [some (aR 209), some (aI h), some (aI wd), some (aI acc), some (aI g), none, none, none, none] [] (LAY L) P M 0 0 := by
  intro n
  induction n with
  | zero =>
    intro g acc g0 g1 ga
    refine a_iload dX11_restAt_5 rfl ?_
    refine a_bipush (w := 16) dX11_restAt_7 (by decide) ?_
    refine a_icmp_ge (tgt := 127) dX11_restAt_9 (by decide) ⟨by omega, by omega⟩ ⟨by omega, by omega⟩ (fun hb9 => ?_) (fun hb9 => ?_)
    · refine a_iloadn dX11_restAt_127 rfl ?_
      refine a_if_ge (tgt := 135) dX11_restAt_128 (by decide) ⟨by omega, by omega⟩ (fun hb128 => ?_) (fun hb128 => ?_)
      · refine a_bipush (w := (-2)) dX11_restAt_135 (by decide) ?_
        exact a_ireturn dX11_restAt_137 rfl rfl rfl (zone_i (by simp only [raR]; first | (rw [if_pos (by omega)]; done) | (rw [if_neg (by omega)]; done)))
      · refine a_iloadn dX11_restAt_131 rfl ?_
        refine a_goto (tgt := 137) dX11_restAt_132 (by decide) ?_
        exact a_ireturn dX11_restAt_137 rfl rfl rfl (zone_i (by simp only [raR]; first | (rw [if_pos (by omega)]; done) | (rw [if_neg (by omega)]; done)))
    · exfalso; omega
  | succ n ih =>
    intro g acc g0 g1 ga
    refine a_iload dX11_restAt_5 rfl ?_
    refine a_bipush (w := 16) dX11_restAt_7 (by decide) ?_
    refine a_icmp_ge (tgt := 127) dX11_restAt_9 (by decide) ⟨by omega, by omega⟩ ⟨by omega, by omega⟩ (fun hb9 => ?_) (fun hb9 => ?_)
    · exfalso; omega
    · have t1 : g.tmod 4 = g % 4 := Int.tmod_eq_emod_of_nonneg (by omega)
      have t2 : g.tdiv 4 = g / 4 := Int.tdiv_eq_ediv_of_nonneg (by omega)
      refine a_iload dX11_restAt_12 rfl ?_
      refine a_iconst dX11_restAt_14 ?_
      refine a_idiv dX11_restAt_15 ⟨by omega, by omega⟩ ⟨by omega, by omega⟩ (by omega) (by omega) ?_
      refine c_istore (ls' := [_, _, _, _, _, _, _, _, _]) dX11_restAt_16 (by decide) rfl rfl ?_
      refine a_iload dX11_restAt_18 rfl ?_
      refine a_iconst dX11_restAt_20 ?_
      refine a_irem dX11_restAt_21 ⟨by omega, by omega⟩ ⟨by omega, by omega⟩ (by omega) (by omega) ?_
      refine c_istore (ls' := [_, _, _, _, _, _, _, _, _]) dX11_restAt_22 (by decide) rfl rfl ?_
      refine a_iconst dX11_restAt_24 ?_
      refine c_istore (ls' := [_, _, _, _, _, _, _, _, _]) dX11_restAt_25 (by decide) rfl rfl ?_
      refine a_iconst dX11_restAt_27 ?_
      refine c_istore (ls' := [_, _, _, _, _, _, _, _, _]) dX11_restAt_28 (by decide) rfl rfl ?_
      refine lpX11_restAt_in hP hT hh rh (by omega) (by omega) 4 0 1 (by omega) (by omega) (Or.inr rfl) ?_
      rw [(anF_zall _ _ _).1]
      have z01 := zall01 (rsR1 M h (g.tdiv 4) (g.tmod 4)) 4 0
      obtain ⟨v, ev⟩ : ∃ v, v = zall (rsR1 M h (g.tdiv 4) (g.tmod 4)) 4 0 := ⟨_, rfl⟩
      rw [← ev] at z01 ⊢
      have er : rsR M h g = v := ev.symm
      refine a_iload dX11_restAt_96 rfl ?_
      refine a_if_ne (tgt := 104) dX11_restAt_98 (by decide) (by rcases z01 with z | z <;> exact ⟨by omega, by omega⟩) (fun hb98 => ?_) (fun hb98 => ?_)
      · refine a_iloadn dX11_restAt_104 rfl ?_
        refine a_iloadn dX11_restAt_105 rfl ?_
        refine a_icmp_ne (tgt := 118) dX11_restAt_106 (by decide) ⟨by omega, by omega⟩ rwd (fun hb106 => ?_) (fun hb106 => ?_)
        · refine c_iinc (ls' := [_, _, _, _, _, _, _, _, _]) dX11_restAt_118 rfl (by decide) rfl rfl ?_
          refine c_iinc (ls' := [_, _, _, _, _, _, _, _, _]) dX11_restAt_121 rfl (by decide) rfl rfl ?_
          refine a_goto (tgt := 5) dX11_restAt_124 (by decide) ?_
          refine a_forget [5, 6, 7] (ls' := [_, _, _, _, _, none, none, none, none]) rfl ?_
          simp only [raR]
          rw [if_neg (by omega), if_neg (by omega)]
          exact ih _ _ (by omega) (by omega) (by omega)
        · refine a_bipush (w := 10) dX11_restAt_109 (by decide) ?_
          refine a_iload dX11_restAt_111 rfl ?_
          refine a_imul dX11_restAt_113 ?_
          refine a_iload dX11_restAt_114 rfl ?_
          refine a_iadd dX11_restAt_116 ?_
          exact a_ireturn dX11_restAt_117 rfl rfl rfl (zone_i (by simp only [raR]; rw [if_neg (by omega), if_pos (by omega)]))
      · refine a_goto (tgt := 121) dX11_restAt_101 (by decide) ?_
        refine c_iinc (ls' := [_, _, _, _, _, _, _, _, _]) dX11_restAt_121 rfl (by decide) rfl rfl ?_
        refine a_goto (tgt := 5) dX11_restAt_124 (by decide) ?_
        refine a_forget [5, 6, 7] (ls' := [_, _, _, _, _, none, none, none, none]) rfl ?_
        simp only [raR]
        rw [if_pos (by omega)]
        exact ih _ _ (by omega) (by omega) (by omega)

set_option maxRecDepth 100000 in
set_option maxHeartbeats 4000000 in
theorem m_X11_restAt {G : zG} {l : Launch} {L : Nat} {P : zP} {M : zM} {h wd : Int} (hP : PFok P) (hT : TxI M) (hh : 0 ≤ M 238 0 ∧ M 238 0 ≤ 9999) (rh : inR h) (rwd : inR wd) : AM G l yX11_restAt mdX11_restAt [aR 209, aI h, aI wd] (LAY L) P M (zone (LAY L) P M (fun r => r = raR (rsR M h) wd 16 0 0)) := by
  refine AM.go [some (aR 209), some (aI h), some (aI wd), none, none, none, none, none, none] rfl (Nat.le_of_ble_eq_true rfl) ?_ (by decide) rfl rfl
  refine a_iconst dX11_restAt_0 ?_
  refine c_istoren (ls' := [_, _, _, _, _, _, _, _, _]) dX11_restAt_1 (by decide) rfl rfl ?_
  refine a_iconst dX11_restAt_2 ?_
  refine c_istore (ls' := [_, _, _, _, _, _, _, _, _]) dX11_restAt_3 (by decide) rfl rfl ?_
  exact lpX11_restAt hP hT hh rh rwd 16 0 0 (by omega) (by omega) (by omega)

set_option maxRecDepth 100000 in
set_option maxHeartbeats 4000000 in
theorem m_X11_rests {G : zG} {l : Launch} {L : Nat} {P : zP} {M : zM} {h : Int} (hv : RV P M) (rh : inR h) : AM G l yX11_rests mdX11_rests [aR 209, aI h] (LAY L) P M (zany (LAY L) P (fun r M' => Rn M M' ∧ r = if 0 ≤ h ∧ h < M 209 12 then raR (rsR M h) (-1) 16 0 0 else -1)) := by
  have hP := hv.1
  have q0 := hv.2.1.1.1.1
  refine AM.go [some (aR 209), some (aI h)] rfl (Nat.le_of_ble_eq_true rfl) ?_ (by decide) rfl rfl
  refine a_aloadn dX11_rests_0 rfl ?_
  refine a_iconst dX11_rests_1 ?_
  refine a_putI (j' := 2) dX11_rests_2 flX11_124 rfl rfl (L209 L) (by decide) rfl ⟨by omega, by omega⟩ ?_
  obtain ⟨Mt, hMt⟩ : ∃ Mt, Mt = sm M 209 2 0 := ⟨_, rfl⟩
  rw [← hMt]
  obtain ⟨hvt, hnt, e12, eT⟩ := th_all hv hMt
  refine a_aloadn dX11_rests_5 rfl ?_
  refine a_iloadn dX11_rests_6 rfl ?_
  refine a_oneV (as := [_]) (q := 209) dX11_rests_7 mvX11_352 ⟨by decide, by decide⟩ (L209 L) rfl rfl rfl (Nat.le_of_ble_eq_true rfl) ⟨rfl, rfl⟩ ⟨by decide, by decide⟩ (m_isHouse1 (x := h) rh) (fun x7 hx7 => ?_)
  refine a_if_eq (tgt := 22) dX11_rests_10 (by decide) ⟨by omega, by omega⟩ (fun hb10 => ?_) (fun hb10 => ?_)
  · refine a_iconst dX11_rests_22 ?_
    exact a_ireturn dX11_rests_23 rfl rfl rfl (by first | exact zany_i ⟨hnt, by rw [if_neg (by omega)]⟩ | exact zany_i ⟨hnt, by rw [if_pos (by omega), hx9, hnt.1.rs]⟩)
  · refine a_aloadn dX11_rests_13 rfl ?_
    refine a_iloadn dX11_rests_14 rfl ?_
    refine a_iconst dX11_rests_15 ?_
    refine a_oneV (as := [_, _]) (q := 209) dX11_rests_16 mvX11_484 ⟨by decide, by decide⟩ (L209 L) rfl rfl rfl (Nat.le_of_ble_eq_true rfl) ⟨rfl, rfl⟩ ⟨by decide, by decide⟩ (m_X11_restAt hP hvt.2.1.1.1 hvt.2.1.1.2.2.1.2.2.2 rh ⟨by omega, by omega⟩) (fun x9 hx9 => ?_)
    refine a_goto (tgt := 23) dX11_rests_19 (by decide) ?_
    exact a_ireturn dX11_rests_23 rfl rfl rfl (by first | exact zany_i ⟨hnt, by rw [if_neg (by omega)]⟩ | exact zany_i ⟨hnt, by rw [if_pos (by omega), hx9, hnt.1.rs]⟩)

set_option maxRecDepth 100000 in
set_option maxHeartbeats 4000000 in
theorem m_X11_rest {G : zG} {l : Launch} {L : Nat} {P : zP} {M : zM} {h k : Int} (hv : RV P M) (rh : inR h) (rk : inR k) : AM G l yX11_rest mdX11_rest [aR 209, aI h, aI k] (LAY L) P M (zany (LAY L) P (fun r M' => Rn M M' ∧ r = if 0 ≤ h ∧ h < M 209 12 ∧ 0 ≤ k then raR (rsR M h) k 16 0 0 else -1)) := by
  have hP := hv.1
  have q0 := hv.2.1.1.1.1
  refine AM.go [some (aR 209), some (aI h), some (aI k)] rfl (Nat.le_of_ble_eq_true rfl) ?_ (by decide) rfl rfl
  refine a_aloadn dX11_rest_0 rfl ?_
  refine a_iconst dX11_rest_1 ?_
  refine a_putI (j' := 2) dX11_rest_2 flX11_124 rfl rfl (L209 L) (by decide) rfl ⟨by omega, by omega⟩ ?_
  obtain ⟨Mt, hMt⟩ : ∃ Mt, Mt = sm M 209 2 0 := ⟨_, rfl⟩
  rw [← hMt]
  obtain ⟨hvt, hnt, e12, eT⟩ := th_all hv hMt
  refine a_aloadn dX11_rest_5 rfl ?_
  refine a_iloadn dX11_rest_6 rfl ?_
  refine a_oneV (as := [_]) (q := 209) dX11_rest_7 mvX11_352 ⟨by decide, by decide⟩ (L209 L) rfl rfl rfl (Nat.le_of_ble_eq_true rfl) ⟨rfl, rfl⟩ ⟨by decide, by decide⟩ (m_isHouse1 (x := h) rh) (fun x7 hx7 => ?_)
  refine a_if_eq (tgt := 26) dX11_rest_10 (by decide) ⟨by omega, by omega⟩ (fun hb10 => ?_) (fun hb10 => ?_)
  · refine a_iconst dX11_rest_26 ?_
    exact a_ireturn dX11_rest_27 rfl rfl rfl (by first | exact zany_i ⟨hnt, by rw [if_neg (by omega)]⟩ | exact zany_i ⟨hnt, by rw [if_pos (by omega), hx9, hnt.1.rs]⟩)
  · refine a_iloadn dX11_rest_13 rfl ?_
    refine a_if_lt (tgt := 26) dX11_rest_14 (by decide) ⟨by omega, by omega⟩ (fun hb14 => ?_) (fun hb14 => ?_)
    · refine a_iconst dX11_rest_26 ?_
      exact a_ireturn dX11_rest_27 rfl rfl rfl (by first | exact zany_i ⟨hnt, by rw [if_neg (by omega)]⟩ | exact zany_i ⟨hnt, by rw [if_pos (by omega), hx9, hnt.1.rs]⟩)
    · refine a_aloadn dX11_rest_17 rfl ?_
      refine a_iloadn dX11_rest_18 rfl ?_
      refine a_iloadn dX11_rest_19 rfl ?_
      refine a_oneV (as := [_, _]) (q := 209) dX11_rest_20 mvX11_484 ⟨by decide, by decide⟩ (L209 L) rfl rfl rfl (Nat.le_of_ble_eq_true rfl) ⟨rfl, rfl⟩ ⟨by decide, by decide⟩ (m_X11_restAt hP hvt.2.1.1.1 hvt.2.1.1.2.2.1.2.2.2 rh ⟨by omega, by omega⟩) (fun x9 hx9 => ?_)
      refine a_goto (tgt := 27) dX11_rest_23 (by decide) ?_
      exact a_ireturn dX11_rest_27 rfl rfl rfl (by first | exact zany_i ⟨hnt, by rw [if_neg (by omega)]⟩ | exact zany_i ⟨hnt, by rw [if_pos (by omega), hx9, hnt.1.rs]⟩)

set_option maxRecDepth 100000 in
set_option maxHeartbeats 4000000 in
theorem lpX11_alone {G : zG} {l : Launch} {L : Nat} {P : zP} {M0 : zM} (hP : PFok P) (hi : RI M0 0) : ∀ (n : Nat) (h acc : Int) (M : zM) (g0 : 0 ≤ h) (g1 : h + n = M0 209 12) (hE : Es M0 M) (ga : inR acc), AW G l mdX11_alone (zany (LAY L) P (fun r M' => Es M0 M' ∧ r = zbits (fun h => if b_ior (hbR M0 0 h) (hoR M0 0 h) = 0 then 1 else 0) n h acc)) 13 [some (aR 209), some (aI acc), some (aI h)] [] (LAY L) P M 0 0 := by
  intro n
  induction n with
  | zero =>
    intro h acc M g0 g1 hE ga
    have q1 := hi.1.1
    refine a_iloadn dX11_alone_13 rfl ?_
    refine a_aloadn dX11_alone_14 rfl ?_
    refine b_getI (j' := 12) dX11_alone_15 flX11_201 rfl rfl (L209 L) (fun hr15 => ?_)
    have e8 : M 209 12 = M0 209 12 := hE _ _ (by decide) (by decide) (by omega)
    rw [e8] at hr15
    rw [e8]
    refine a_icmp_ge (tgt := 53) dX11_alone_18 (by decide) ⟨by omega, by omega⟩ ⟨by omega, by omega⟩ (fun hb18 => ?_) (fun hb18 => ?_)
    · refine a_iloadn dX11_alone_53 rfl ?_
      exact a_ireturn dX11_alone_54 rfl rfl rfl (zany_i ⟨hE, rfl⟩)
    · exfalso; omega
  | succ n ih =>
    intro h acc M g0 g1 hE ga
    have q1 := hi.1.1
    refine a_iloadn dX11_alone_13 rfl ?_
    refine a_aloadn dX11_alone_14 rfl ?_
    refine b_getI (j' := 12) dX11_alone_15 flX11_201 rfl rfl (L209 L) (fun hr15 => ?_)
    have e8 : M 209 12 = M0 209 12 := hE _ _ (by decide) (by decide) (by omega)
    rw [e8] at hr15
    rw [e8]
    refine a_icmp_ge (tgt := 53) dX11_alone_18 (by decide) ⟨by omega, by omega⟩ ⟨by omega, by omega⟩ (fun hb18 => ?_) (fun hb18 => ?_)
    · exfalso; omega
    · refine a_iloadn dX11_alone_21 rfl ?_
      refine a_aloadn dX11_alone_22 rfl ?_
      refine a_iconst dX11_alone_23 ?_
      refine a_iloadn dX11_alone_24 rfl ?_
      refine a_anyV (as := [_, _]) (q := 209) dX11_alone_25 mvX11_403 ⟨by decide, by decide⟩ (L209 L) rfl rfl rfl (Nat.le_of_ble_eq_true rfl) ⟨rfl, rfl⟩ ⟨by decide, by decide⟩ (m_X11_heardBy hP (Or.inl rfl) (hE.ri hi) ⟨by omega, by omega⟩) (fun x25 M1 hM1 => ?_)
      have hE2 := hE.tr hM1.1
      have ex1 : x25 = hbR M0 0 h := by rw [hM1.2, hE.hb]
      refine a_aloadn dX11_alone_28 rfl ?_
      refine a_iconst dX11_alone_29 ?_
      refine a_iloadn dX11_alone_30 rfl ?_
      refine a_anyV (as := [_, _]) (q := 209) dX11_alone_31 mvX11_406 ⟨by decide, by decide⟩ (L209 L) rfl rfl rfl (Nat.le_of_ble_eq_true rfl) ⟨rfl, rfl⟩ ⟨by decide, by decide⟩ (m_X11_hearing hP (Or.inl rfl) (hE2.ri hi) ⟨by omega, by omega⟩) (fun x31 M2 hM2 => ?_)
      have hE3 := hE2.tr hM2.1
      have ex2 : x31 = hoR M0 0 h := by rw [hM2.2, hE2.ho]
      refine a_ior dX11_alone_34 ?_
      rw [ex1, ex2]
      refine a_if_ne (tgt := 44) dX11_alone_35 (by decide) (ir _) (fun hb35 => ?_) (fun hb35 => ?_)
      · refine a_iconst dX11_alone_44 ?_
        refine a_ior dX11_alone_45 ?_
        refine c_istoren (ls' := [_, _, _]) dX11_alone_46 (by decide) rfl rfl ?_
        refine c_iinc (ls' := [_, _, _]) dX11_alone_47 rfl (by decide) rfl rfl ?_
        refine a_goto (tgt := 13) dX11_alone_50 (by decide) ?_
        simp only [zbits]
        first
        | (rw [if_neg (by rw [if_pos (by omega)]; decide)]; exact ih _ _ _ (by omega) (by omega) hE3 (ir _))
        | (rw [if_pos (by rw [if_neg (by omega)]), show b_ior acc 0 = acc from ior0 ga]; exact ih _ _ _ (by omega) (by omega) hE3 ga)
      · refine a_iconst dX11_alone_38 ?_
        refine a_iloadn dX11_alone_39 rfl ?_
        refine a_ishl dX11_alone_40 ?_
        refine a_goto (tgt := 45) dX11_alone_41 (by decide) ?_
        refine a_ior dX11_alone_45 ?_
        refine c_istoren (ls' := [_, _, _]) dX11_alone_46 (by decide) rfl rfl ?_
        refine c_iinc (ls' := [_, _, _]) dX11_alone_47 rfl (by decide) rfl rfl ?_
        refine a_goto (tgt := 13) dX11_alone_50 (by decide) ?_
        simp only [zbits]
        first
        | (rw [if_neg (by rw [if_pos (by omega)]; decide)]; exact ih _ _ _ (by omega) (by omega) hE3 (ir _))
        | (rw [if_pos (by rw [if_neg (by omega)]), show b_ior acc 0 = acc from ior0 ga]; exact ih _ _ _ (by omega) (by omega) hE3 ga)

set_option maxRecDepth 100000 in
set_option maxHeartbeats 4000000 in
theorem m_X11_alone {G : zG} {l : Launch} {L : Nat} {P : zP} {M : zM}  (hv : RV P M) : AM G l yX11_alone mdX11_alone [aR 209] (LAY L) P M (zany (LAY L) P (fun r M' => Rn M M' ∧ ∃ Mb, Pb M Mb ∧ r = zbits (fun h => if b_ior (hbR Mb 0 h) (hoR Mb 0 h) = 0 then 1 else 0) (M 209 12).toNat 0 0)) := by
  have hP := hv.1
  have q0 := hv.2.1.1.1.1
  refine AM.go [some (aR 209), none, none] rfl (Nat.le_of_ble_eq_true rfl) ?_ (by decide) rfl rfl
  refine a_aloadn dX11_alone_0 rfl ?_
  refine a_iconst dX11_alone_1 ?_
  refine a_putI (j' := 2) dX11_alone_2 flX11_124 rfl rfl (L209 L) (by decide) rfl ⟨by omega, by omega⟩ ?_
  obtain ⟨Mt, hMt⟩ : ∃ Mt, Mt = sm M 209 2 0 := ⟨_, rfl⟩
  rw [← hMt]
  obtain ⟨hvt, hnt, e12, eT⟩ := th_all hv hMt
  refine a_aloadn dX11_alone_5 rfl ?_
  refine a_callVv (as := []) (q := 209) dX11_alone_6 mvX11_322 ⟨by decide, by decide⟩ (L209 L) rfl rfl rfl (Nat.le_of_ble_eq_true rfl) ⟨rfl, rfl⟩ ⟨by decide, by decide⟩ (m_X11_plainTried hP) ?_
  have hpb := ptM_pb hnt
  have hnp := hpb.rn hv
  have hvp := hnp.rv hv
  obtain ⟨Mb, hMb⟩ : ∃ Mb, Mb = ptM Mt := ⟨_, rfl⟩
  rw [← hMb] at hpb hnp hvp ⊢
  have q12 : Mb 209 12 = M 209 12 := hnp.1 209 12 (by omega)
  refine a_iconst dX11_alone_9 ?_
  refine c_istoren (ls' := [_, _, _]) dX11_alone_10 (by decide) rfl rfl ?_
  refine a_iconst dX11_alone_11 ?_
  refine c_istoren (ls' := [_, _, _]) dX11_alone_12 (by decide) rfl rfl ?_
  refine AW.mono2 (lpX11_alone hP hvp.2.1.1 (M 209 12).toNat 0 0 Mb (by omega) (by omega) (Es.rf Mb) ⟨by omega, by omega⟩) ?_
  rintro r lay P' M' ⟨z1, z2, x, z3, z4, z5⟩
  exact ⟨z1, z2, x, z3, hnp.es z4, Mb, hpb, z5⟩

def soR (M : zM) (h : Int) : Int := zsm (fun j => if M 220 j = h then 1 else 0) (M 209 14).toNat 0 0
theorem soR_in {M : zM} (hI : TxI M) (h : Int) : 0 ≤ soR M h ∧ soR M h ≤ 12 := by
  have q := hI.2.2.1
  have := zsm01 (fun j => M 220 j = h) (M 209 14).toNat 0 0
  unfold soR
  omega
theorem Rq.so {M0 M : zM} (h : Rq M0 M) : soR M = soR M0 := by
  unfold soR
  rw [h.row (k := 220) (by omega), h 209 14 (by omega)]

set_option maxRecDepth 100000 in
set_option maxHeartbeats 4000000 in
theorem lpX11_loudest_in {G : zG} {l : Launch} {L : Nat} {P : zP} {M : zM} {best most h : Int} {Z : zZ} (hP : PFok P) (hT : TxI M) (rh : inR h) : ∀ (n : Nat) (j acc : Int) (g0 : 0 ≤ j) (g1 : j + n = M 209 14) (kk : AW G l mdX11_loudest Z 62 [some (aR 209), some (aI best), some (aI most), some (aI h), some (aI (zsm (fun j => if M 220 j = h then 1 else 0) n j acc)), none] [] (LAY L) P M 0 0), AW G l mdX11_loudest Z 26 [some (aR 209), some (aI best), some (aI most), some (aI h), some (aI acc), some (aI j)] [] (LAY L) P M 0 0 := by
  intro n
  induction n with
  | zero =>
    intro j acc g0 g1 kk
    have q5 := hT.2.2.1
    refine a_iload dX11_loudest_26 rfl ?_
    refine a_aloadn dX11_loudest_28 rfl ?_
    refine b_getI (j' := 14) dX11_loudest_29 flX11_207 rfl rfl (L209 L) (fun hr29 => ?_)
    refine a_icmp_ge (tgt := 62) dX11_loudest_32 (by decide) ⟨by omega, by omega⟩ ⟨by omega, by omega⟩ (fun hb32 => ?_) (fun hb32 => ?_)
    · refine a_forget [5] (ls' := [_, _, _, _, _, none]) rfl kk
    · exfalso; omega
  | succ n ih =>
    intro j acc g0 g1 kk
    have q5 := hT.2.2.1
    refine a_iload dX11_loudest_26 rfl ?_
    refine a_aloadn dX11_loudest_28 rfl ?_
    refine b_getI (j' := 14) dX11_loudest_29 flX11_207 rfl rfl (L209 L) (fun hr29 => ?_)
    refine a_icmp_ge (tgt := 62) dX11_loudest_32 (by decide) ⟨by omega, by omega⟩ ⟨by omega, by omega⟩ (fun hb32 => ?_) (fun hb32 => ?_)
    · exfalso; omega
    · refine a_iload dX11_loudest_35 rfl ?_
      refine a_aloadn dX11_loudest_37 rfl ?_
      refine a_getR (j' := 28) (y := 220) dX11_loudest_38 flX11_45 rfl rfl (L209 L) (p209_28 hP) ?_
      refine a_iload dX11_loudest_41 rfl ?_
      refine b_iald (N := 24) dX11_loudest_43 (L220 L) (by decide) (by omega) (by omega) (fun hr43 => ?_)
      refine a_iloadn dX11_loudest_44 rfl ?_
      refine a_icmp_ne (tgt := 52) dX11_loudest_45 (by decide) hr43 rh (fun hb45 => ?_) (fun hb45 => ?_)
      · refine a_iconst dX11_loudest_52 ?_
        refine a_iadd dX11_loudest_53 ?_
        refine c_istore (ls' := [_, _, _, _, _, _]) dX11_loudest_54 (by decide) rfl rfl ?_
        refine c_iinc (ls' := [_, _, _, _, _, _]) dX11_loudest_56 rfl (by decide) rfl rfl ?_
        refine a_goto (tgt := 26) dX11_loudest_59 (by decide) ?_
        simp only [zsm] at kk
        first
        | (rw [if_pos (by omega)] at kk; exact ih _ _ (by omega) (by omega) kk)
        | (rw [if_neg (by omega)] at kk; exact ih _ _ (by omega) (by omega) kk)
      · refine a_iconst dX11_loudest_48 ?_
        refine a_goto (tgt := 53) dX11_loudest_49 (by decide) ?_
        refine a_iadd dX11_loudest_53 ?_
        refine c_istore (ls' := [_, _, _, _, _, _]) dX11_loudest_54 (by decide) rfl rfl ?_
        refine c_iinc (ls' := [_, _, _, _, _, _]) dX11_loudest_56 rfl (by decide) rfl rfl ?_
        refine a_goto (tgt := 26) dX11_loudest_59 (by decide) ?_
        simp only [zsm] at kk
        first
        | (rw [if_pos (by omega)] at kk; exact ih _ _ (by omega) (by omega) kk)
        | (rw [if_neg (by omega)] at kk; exact ih _ _ (by omega) (by omega) kk)

set_option maxRecDepth 100000 in
set_option maxHeartbeats 4000000 in
theorem tlX11_loudest {G : zG} {l : Launch} {L : Nat} {P : zP} {M : zM} {best most h v : Int} {Z : zZ} (hP : PFok P) (rv : 0 ≤ v ∧ v ≤ 12) (rm : 0 ≤ most ∧ most ≤ 12) (k1 : most < v → AW G l mdX11_loudest Z 12 [some (aR 209), some (aI h), some (aI v), some (aI (h + 1)), none, none] [] (LAY L) P M 0 0) (k2 : ¬ most < v → AW G l mdX11_loudest Z 12 [some (aR 209), some (aI best), some (aI most), some (aI (h + 1)), none, none] [] (LAY L) P M 0 0) : AW G l mdX11_loudest Z 62 [some (aR 209), some (aI best), some (aI most), some (aI h), some (aI v), none] [] (LAY L) P M 0 0 := by
  refine a_iload dX11_loudest_62 rfl ?_
  refine a_iloadn dX11_loudest_64 rfl ?_
  refine a_icmp_gt (tgt := 71) dX11_loudest_65 (by decide) ⟨by omega, by omega⟩ ⟨by omega, by omega⟩ (fun hb65 => ?_) (fun hb65 => ?_)
  · refine a_iloadn dX11_loudest_71 rfl ?_
    refine c_istoren (ls' := [_, _, _, _, _, _]) dX11_loudest_72 (by decide) rfl rfl ?_
    refine a_iload dX11_loudest_73 rfl ?_
    refine c_istoren (ls' := [_, _, _, _, _, _]) dX11_loudest_75 (by decide) rfl rfl ?_
    refine c_iinc (ls' := [_, _, _, _, _, _]) dX11_loudest_76 rfl (by decide) rfl rfl ?_
    refine a_goto (tgt := 12) dX11_loudest_79 (by decide) ?_
    refine a_forget [4] (ls' := [_, _, _, _, none, none]) rfl ?_
    first
    | exact k1 (by omega)
    | exact k2 (by omega)
  · refine a_goto (tgt := 76) dX11_loudest_68 (by decide) ?_
    refine c_iinc (ls' := [_, _, _, _, _, _]) dX11_loudest_76 rfl (by decide) rfl rfl ?_
    refine a_goto (tgt := 12) dX11_loudest_79 (by decide) ?_
    refine a_forget [4] (ls' := [_, _, _, _, none, none]) rfl ?_
    first
    | exact k1 (by omega)
    | exact k2 (by omega)

set_option maxRecDepth 100000 in
set_option maxHeartbeats 4000000 in
theorem lpX11_loudest {G : zG} {l : Launch} {L : Nat} {P : zP} {M : zM} (hP : PFok P) (hT : TxI M) : ∀ (n : Nat) (h best most : Int) (g0 : 0 ≤ h) (g1 : h + n = M 209 12) (gm : 0 ≤ most ∧ most ≤ 12), AW G l mdX11_loudest (zone (LAY L) P M (fun r => r = ldF (soR M) n h best most)) 12 [some (aR 209), some (aI best), some (aI most), some (aI h), none, none] [] (LAY L) P M 0 0 := by
  intro n
  induction n with
  | zero =>
    intro h best most g0 g1 gm
    have q4 := hT.1
    have q5 := hT.2.2.1
    refine a_iloadn dX11_loudest_12 rfl ?_
    refine a_aloadn dX11_loudest_13 rfl ?_
    refine b_getI (j' := 12) dX11_loudest_14 flX11_201 rfl rfl (L209 L) (fun hr14 => ?_)
    refine a_icmp_ge (tgt := 82) dX11_loudest_17 (by decide) ⟨by omega, by omega⟩ ⟨by omega, by omega⟩ (fun hb17 => ?_) (fun hb17 => ?_)
    · refine a_iloadn dX11_loudest_82 rfl ?_
      exact a_ireturn dX11_loudest_83 rfl rfl rfl (zone_i rfl)
    · exfalso; omega
  | succ n ih =>
    intro h best most g0 g1 gm
    have q4 := hT.1
    have q5 := hT.2.2.1
    refine a_iloadn dX11_loudest_12 rfl ?_
    refine a_aloadn dX11_loudest_13 rfl ?_
    refine b_getI (j' := 12) dX11_loudest_14 flX11_201 rfl rfl (L209 L) (fun hr14 => ?_)
    refine a_icmp_ge (tgt := 82) dX11_loudest_17 (by decide) ⟨by omega, by omega⟩ ⟨by omega, by omega⟩ (fun hb17 => ?_) (fun hb17 => ?_)
    · exfalso; omega
    · refine a_iconst dX11_loudest_20 ?_
      refine c_istore (ls' := [_, _, _, _, _, _]) dX11_loudest_21 (by decide) rfl rfl ?_
      refine a_iconst dX11_loudest_23 ?_
      refine c_istore (ls' := [_, _, _, _, _, _]) dX11_loudest_24 (by decide) rfl rfl ?_
      refine lpX11_loudest_in hP hT ⟨by omega, by omega⟩ (M 209 14).toNat 0 0 (by omega) (by omega) ?_
      have q3 := soR_in hT h
      refine tlX11_loudest (v := soR M h) hP q3 gm (fun c => ?_) (fun c => ?_)
      · have e9 : ldF (soR M) (n + 1) h best most = ldF (soR M) n (h + 1) h (soR M h) := by simp only [ldF]; rw [if_pos c]
        rw [e9]; exact ih _ _ _ (by omega) (by omega) q3
      · have e9 : ldF (soR M) (n + 1) h best most = ldF (soR M) n (h + 1) best most := by simp only [ldF]; rw [if_neg c]
        rw [e9]; exact ih _ _ _ (by omega) (by omega) gm

set_option maxRecDepth 100000 in
set_option maxHeartbeats 4000000 in
theorem m_X11_loudest {G : zG} {l : Launch} {L : Nat} {P : zP} {M : zM}  (hv : RV P M) : AM G l yX11_loudest mdX11_loudest [aR 209] (LAY L) P M (zany (LAY L) P (fun r M' => Rn M M' ∧ r = ldF (soR M) (M 209 12).toNat 0 (-2) 0)) := by
  have hP := hv.1
  have q0 := hv.2.1.1.1.1
  refine AM.go [some (aR 209), none, none, none, none, none] rfl (Nat.le_of_ble_eq_true rfl) ?_ (by decide) rfl rfl
  refine a_aloadn dX11_loudest_0 rfl ?_
  refine a_iconst dX11_loudest_1 ?_
  refine a_putI (j' := 2) dX11_loudest_2 flX11_124 rfl rfl (L209 L) (by decide) rfl ⟨by omega, by omega⟩ ?_
  obtain ⟨Mt, hMt⟩ : ∃ Mt, Mt = sm M 209 2 0 := ⟨_, rfl⟩
  rw [← hMt]
  obtain ⟨hvt, hnt, e12, eT⟩ := th_all hv hMt
  refine a_bipush (w := (-2)) dX11_loudest_5 (by decide) ?_
  refine c_istoren (ls' := [_, _, _, _, _, _]) dX11_loudest_7 (by decide) rfl rfl ?_
  refine a_iconst dX11_loudest_8 ?_
  refine c_istoren (ls' := [_, _, _, _, _, _]) dX11_loudest_9 (by decide) rfl rfl ?_
  refine a_iconst dX11_loudest_10 ?_
  refine c_istoren (ls' := [_, _, _, _, _, _]) dX11_loudest_11 (by decide) rfl rfl ?_
  refine AW.mono2 (lpX11_loudest hP hvt.2.1.1.1 (M 209 12).toNat 0 (-2) 0 (by omega) (by omega) (by omega)) ?_
  rintro r lay P' M' ⟨z1, z2, rfl, x, z3, z4⟩
  exact ⟨z1, z2, x, z3, hnt, by rw [z4, hnt.1.so]⟩
