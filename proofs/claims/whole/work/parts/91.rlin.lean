section ZRTK
/-- the class's tokens are those of the text -/
def CA (f : Int → Int) (n : Int) (Mc : zM) : Prop := ∀ a : Nat, (a : Int) < Mc 43 4 → Mc 45 (a : Int) = tkS f n (plT f n a) ∧ Mc 46 (a : Int) = plT f n a ∧ Mc 47 (a : Int) = tkV f n (plT f n a)
/-- class (Mc) and reference (Mr) have come to the same token -/
def RTk (f : Int → Int) (n : Int) (Mc Mr : zM) : Prop := (CA f n Mc ∧ TV Mc) ∧ (∃ j : Nat, Mc 43 5 = j ∧ Mr 209 7 = nxT f n (j + 1) ∧ Mr 209 4 = 0 ∧ Mr 209 5 = -1) ∧ Mr 209 10 = Mc 43 10 ∧ TKq (Mc 43 9) (Mc 43 11) (Mr 209 8) (Mr 209 9) ∧ (Mr 209 6 = n ∧ Mr 210 = f ∧ 0 ≤ n ∧ n ≤ 700) ∧ ∀ i : Int, 0 ≤ i → i < 107 → Mr 211 i = wrd i
theorem CA.of {f : Int → Int} {n : Int} {M M' : zM} (h : CA f n M) (h4 : M' 43 4 = M 43 4) (h5 : M' 45 = M 45) (h6 : M' 46 = M 46) (h7 : M' 47 = M 47) : CA f n M' := by
  unfold CA at *
  rw [h4, h5, h6, h7]; exact h
theorem RTk.step {f : Int → Int} {n : Int} {Mc Mr Mr' : zM} (h : RTk f n Mc Mr) (hs : Mc 43 9 ≠ 0) (ht : TkR f n (Mr 209 7) Mr Mr') : RTk f n (stT Mc) Mr' := by
  obtain ⟨⟨h1, h1v⟩, ⟨j, hj, hx, hf4, hf5⟩, h3, h4, h5, h6⟩ := h
  obtain ⟨t1, t2, t3, t4⟩ := ht
  have l := h1v.lt hs
  obtain ⟨s1, s2, s3, s4, s5⟩ := stT_4 Mc
  have a := h1 (j + 1) (by omega)
  rw [show (((j + 1 : Nat)) : Int) = Mc 43 5 + 1 by omega] at a
  have e : skp f n (Mr 209 7) = plT f n (j + 1) := by rw [hx]; rfl
  refine ⟨⟨h1.of s1 (stT_n _ (by decide)) (stT_n _ (by decide)) (stT_n _ (by decide)), h1v.st hs⟩, ⟨j + 1, by rw [s2]; omega, ?_, by rw [t4 209 4 (by omega)]; exact hf4, by rw [t4 209 5 (by omega)]; exact hf5⟩, ?_, ?_, ⟨by rw [t4 209 6 (by omega)]; exact h5.1, by rw [t4.row (by decide)]; exact h5.2.1, h5.2.2⟩, fun i i0 i1 => by rw [t4 211 i (by omega)]; exact h6 i i0 i1⟩
  · rw [t1, e]; rfl
  · rw [t2, s4, e, a.2.1]
  · rw [s3, s5, a.1, a.2.2, ← e]; exact t3
theorem RTk.of {f : Int → Int} {n : Int} {Mc Mc' Mr Mr' : zM} (h : RTk f n Mc Mr) (e3 : Mc' 43 = Mc 43) (e5 : Mc' 45 = Mc 45) (e6 : Mc' 46 = Mc 46) (e7 : Mc' 47 = Mc 47) (r9 : ∀ i : Int, 4 ≤ i → i ≤ 10 → Mr' 209 i = Mr 209 i) (r10 : Mr' 210 = Mr 210) (r11 : Mr' 211 = Mr 211) : RTk f n Mc' Mr' := by
  obtain ⟨⟨h1, h1v⟩, h2, h3, h4, h5, h6⟩ := h
  refine ⟨⟨h1.of (by rw [e3]) e5 e6 e7, h1v.of e3 e5 e6 e7⟩, ?_, ?_, ?_, ?_, ?_⟩
  · rw [e3, r9 7 (by omega) (by omega), r9 4 (by omega) (by omega), r9 5 (by omega) (by omega)]; exact h2
  · rw [e3, r9 10 (by omega) (by omega)]; exact h3
  · rw [e3, r9 8 (by omega) (by omega), r9 9 (by omega) (by omega)]; exact h4
  · rw [r9 6 (by omega) (by omega), r10]; exact h5
  · rw [r11]; exact h6
theorem RTk.nx {f : Int → Int} {n : Int} {Mc Mr : zM} (h : RTk f n Mc Mr) : 0 ≤ Mr 209 7 ∧ Mr 209 7 ≤ Mr 209 6 := by
  obtain ⟨_, ⟨j, _, hx, _, _⟩, _, _, h5, _⟩ := h
  have z := nxT_in f h5.2.2.1 (j + 1)
  rw [hx, h5.1]; exact z
theorem RTk.f4 {f : Int → Int} {n : Int} {Mc Mr : zM} (h : RTk f n Mc Mr) : Mr 209 4 = 0 ∧ Mr 209 5 = -1 := by
  obtain ⟨_, ⟨j, _, _, a, b⟩, _⟩ := h
  exact ⟨a, b⟩
/-- the faults agree -/
def FT (Mc Mr : zM) : Prop := Mr 209 4 = Mc 42 6 ∧ Mr 209 5 = Mc 42 7
/-- all but the reference's token, fault and got -/
def Fl (M M' : zM) : Prop := ∀ (k : Nat) (i : Int), ¬ (k = 209 ∧ ((4 ≤ i ∧ i ≤ 5) ∨ (7 ≤ i ∧ i ≤ 11))) → M' k i = M k i
theorem Fl.rf (M : zM) : Fl M M := fun _ _ _ => rfl
theorem Fl.tr {M M1 M2 : zM} (h : Fl M M1) (h2 : Fl M1 M2) : Fl M M2 := fun k i a => (h2 k i a).trans (h k i a)
theorem Fk.fl {M M' : zM} (h : Fk M M') : Fl M M' := fun k i a => h k i (by omega)
theorem Fl.sm {M M1 : zM} (h : Fl M M1) {i : Int} (hi : (4 ≤ i ∧ i ≤ 5) ∨ (7 ≤ i ∧ i ≤ 11)) (v : Int) : Fl M (sm M1 209 i v) := fun k j a => by
  by_cases e : k = 209
  · subst e
    rw [sm_k, us_n (fun z => a ⟨rfl, by omega⟩)]; exact h 209 j a
  · rw [sm_n e]; exact h k j a
theorem Fl.row {M M' : zM} (h : Fl M M') {k : Nat} (hk : k ≠ 209) : M' k = M k := funext fun i => h k i (by omega)
theorem wr_ft {Mc Mr : zM} {c : Int} (h0 : Mc 42 6 = 0) (h10 : Mr 209 10 = Mc 43 10) : FT (flM Mc c) (sm (sm Mr 209 4 c) 209 5 (Mr 209 10)) := by
  have z := flM_6 c h0
  exact ⟨by rw [sm_k, us_n (by decide), sm_s, z.1], by rw [sm_s, z.2, h10]⟩
/-- a number, in the reference, against the class's -/
def NuR (f : Int → Int) (n lo hi : Int) (Mc Mr : zM) (r : Int) (Mr' : zM) : Prop := Fl Mr Mr' ∧ ((r = 0 ∧ tkM lo hi Mc 42 6 ≠ 0 ∧ FT (tkM lo hi Mc) Mr') ∨ (r = 1 ∧ tkM lo hi Mc 42 6 = 0 ∧ RTk f n (tkM lo hi Mc) Mr' ∧ Mr' 209 11 = lnV lo hi Mc))
theorem nu_bad {lo hi : Int} {Mc Mr : zM} {c : Int} (h0 : Mc 42 6 = 0) (h10 : Mr 209 10 = Mc 43 10) (hb : ¬ (Mc 43 9 = 4 ∧ lo ≤ Mc 43 11 ∧ Mc 43 11 ≤ hi)) (hc : c = if Mc 43 9 = 4 then 2 else 1) : tkM lo hi Mc 42 6 ≠ 0 ∧ FT (tkM lo hi Mc) (sm (sm Mr 209 4 c) 209 5 (Mr 209 10)) := by
  have e := lnM_bad (lo := lo) (hi := hi) h0 hb
  rw [← hc] at e
  have c0 : c ≠ 0 := by rw [hc]; split <;> decide
  have z := flM_6 (M := Mc) c h0
  have et : tkM lo hi Mc = flM Mc c := by
    unfold tkM
    rw [e, if_neg (by rw [z.1]; exact c0)]
  rw [et]
  exact ⟨by rw [z.1]; exact c0, wr_ft h0 h10⟩
theorem nu_ok {lo hi : Int} {Mc : zM} (h0 : Mc 42 6 = 0) (hb : Mc 43 9 = 4 ∧ lo ≤ Mc 43 11 ∧ Mc 43 11 ≤ hi) : tkM lo hi Mc = stT Mc ∧ lnV lo hi Mc = Mc 43 11 := by
  have e : lnM lo hi Mc = Mc := by unfold lnM; rw [if_neg (by omega), if_neg (by omega), if_pos hb.2]
  unfold tkM lnV
  rw [e, if_pos h0, if_pos ⟨h0, hb⟩]
  exact ⟨rfl, rfl⟩
end ZRTK

set_option maxRecDepth 100000 in
set_option maxHeartbeats 4000000 in
theorem m_X11_number {G : zG} {l : Launch} {L : Nat} {P : zP} {M : zM} {f : Int → Int} {n lo hi : Int} {Mc : zM} (hP : PFok P) (ht : RTk f n Mc M) (h0 : Mc 42 6 = 0) (hl : 0 ≤ lo ∧ lo ≤ hi ∧ hi ≤ 99999) : AM G l yX11_number mdX11_number [aR 209, aI lo, aI hi] (LAY L) P M (zany (LAY L) P (NuR f n lo hi Mc M)) := by
  have t3 := ht.2.2.1
  have t4 := ht.2.2.2.1
  have tn := ht.nx
  have t5 := ht.2.2.2.2.1
  have t6 := ht.2.2.2.2.2
  unfold TKq at t4
  refine AM.go [some (aR 209), some (aI lo), some (aI hi)] rfl (Nat.le_of_ble_eq_true rfl) ?_ (by decide) rfl rfl
  refine a_aloadn dX11_number_0 rfl ?_
  refine b_getI (j' := 8) dX11_number_1 flX11_142 rfl rfl (L209 L) (fun hr1 => ?_)
  refine a_iconst dX11_number_4 ?_
  refine a_icmp_eq (tgt := 14) dX11_number_5 (by decide) hr1 ⟨by omega, by omega⟩ (fun hb5 => ?_) (fun hb5 => ?_)
  · refine a_aloadn dX11_number_14 rfl ?_
    refine b_getI (j' := 9) dX11_number_15 flX11_153 rfl rfl (L209 L) (fun hr15 => ?_)
    refine a_iloadn dX11_number_18 rfl ?_
    refine a_iloadn dX11_number_19 rfl ?_
    refine a_oneS (as := [_, _, _]) dX11_number_20 mvX11_169 ⟨by decide, by decide⟩ rfl rfl (Nat.le_of_ble_eq_true rfl) ⟨rfl, rfl⟩ ⟨by decide, by decide⟩ (m_isIn1 hr15 ⟨by omega, by omega⟩ ⟨by omega, by omega⟩) (fun x20 hx20 => ?_)
    refine a_if_ne (tgt := 32) dX11_number_23 (by decide) ⟨by omega, by omega⟩ (fun hb23 => ?_) (fun hb23 => ?_)
    · refine a_aloadn dX11_number_32 rfl ?_
      refine a_aloadn dX11_number_33 rfl ?_
      refine b_getI (j' := 9) dX11_number_34 flX11_153 rfl rfl (L209 L) (fun hr34 => ?_)
      refine a_putI (j' := 11) dX11_number_37 flX11_173 rfl rfl (L209 L) (by decide) rfl hr34 ?_
      refine a_aloadn dX11_number_40 rfl ?_
      refine a_relVv (as := []) (q := 209) dX11_number_41 mvX11_176 ⟨by decide, by decide⟩ (L209 L) rfl rfl rfl (Nat.le_of_ble_eq_true rfl) ⟨rfl, rfl⟩ ⟨by decide, by decide⟩ (m_X11_token hP (by rw [sm_k, us_n (by decide)]; omega) (by rw [sm_n (by decide)]; exact t6) (by rw [sm_k, us_n (by decide), us_n (by decide)]; exact tn)) (fun M1 hM1 => ?_)
      refine a_iconst dX11_number_44 ?_
      have ok : Mc 43 9 = 4 ∧ lo ≤ Mc 43 11 ∧ Mc 43 11 ≤ hi := by omega
      have ek := nu_ok h0 ok
      have ts : TkR f n (M 209 7) (sm M 209 11 (M 209 9)) M1 := by
        rw [sm_n (show 210 ≠ 209 by decide), sm_k, us_n (by decide), us_n (by decide), t5.1, t5.2.1] at hM1
        exact hM1
      have rt0 : RTk f n Mc (sm M 209 11 (M 209 9)) := ht.of rfl rfl rfl rfl (fun i i0 i1 => by rw [sm_k, us_n (by omega)]) (sm_n (by decide)) (sm_n (by decide))
      have rt1 := rt0.step (by omega) (by rw [sm_k, us_n (by decide)]; exact ts)
      have e11 : M1 209 11 = M 209 9 := by rw [ts.2.2.2 209 11 (by omega), sm_s]
      exact a_zreturn dX11_number_45 rfl rfl rfl (by omega) (zany_i ⟨((Fl.rf M).sm (by omega) _).tr ts.2.2.2.fl, Or.inr ⟨rfl, by rw [ek.1, stT_n _ (by decide)]; exact h0, by rw [ek.1]; exact rt1, by rw [e11, ek.2]; omega⟩⟩)
    · refine a_aloadn dX11_number_26 rfl ?_
      refine a_iconst dX11_number_27 ?_
      refine a_callV (as := [_]) (q := 209) dX11_number_28 mvX11_166 ⟨by decide, by decide⟩ (L209 L) rfl rfl rfl (Nat.le_of_ble_eq_true rfl) ⟨rfl, rfl⟩ ⟨by decide, by decide⟩ (m_X11_wrong ⟨by omega, by omega⟩) ?_
      exact a_zreturn dX11_number_31 rfl rfl rfl (by omega) (zany_i ⟨((Fl.rf M).sm (by omega) _).sm (by omega) _, Or.inl ⟨rfl, nu_bad h0 t3 (by omega) (by rw [if_pos (by omega)])⟩⟩)
  · refine a_aloadn dX11_number_8 rfl ?_
    refine a_iconst dX11_number_9 ?_
    refine a_callV (as := [_]) (q := 209) dX11_number_10 mvX11_166 ⟨by decide, by decide⟩ (L209 L) rfl rfl rfl (Nat.le_of_ble_eq_true rfl) ⟨rfl, rfl⟩ ⟨by decide, by decide⟩ (m_X11_wrong ⟨by omega, by omega⟩) ?_
    exact a_zreturn dX11_number_13 rfl rfl rfl (by omega) (zany_i ⟨((Fl.rf M).sm (by omega) _).sm (by omega) _, Or.inl ⟨rfl, nu_bad h0 t3 (by omega) (by rw [if_neg (by omega)])⟩⟩)

/-- the houses so far -/
def HoR (t : Nat) (Mc Mr : zM) : Prop := Mr 209 16 = Mc t 2 ∧ (0 ≤ Mc t 2 ∧ Mc t 2 ≤ 6) ∧ ∀ j : Int, 0 ≤ j → j < Mc t 2 → Mr 214 (6 + j) = Mc (t + 1) j
theorem HoR.find {t : Nat} {Mc Mr : zM} (h : HoR t Mc Mr) (x : Int) : zfind (fun j => Mr 214 (6 + j)) x (Mr 209 16).toNat 0 = hoT t Mc x := by
  unfold hoT
  rw [h.1]
  exact zfind_cong _ _ (fun j j0 j1 => h.2.2 j j0 (by have := h.2.1; omega))
theorem HoR.of {t : Nat} {Mc Mc' Mr Mr' : zM} (h : HoR t Mc Mr) (et : Mc' t 2 = Mc t 2) (e1 : Mc' (t + 1) = Mc (t + 1)) (r16 : Mr' 209 16 = Mr 209 16) (r214 : Mr' 214 = Mr 214) : HoR t Mc' Mr' := by
  unfold HoR at *
  rw [et, e1, r16, r214]; exact h
/-- a house that is spoken of, in the reference, against the class's -/
def HtR (f : Int → Int) (n : Int) (t : Nat) (Mc Mr : zM) (r : Int) (Mr' : zM) : Prop := Fl Mr Mr' ∧ ((r = 0 ∧ nmM9 t 0 Mc 42 6 ≠ 0 ∧ FT (nmM9 t 0 Mc) Mr') ∨ (r = 1 ∧ nmM9 t 0 Mc 42 6 = 0 ∧ RTk f n (nmM9 t 0 Mc) Mr' ∧ Mr' 209 11 = hoT t Mc (Mc 43 11) ∧ 0 ≤ Mr' 209 11 ∧ Mr' 209 11 ≤ 5))
theorem nm_c {t : Nat} {b : Int} {Mc : zM} (h0 : Mc 42 6 = 0) : nmM9 t b Mc = if Mc 43 9 ≠ 2 then flM Mc 1 else if b ≠ 0 ∧ hoT t Mc (Mc 43 11) ≠ -1 then flM Mc 3 else if b = 0 ∧ hoT t Mc (Mc 43 11) = -1 then flM Mc 4 else stT Mc := by
  unfold nmM9
  rw [if_neg (by omega)]

set_option maxRecDepth 100000 in
set_option maxHeartbeats 4000000 in
theorem m_X11_houseThere {G : zG} {l : Launch} {L : Nat} {P : zP} {M : zM} {f : Int → Int} {n : Int} {t : Nat} {Mc : zM} (hP : PFok P) (ht : RTk f n Mc M) (h0 : Mc 42 6 = 0) (hh : HoR t Mc M) : AM G l yX11_houseThere mdX11_houseThere [aR 209] (LAY L) P M (zany (LAY L) P (HtR f n t Mc M)) := by
  have t3 := ht.2.2.1
  have t4 := ht.2.2.2.1
  have tn := ht.nx
  have t5 := ht.2.2.2.2.1
  have t6 := ht.2.2.2.2.2
  unfold TKq at t4
  have nc := nm_c (t := t) (b := 0) h0
  have h16 := hh.1
  have h26 := hh.2.1
  refine AM.go [some (aR 209), none] rfl (Nat.le_of_ble_eq_true rfl) ?_ (by decide) rfl rfl
  refine a_aloadn dX11_houseThere_0 rfl ?_
  refine b_getI (j' := 8) dX11_houseThere_1 flX11_142 rfl rfl (L209 L) (fun hr1 => ?_)
  refine a_iconst dX11_houseThere_4 ?_
  refine a_icmp_eq (tgt := 14) dX11_houseThere_5 (by decide) hr1 ⟨by omega, by omega⟩ (fun hb5 => ?_) (fun hb5 => ?_)
  · refine a_aloadn dX11_houseThere_14 rfl ?_
    refine a_getR (j' := 22) (y := 214) dX11_houseThere_15 flX11_27 rfl rfl (L209 L) (p209_22 hP) ?_
    refine a_bipush (w := 6) dX11_houseThere_18 (by decide) ?_
    refine a_aloadn dX11_houseThere_20 rfl ?_
    refine b_getI (j' := 16) dX11_houseThere_21 flX11_186 rfl rfl (L209 L) (fun hr21 => ?_)
    refine a_aloadn dX11_houseThere_24 rfl ?_
    refine b_getI (j' := 9) dX11_houseThere_25 flX11_153 rfl rfl (L209 L) (fun hr25 => ?_)
    refine a_callS (as := [_, _, _, _]) dX11_houseThere_28 mvX11_220 ⟨by decide, by decide⟩ rfl rfl (Nat.le_of_ble_eq_true rfl) ⟨rfl, rfl⟩ ⟨by decide, by decide⟩ (m_X11_find (L214 L) (by decide) ⟨by omega, by omega, by omega⟩ ⟨by omega, by omega⟩ hr25) ?_
    have hz := zfind_in (Mc (t + 1)) (M 209 9) (Mc t 2).toNat 0 (by omega)
    have ef := hh.find (M 209 9)
    obtain ⟨x9, ex9⟩ : ∃ x9, x9 = hoT t Mc (M 209 9) := ⟨_, rfl⟩
    refine a_stk (st' := [aI x9]) (by rw [ex9, ← ef]) ?_
    have hz2 : x9 = -1 ∨ (0 ≤ x9 ∧ x9 < Mc t 2) := by rw [ex9]; unfold hoT; omega
    refine c_istoren (ls' := [_, _]) dX11_houseThere_31 (by decide) rfl rfl ?_
    refine a_iloadn dX11_houseThere_32 rfl ?_
    refine a_if_ge (tgt := 42) dX11_houseThere_33 (by decide) ⟨by omega, by omega⟩ (fun hb33 => ?_) (fun hb33 => ?_)
    · refine a_aloadn dX11_houseThere_42 rfl ?_
      refine a_relVv (as := []) (q := 209) dX11_houseThere_43 mvX11_176 ⟨by decide, by decide⟩ (L209 L) rfl rfl rfl (Nat.le_of_ble_eq_true rfl) ⟨rfl, rfl⟩ ⟨by decide, by decide⟩ (m_X11_token hP (by omega) t6 tn) (fun M1 hM1 => ?_)
      refine a_aloadn dX11_houseThere_46 rfl ?_
      refine a_iloadn dX11_houseThere_47 rfl ?_
      refine a_putI (j' := 11) dX11_houseThere_48 flX11_173 rfl rfl (L209 L) (by decide) rfl ⟨by omega, by omega⟩ ?_
      refine a_iconst dX11_houseThere_51 ?_
      have ev : Mc 43 11 = M 209 9 := by omega
      have e52 : nmM9 t 0 Mc = stT Mc := by rw [nc, if_neg (by omega), if_neg (by omega), if_neg (by rw [ev, ← ex9]; omega)]
      have ts : TkR f n (M 209 7) M M1 := by rw [t5.1, t5.2.1] at hM1; exact hM1
      have rt1 := ht.step (by omega) ts
      have rt2 : RTk f n (stT Mc) (sm M1 209 11 x9) := rt1.of rfl rfl rfl rfl (fun i i0 i1 => by rw [sm_k, us_n (by omega)]) (sm_n (by decide)) (sm_n (by decide))
      exact a_zreturn dX11_houseThere_52 rfl rfl rfl (by omega) (zany_i ⟨(ts.2.2.2.fl).sm (by omega) _, Or.inr ⟨rfl, by rw [e52, stT_n _ (by decide)]; exact h0, by rw [e52]; exact rt2, by rw [sm_s, ev, ex9], by rw [sm_s]; omega, by rw [sm_s]; omega⟩⟩)
    · refine a_aloadn dX11_houseThere_36 rfl ?_
      refine a_iconst dX11_houseThere_37 ?_
      refine a_callV (as := [_]) (q := 209) dX11_houseThere_38 mvX11_166 ⟨by decide, by decide⟩ (L209 L) rfl rfl rfl (Nat.le_of_ble_eq_true rfl) ⟨rfl, rfl⟩ ⟨by decide, by decide⟩ (m_X11_wrong ⟨by omega, by omega⟩) ?_
      have ev : Mc 43 11 = M 209 9 := by omega
      have e41 : nmM9 t 0 Mc = flM Mc 4 := by rw [nc, if_neg (by omega), if_neg (by omega), if_pos ⟨rfl, by rw [ev, ← ex9]; omega⟩]
      exact a_zreturn dX11_houseThere_41 rfl rfl rfl (by omega) (zany_i ⟨((Fl.rf M).sm (by omega) _).sm (by omega) _, Or.inl ⟨rfl, by rw [e41, (flM_6 4 h0).1]; decide, by rw [e41]; exact wr_ft h0 t3⟩⟩)
  · refine a_aloadn dX11_houseThere_8 rfl ?_
    refine a_iconst dX11_houseThere_9 ?_
    refine a_callV (as := [_]) (q := 209) dX11_houseThere_10 mvX11_166 ⟨by decide, by decide⟩ (L209 L) rfl rfl rfl (Nat.le_of_ble_eq_true rfl) ⟨rfl, rfl⟩ ⟨by decide, by decide⟩ (m_X11_wrong ⟨by omega, by omega⟩) ?_
    have e13 : nmM9 t 0 Mc = flM Mc 1 := by rw [nc, if_pos (by omega)]
    exact a_zreturn dX11_houseThere_13 rfl rfl rfl (by omega) (zany_i ⟨((Fl.rf M).sm (by omega) _).sm (by omega) _, Or.inl ⟨rfl, by rw [e13, (flM_6 1 h0).1]; decide, by rw [e13]; exact wr_ft h0 t3⟩⟩)
