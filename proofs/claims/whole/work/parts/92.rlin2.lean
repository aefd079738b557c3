section ZRLN
theorem rh_1 {t : Nat} {M : zM} (h0 : M 42 6 = 0) (h : ¬ M t 2 < 6) : rhM t M = flM M 2 := by
  have e : lwM (M t 2) 6 M = flM M 2 := by unfold lwM; rw [if_neg h]
  have f : flM M 2 42 6 ≠ 0 := by rw [(flM_6 2 h0).1]; decide
  unfold rhM
  simp only []
  rw [e, tn_ne f, tk_ne f, tk_ne f, if_pos f]
theorem rh_2 {t : Nat} {M : zM} (h : M t 2 < 6) (f : nmM9 t 1 (stT M) 42 6 ≠ 0) : rhM t M = nmM9 t 1 (stT M) := by
  have e : lwM (M t 2) 6 M = stT M := by unfold lwM; rw [if_pos h]
  unfold rhM
  simp only []
  rw [e, tk_ne f, tk_ne f, if_pos f]
theorem rh_3 {t : Nat} {M : zM} (h : M t 2 < 6) (f : tkM 0 99 (nmM9 t 1 (stT M)) 42 6 ≠ 0) : rhM t M = tkM 0 99 (nmM9 t 1 (stT M)) := by
  have e : lwM (M t 2) 6 M = stT M := by unfold lwM; rw [if_pos h]
  unfold rhM
  simp only []
  rw [e, tk_ne f, if_pos f]
theorem rh_4 {t : Nat} {M : zM} (h : M t 2 < 6) : rhM t M = if tkM 0 9 (tkM 0 99 (nmM9 t 1 (stT M))) 42 6 ≠ 0 then tkM 0 9 (tkM 0 99 (nmM9 t 1 (stT M))) else sm (sm (sm (sm (tkM 0 9 (tkM 0 99 (nmM9 t 1 (stT M)))) (t + 1) (tkM 0 9 (tkM 0 99 (nmM9 t 1 (stT M))) t 2) (tnV (stT M))) (t + 2) (tkM 0 9 (tkM 0 99 (nmM9 t 1 (stT M))) t 2) (lnV 0 99 (nmM9 t 1 (stT M)))) (t + 3) (tkM 0 9 (tkM 0 99 (nmM9 t 1 (stT M))) t 2) (lnV 0 9 (tkM 0 99 (nmM9 t 1 (stT M))))) t 2 (tkM 0 9 (tkM 0 99 (nmM9 t 1 (stT M))) t 2 + 1) := by
  have e : lwM (M t 2) 6 M = stT M := by unfold lwM; rw [if_pos h]
  unfold rhM
  simp only []
  rw [e]
theorem rt_1 {t : Nat} {M : zM} (h0 : M 42 6 = 0) (h : ¬ M t 6 < 10) : rtM t M = flM M 2 := by
  have e : lwM (M t 6) 10 M = flM M 2 := by unfold lwM; rw [if_neg h]
  have f : flM M 2 42 6 ≠ 0 := by rw [(flM_6 2 h0).1]; decide
  unfold rtM
  simp only []
  rw [e, tn_ne f, tk_ne f, tk_ne f, if_pos f]
theorem rt_2 {t : Nat} {M : zM} (h : M t 6 < 10) (f : nmM9 t 0 (stT M) 42 6 ≠ 0) : rtM t M = nmM9 t 0 (stT M) := by
  have e : lwM (M t 6) 10 M = stT M := by unfold lwM; rw [if_pos h]
  unfold rtM
  simp only []
  rw [e, tk_ne f, tk_ne f, if_pos f]
theorem rt_3 {t : Nat} {M : zM} (h : M t 6 < 10) (f : tkM 0 99 (nmM9 t 0 (stT M)) 42 6 ≠ 0) : rtM t M = tkM 0 99 (nmM9 t 0 (stT M)) := by
  have e : lwM (M t 6) 10 M = stT M := by unfold lwM; rw [if_pos h]
  unfold rtM
  simp only []
  rw [e, tk_ne f, if_pos f]
theorem rt_4 {t : Nat} {M M2 M3 M4 : zM} (h : M t 6 < 10) (e2 : M2 = nmM9 t 0 (stT M)) (e3 : M3 = tkM 0 99 M2) (e4 : M4 = tkM 0 99 M3) : rtM t M = if M4 42 6 ≠ 0 then M4 else sm (sm (sm (sm M4 (t + 4) (M4 t 6) (hoT t M2 (tnV (stT M)))) (t + 5) (M4 t 6) (lnV 0 99 M2)) (t + 6) (M4 t 6) (lnV 0 99 M3)) t 6 (M4 t 6 + 1) := by
  have e : lwM (M t 6) 10 M = stT M := by unfold lwM; rw [if_pos h]
  unfold rtM
  simp only []
  rw [e, ← e2, ← e3, ← e4]
/-- the houses told so far; the turns; the sounds; the settings -/
def HoX (t : Nat) (Mc Mr : zM) : Prop := HoR t Mc Mr ∧ ∀ j : Int, 0 ≤ j → j < Mc t 2 → Mr 215 (6 + j) = Mc (t + 2) j ∧ Mr 216 (6 + j) = Mc (t + 3) j
def TuX (t : Nat) (Mc Mr : zM) : Prop := Mr 209 17 = Mc t 6 ∧ (0 ≤ Mc t 6 ∧ Mc t 6 ≤ 10) ∧ ∀ j : Int, 0 ≤ j → j < Mc t 6 → Mr 217 (10 + j) = Mc (t + 4) j ∧ Mr 218 (10 + j) = Mc (t + 5) j ∧ Mr 219 (10 + j) = Mc (t + 6) j
def SoX (t : Nat) (Mc Mr : zM) : Prop := Mr 209 18 = Mc t 10 ∧ (0 ≤ Mc t 10 ∧ Mc t 10 ≤ 12) ∧ ∀ j : Int, 0 ≤ j → j < Mc t 10 → Mr 220 (12 + j) = Mc (t + 7) j ∧ Mr 221 (12 + j) = Mc (t + 8) j ∧ Mr 222 (12 + j) = Mc (t + 9) j ∧ 1 ≤ Mc (t + 9) j
def SeX (t : Nat) (Mc Mr : zM) : Prop := ∀ k : Int, 0 ≤ k → k < 4 → Mr 213 (4 + k) = Mc (t + 10) k ∧ (Mr 212 k ≠ 0 ↔ Mc (t + 11) k ≠ 0)
/-- a line, in the reference, against the class's: what it answers, the token behind -/
def LiR (f : Int → Int) (n : Int) (Mx : zM) (E : zM → Prop) (r : Int) (Mr' : zM) : Prop := (r = 0 ∧ Mx 42 6 ≠ 0 ∧ FT Mx Mr') ∨ (r = 1 ∧ Mx 42 6 = 0 ∧ RTk f n Mx Mr' ∧ E Mr')
/-- where a row's second half begins -/
def hlf (k : Nat) : Int := if k = 212 then 0 else if k = 213 then 4 else if k ≤ 216 then 6 else if k ≤ 219 then 10 else if k ≤ 222 then 12 else if k ≤ 225 then 3 else 64
theorem hl212 : hlf 212 = 0 := rfl
theorem hl213 : hlf 213 = 4 := rfl
theorem hl214 : hlf 214 = 6 := rfl
theorem hl215 : hlf 215 = 6 := rfl
theorem hl216 : hlf 216 = 6 := rfl
theorem hl217 : hlf 217 = 10 := rfl
theorem hl218 : hlf 218 = 10 := rfl
theorem hl219 : hlf 219 = 10 := rfl
theorem hl220 : hlf 220 = 12 := rfl
theorem hl221 : hlf 221 = 12 := rfl
theorem hl222 : hlf 222 = 12 := rfl
theorem hl223 : hlf 223 = 3 := rfl
theorem hl224 : hlf 224 = 3 := rfl
theorem hl225 : hlf 225 = 3 := rfl
/-- what is told, in its ranges -/
def Rg (M : zM) : Prop := (∀ i : Int, 6 ≤ i → i < 12 → (0 ≤ M 215 i ∧ M 215 i ≤ 99) ∧ (0 ≤ M 216 i ∧ M 216 i ≤ 9)) ∧ (∀ i : Int, 10 ≤ i → i < 20 → (0 ≤ M 217 i ∧ M 217 i ≤ 5) ∧ (0 ≤ M 218 i ∧ M 218 i ≤ 99) ∧ (0 ≤ M 219 i ∧ M 219 i ≤ 99)) ∧ (∀ i : Int, 12 ≤ i → i < 24 → (0 ≤ M 220 i ∧ M 220 i ≤ 5) ∧ (0 ≤ M 221 i ∧ M 221 i ≤ 99) ∧ (0 ≤ M 222 i ∧ M 222 i ≤ 9)) ∧ (0 ≤ M 213 4 ∧ M 213 4 ≤ 20) ∧ (1 ≤ M 213 5 ∧ M 213 5 ≤ 9) ∧ (0 ≤ M 213 6 ∧ M 213 6 ≤ 100) ∧ (0 ≤ M 213 7 ∧ M 213 7 ≤ 99999)
def rgv (k : Nat) (i v : Int) : Prop := (k = 215 → 0 ≤ v ∧ v ≤ 99) ∧ (k = 216 → 0 ≤ v ∧ v ≤ 9) ∧ (k = 217 → 0 ≤ v ∧ v ≤ 5) ∧ (k = 218 ∨ k = 219 ∨ k = 221 → 0 ≤ v ∧ v ≤ 99) ∧ (k = 220 → 0 ≤ v ∧ v ≤ 5) ∧ (k = 222 → 0 ≤ v ∧ v ≤ 9) ∧ (k = 213 → (i = 4 → 0 ≤ v ∧ v ≤ 20) ∧ (i = 5 → 1 ≤ v ∧ v ≤ 9) ∧ (i = 6 → 0 ≤ v ∧ v ≤ 100) ∧ (i = 7 → 0 ≤ v ∧ v ≤ 99999))
theorem Rg.of {M M' : zM} (h : Rg M) (e : ∀ k : Nat, 213 ≤ k → k ≤ 222 → M' k = M k) : Rg M' := by
  unfold Rg at *
  rw [e 213 (by omega) (by omega), e 215 (by omega) (by omega), e 216 (by omega) (by omega), e 217 (by omega) (by omega), e 218 (by omega) (by omega), e 219 (by omega) (by omega), e 220 (by omega) (by omega), e 221 (by omega) (by omega), e 222 (by omega) (by omega)]
  exact h
theorem us_r {f : Int → Int} {i v lo hi : Int} (hv : lo ≤ v ∧ v ≤ hi) {j : Int} (h : lo ≤ f j ∧ f j ≤ hi) : lo ≤ us f i v j ∧ us f i v j ≤ hi := by
  by_cases e : j = i
  · rw [e, us_s]; exact hv
  · rw [us_n e]; exact h
theorem Rg.sm {M : zM} {k : Nat} {i v : Int} (h : Rg M) (hv : rgv k i v) : Rg (sm M k i v) := by
  obtain ⟨a, b, c, d4, d5, d6, d7⟩ := h
  obtain ⟨v1, v2, v3, v4, v5, v6, v7⟩ := hv
  have go : ∀ (q : Nat) (j lo hi : Int), (k = q → i = j ∨ True → lo ≤ v ∧ v ≤ hi) → lo ≤ M q j ∧ M q j ≤ hi → lo ≤ _root_.Jvm.Pilot.@@N@@.sm M k i v q j ∧ _root_.Jvm.Pilot.@@N@@.sm M k i v q j ≤ hi := fun q j lo hi x y => by
    by_cases e : q = k
    · subst e
      rw [sm_k]
      exact us_r (x rfl (Or.inr trivial)) y
    · rw [sm_n e]; exact y
  have g3 : ∀ (j lo hi : Int), (k = 213 → i = j → lo ≤ v ∧ v ≤ hi) → lo ≤ M 213 j ∧ M 213 j ≤ hi → lo ≤ _root_.Jvm.Pilot.@@N@@.sm M k i v 213 j ∧ _root_.Jvm.Pilot.@@N@@.sm M k i v 213 j ≤ hi := fun j lo hi x y => by
    by_cases e : 213 = k
    · subst e
      rw [sm_k]
      by_cases e2 : j = i
      · rw [e2, us_s]; exact x rfl e2.symm
      · rw [us_n e2]; exact y
    · rw [sm_n e]; exact y
  exact ⟨fun j x y => ⟨go 215 j 0 99 (fun e _ => v1 e) (a j x y).1, go 216 j 0 9 (fun e _ => v2 e) (a j x y).2⟩, fun j x y => ⟨go 217 j 0 5 (fun e _ => v3 e) (b j x y).1, go 218 j 0 99 (fun e _ => v4 (Or.inl e)) (b j x y).2.1, go 219 j 0 99 (fun e _ => v4 (Or.inr (Or.inl e))) (b j x y).2.2⟩, fun j x y => ⟨go 220 j 0 5 (fun e _ => v5 e) (c j x y).1, go 221 j 0 99 (fun e _ => v4 (Or.inr (Or.inr e))) (c j x y).2.1, go 222 j 0 9 (fun e _ => v6 e) (c j x y).2.2⟩, g3 4 0 20 (fun e q => (v7 e).1 q) d4, g3 5 1 9 (fun e q => (v7 e).2.1 q) d5, g3 6 0 100 (fun e q => (v7 e).2.2.1 q) d6, g3 7 0 99999 (fun e q => (v7 e).2.2.2 q) d7⟩
/-- rows of the reference that a line may change -/
def FrX (ks : List Nat) (c : Int) (M M' : zM) : Prop := (∀ (k : Nat) (i : Int), (k ∈ ks → i < hlf k) → ¬ (k = 209 ∧ ((4 ≤ i ∧ i ≤ 5) ∨ (7 ≤ i ∧ i ≤ 11) ∨ i = c)) → M' k i = M k i) ∧ (Rg M → Rg M')
theorem Fl.frx {M M' : zM} (h : Fl M M') (ks : List Nat) (c : Int) : FrX ks c M M' := ⟨fun k i _ b => h k i (fun z => b ⟨z.1, by omega⟩), fun r => r.of (fun k a b => h.row (by omega))⟩
theorem FrX.tr {ks : List Nat} {c : Int} {M M1 M2 : zM} (h : FrX ks c M M1) (h2 : FrX ks c M1 M2) : FrX ks c M M2 := ⟨fun k i a b => (h2.1 k i a b).trans (h.1 k i a b), fun r => h2.2 (h.2 r)⟩
theorem FrX.rf (ks : List Nat) (c : Int) (M : zM) : FrX ks c M M := ⟨fun _ _ _ _ => rfl, id⟩
theorem FrX.row {ks : List Nat} {c : Int} {M M1 : zM} (h : FrX ks c M M1) {k : Nat} (hk : k ∈ ks) (i v : Int) (hi : hlf k ≤ i := by first | (rw [hl212]; omega) | (rw [hl213]; omega) | (rw [hl214]; omega) | (rw [hl215]; omega) | (rw [hl216]; omega) | (rw [hl217]; omega) | (rw [hl218]; omega) | (rw [hl219]; omega) | (rw [hl220]; omega) | (rw [hl221]; omega) | (rw [hl222]; omega) | (rw [hl223]; omega) | (rw [hl224]; omega) | (rw [hl225]; omega)) (hv : rgv k i v := by (refine ⟨?_, ?_, ?_, ?_, ?_, ?_, ?_⟩ <;> intro e9 <;> first | (exfalso; omega) | omega)) : FrX ks c M (sm M1 k i v) := ⟨fun q j a b => by
  by_cases e : q = k
  · subst e; rw [sm_k, us_n (by have := a hk; omega)]; exact h.1 q j a b
  · rw [sm_n e]; exact h.1 q j a b, fun r => (h.2 r).sm hv⟩
theorem FrX.cnt {ks : List Nat} {c : Int} {M M1 : zM} (h : FrX ks c M M1) (v : Int) : FrX ks c M (sm M1 209 c v) := ⟨fun q j a b => by
  by_cases e : q = 209
  · subst e; rw [sm_k, us_n (fun z => b ⟨rfl, by omega⟩)]; exact h.1 209 j a b
  · rw [sm_n e]; exact h.1 q j a b, fun r => (h.2 r).of (fun k x y => sm_n (by omega))⟩
end ZRLN

set_option maxRecDepth 100000 in
set_option maxHeartbeats 4000000 in
theorem m_X11_houseLine {G : zG} {l : Launch} {L : Nat} {P : zP} {M : zM} {f : Int → Int} {n : Int} {t : Nat} {Mc : zM} (hP : PFok P) (ht : RTk f n Mc M) (h0 : Mc 42 6 = 0) (hs : Mc 43 9 ≠ 0) (tt : t = 4 ∨ t = 23) (hh : HoX t Mc M) : AM G l yX11_houseLine mdX11_houseLine [aR 209] (LAY L) P M (zany (LAY L) P (fun r M' => FrX [214, 215, 216] 16 M M' ∧ LiR f n (rhM t Mc) (HoX t (rhM t Mc)) r M')) := by
  have t3 := ht.2.2.1
  have tn := ht.nx
  have t5 := ht.2.2.2.2.1
  have t6 := ht.2.2.2.2.2
  have h16 := hh.1.1
  have h26 := hh.1.2.1
  refine AM.go [some (aR 209)] rfl (Nat.le_of_ble_eq_true rfl) ?_ (by decide) rfl rfl
  refine a_aloadn dX11_houseLine_0 rfl ?_
  refine b_getI (j' := 16) dX11_houseLine_1 flX11_186 rfl rfl (L209 L) (fun hr1 => ?_)
  refine a_bipush (w := 6) dX11_houseLine_4 (by decide) ?_
  refine a_icmp_ne (tgt := 15) dX11_houseLine_6 (by decide) ⟨by omega, by omega⟩ ⟨by omega, by omega⟩ (fun hb6 => ?_) (fun hb6 => ?_)
  · refine a_aloadn dX11_houseLine_15 rfl ?_
    refine a_relVv (as := []) (q := 209) dX11_houseLine_16 mvX11_176 ⟨by decide, by decide⟩ (L209 L) rfl rfl rfl (Nat.le_of_ble_eq_true rfl) ⟨rfl, rfl⟩ ⟨by decide, by decide⟩ (m_X11_token hP (by rw [ht.2.2.2.2.1.1]; exact ht.2.2.2.2.1.2.2) ht.2.2.2.2.2 ht.nx) (fun M1 hM1 => ?_)
    obtain ⟨C1, eC1⟩ : ∃ C1, C1 = stT Mc := ⟨_, rfl⟩
    have tsM1 : TkR f n (M 209 7) M M1 := by rw [ht.2.2.2.2.1.1, ht.2.2.2.2.1.2.1] at hM1; exact hM1
    have rt1 : RTk f n C1 M1 := by rw [eC1]; exact ht.step hs tsM1
    have c0 : C1 42 6 = 0 := by rw [eC1, stT_n _ (by decide)]; exact h0
    have cn : ∀ k : Nat, k ≠ 43 → C1 k = Mc k := fun k hk => by rw [eC1, stT_n _ hk]
    have k4 := rt1.2.2.2.1
    unfold TKq at k4
    have fr1 := tsM1.2.2.2
    have h16a : M1 209 16 = Mc t 2 := by rw [fr1 209 16 (by omega)]; exact h16
    have hhc : HoR t C1 M1 := hh.1.of (by rw [cn t (by omega)]) (cn _ (by omega)) (fr1 209 16 (by omega)) (fr1.row (by decide))
    have nc := nm_c (t := t) (b := 1) c0
    have F1 := (tsM1.2.2.2.fl).frx [214, 215, 216] 16
    refine a_aloadn dX11_houseLine_19 rfl ?_
    refine b_getI (j' := 8) dX11_houseLine_20 flX11_142 rfl rfl (L209 L) (fun hr20 => ?_)
    refine a_iconst dX11_houseLine_23 ?_
    refine a_icmp_eq (tgt := 33) dX11_houseLine_24 (by decide) hr20 ⟨by omega, by omega⟩ (fun hb24 => ?_) (fun hb24 => ?_)
    · refine a_aloadn dX11_houseLine_33 rfl ?_
      refine a_getR (j' := 22) (y := 214) dX11_houseLine_34 flX11_27 rfl rfl (L209 L) (p209_22 hP) ?_
      refine a_bipush (w := 6) dX11_houseLine_37 (by decide) ?_
      refine a_aloadn dX11_houseLine_39 rfl ?_
      refine b_getI (j' := 16) dX11_houseLine_40 flX11_186 rfl rfl (L209 L) (fun hr40 => ?_)
      refine a_aloadn dX11_houseLine_43 rfl ?_
      refine b_getI (j' := 9) dX11_houseLine_44 flX11_153 rfl rfl (L209 L) (fun hr44 => ?_)
      refine a_callS (as := [_, _, _, _]) dX11_houseLine_47 mvX11_220 ⟨by decide, by decide⟩ rfl rfl (Nat.le_of_ble_eq_true rfl) ⟨rfl, rfl⟩ ⟨by decide, by decide⟩ (m_X11_find (L214 L) (by decide) ⟨by omega, by omega, by omega⟩ ⟨by omega, by omega⟩ hr44) ?_
      have ef := hhc.find (M1 209 9)
      obtain ⟨x9, ex9⟩ : ∃ x9, x9 = hoT t C1 (M1 209 9) := ⟨_, rfl⟩
      refine a_stk (st' := [aI x9]) (by rw [ex9, ← ef]) ?_
      have hz := zfind_in (C1 (t + 1)) (M1 209 9) (C1 t 2).toNat 0 (by omega)
      have hz2 : x9 = -1 ∨ (0 ≤ x9 ∧ x9 < 7) := by rw [ex9]; unfold hoT; have := hhc.2.1; omega
      refine a_if_lt (tgt := 59) dX11_houseLine_50 (by decide) ⟨by omega, by omega⟩ (fun hb50 => ?_) (fun hb50 => ?_)
      · refine a_aloadn dX11_houseLine_59 rfl ?_
        refine a_getR (j' := 22) (y := 214) dX11_houseLine_60 flX11_27 rfl rfl (L209 L) (p209_22 hP) ?_
        refine a_bipush (w := 6) dX11_houseLine_63 (by decide) ?_
        refine a_aloadn dX11_houseLine_65 rfl ?_
        refine b_getI (j' := 16) dX11_houseLine_66 flX11_186 rfl rfl (L209 L) (fun hr66 => ?_)
        refine a_iadd dX11_houseLine_69 ?_
        refine a_aloadn dX11_houseLine_70 rfl ?_
        refine b_getI (j' := 9) dX11_houseLine_71 flX11_153 rfl rfl (L209 L) (fun hr71 => ?_)
        refine a_iast (N := 12) dX11_houseLine_74 (L214 L) (by decide) (by decide) (by omega) (by omega) hr71 ?_
        refine a_aloadn dX11_houseLine_75 rfl ?_
        have ev : C1 43 11 = M1 209 9 := by omega
        obtain ⟨C2, eC2⟩ : ∃ C2, C2 = nmM9 t 1 C1 := ⟨_, rfl⟩
        have e2 : C2 = stT C1 := by rw [eC2, nc, if_neg (by omega), if_neg (by rw [ev, ← ex9]; omega), if_neg (by omega)]
        obtain ⟨N1, eN1⟩ : ∃ N1, N1 = sm M1 214 (6 + M1 209 16) (M1 209 9) := ⟨_, rfl⟩
        have rtN : RTk f n C1 N1 := by rw [eN1]; exact rt1.of rfl rfl rfl rfl (fun i i0 i1 => by rw [sm_n (by decide)]) (sm_n (by decide)) (sm_n (by decide))
        refine a_relVv (as := []) (q := 209) dX11_houseLine_76 mvX11_176 ⟨by decide, by decide⟩ (L209 L) rfl rfl rfl (Nat.le_of_ble_eq_true rfl) ⟨rfl, rfl⟩ ⟨by decide, by decide⟩ (by have z := m_X11_token (G := G) (l := l) (L := L) hP (by rw [rtN.2.2.2.2.1.1]; exact rtN.2.2.2.2.1.2.2) rtN.2.2.2.2.2 rtN.nx; rw [eN1] at z; exact z) (fun M2 hM2 => ?_)
        rw [← eN1] at hM2
        have tsM2 : TkR f n (N1 209 7) N1 M2 := by rw [rtN.2.2.2.2.1.1, rtN.2.2.2.2.1.2.1] at hM2; exact hM2
        have rt2 : RTk f n C2 M2 := by rw [e2]; exact rtN.step (by omega) tsM2
        have c20 : C2 42 6 = 0 := by rw [e2, stT_n _ (by decide)]; exact c0
        have F2 : FrX [214, 215, 216] 16 M M2 := (by rw [eN1] at tsM2; exact (F1.row (by decide) _ _).tr ((tsM2.2.2.2.fl).frx [214, 215, 216] 16))
        have c2n : ∀ k : Nat, k ≠ 43 → C2 k = Mc k := fun k hk => by rw [e2, stT_n _ hk]; exact cn k hk
        refine a_aloadn dX11_houseLine_79 rfl ?_
        refine a_iconst dX11_houseLine_80 ?_
        refine a_bipush (w := 99) dX11_houseLine_81 (by decide) ?_
        refine a_anyV (as := [_, _]) (q := 209) dX11_houseLine_83 mvX11_182 ⟨by decide, by decide⟩ (L209 L) rfl rfl rfl (Nat.le_of_ble_eq_true rfl) ⟨rfl, rfl⟩ ⟨by decide, by decide⟩ (m_X11_number hP rt2 c20 ⟨by omega, by omega, by omega⟩) (fun x83 M3 hM3 => ?_)
        obtain ⟨C3, eC3⟩ : ∃ C3, C3 = tkM 0 99 C2 := ⟨_, rfl⟩
        obtain ⟨u1, u2⟩ := hM3
        rw [← eC3] at u2
        have F3 := F2.tr (u1.frx [214, 215, 216] 16)
        have c3n : ∀ k : Nat, k ≠ 42 → k ≠ 43 → C3 k = Mc k := fun k a b => by rw [eC3, tkM_n _ _ _ a b]; exact c2n k b
        refine a_if_ne (tgt := 91) dX11_houseLine_86 (by decide) ⟨by omega, by omega⟩ (fun hb86 => ?_) (fun hb86 => ?_)
        · refine a_aloadn dX11_houseLine_91 rfl ?_
          refine a_getR (j' := 23) (y := 215) dX11_houseLine_92 flX11_30 rfl rfl (L209 L) (p209_23 hP) ?_
          refine a_bipush (w := 6) dX11_houseLine_95 (by decide) ?_
          refine a_aloadn dX11_houseLine_97 rfl ?_
          refine b_getI (j' := 16) dX11_houseLine_98 flX11_186 rfl rfl (L209 L) (fun hr98 => ?_)
          have e98 : M3 209 16 = Mc t 2 := by rw [u1 209 16 (by omega), tsM2.2.2.2 209 16 (by omega), eN1, sm_n (by decide)]; exact h16a
          refine a_iadd dX11_houseLine_101 ?_
          refine a_aloadn dX11_houseLine_102 rfl ?_
          refine b_getI (j' := 11) dX11_houseLine_103 flX11_173 rfl rfl (L209 L) (fun hr103 => ?_)
          refine a_iast (N := 12) dX11_houseLine_106 (L215 L) (by decide) (by decide) (by omega) (by omega) hr103 ?_
          refine a_aloadn dX11_houseLine_107 rfl ?_
          refine a_iconst dX11_houseLine_108 ?_
          refine a_bipush (w := 9) dX11_houseLine_109 (by decide) ?_
          have v3 := u2.resolve_left (by omega)
          have rtb : RTk f n C3 (sm M3 215 (6 + M3 209 16) (M3 209 11)) := v3.2.2.1.of rfl rfl rfl rfl (fun i i0 i1 => by rw [sm_n (by decide)]) (sm_n (by decide)) (sm_n (by decide))
          refine a_anyV (as := [_, _]) (q := 209) dX11_houseLine_111 mvX11_182 ⟨by decide, by decide⟩ (L209 L) rfl rfl rfl (Nat.le_of_ble_eq_true rfl) ⟨rfl, rfl⟩ ⟨by decide, by decide⟩ (m_X11_number hP rtb v3.2.1 ⟨by omega, by omega, by omega⟩) (fun x111 M4 hM4 => ?_)
          obtain ⟨C4, eC4⟩ : ∃ C4, C4 = tkM 0 9 C3 := ⟨_, rfl⟩
          obtain ⟨w1, w2⟩ := hM4
          rw [← eC4] at w2
          have lr3 := lnV_in 0 99 (M := C2) (by decide)
          have lr4 := lnV_in 0 9 (M := C3) (by decide)
          have F4 := (F3.row (k := 215) (by decide) (6 + M3 209 16) (M3 209 11)).tr (w1.frx [214, 215, 216] 16)
          have c4n : ∀ k : Nat, k ≠ 42 → k ≠ 43 → C4 k = Mc k := fun k a b => by rw [eC4, tkM_n _ _ _ a b]; exact c3n k a b
          refine a_if_ne (tgt := 119) dX11_houseLine_114 (by decide) ⟨by omega, by omega⟩ (fun hb114 => ?_) (fun hb114 => ?_)
          · refine a_aloadn dX11_houseLine_119 rfl ?_
            refine a_getR (j' := 24) (y := 216) dX11_houseLine_120 flX11_33 rfl rfl (L209 L) (p209_24 hP) ?_
            refine a_bipush (w := 6) dX11_houseLine_123 (by decide) ?_
            refine a_aloadn dX11_houseLine_125 rfl ?_
            refine b_getI (j' := 16) dX11_houseLine_126 flX11_186 rfl rfl (L209 L) (fun hr126 => ?_)
            have e126 : M4 209 16 = Mc t 2 := by rw [w1 209 16 (by omega), sm_n (by decide)]; exact e98
            refine a_iadd dX11_houseLine_129 ?_
            refine a_aloadn dX11_houseLine_130 rfl ?_
            refine b_getI (j' := 11) dX11_houseLine_131 flX11_173 rfl rfl (L209 L) (fun hr131 => ?_)
            refine a_iast (N := 12) dX11_houseLine_134 (L216 L) (by decide) (by decide) (by omega) (by omega) hr131 ?_
            refine a_aloadn dX11_houseLine_135 rfl ?_
            refine a_dupR dX11_houseLine_136 ?_
            refine b_getI (j' := 16) dX11_houseLine_137 flX11_186 rfl rfl (L209 L) (fun hr137 => ?_)
            rw [sm_n (show 209 ≠ 216 by decide)] at hr137
            rw [sm_n (show 209 ≠ 216 by decide)]
            refine a_iconst dX11_houseLine_140 ?_
            refine a_iadd dX11_houseLine_141 ?_
            refine a_putI (j' := 16) dX11_houseLine_142 flX11_186 rfl rfl (L209 L) (by decide) rfl ⟨by omega, by omega⟩ ?_
            refine a_iconst dX11_houseLine_145 ?_
            have v4 := w2.resolve_left (by omega)
            have g146 := rh_4 (t := t) (M := Mc) (by omega)
            rw [← eC1, ← eC2, ← eC3, ← eC4, if_neg (by omega), c4n t (by omega) (by omega)] at g146
            have tv1 : tnV C1 = M1 209 9 := by unfold tnV; rw [if_neg (by omega)]; omega
            have lv1 : lnV 0 99 C2 = M3 209 11 := v3.2.2.2.symm
            have lv2 : lnV 0 9 C3 = M4 209 11 := v4.2.2.2.symm
            rw [tv1, lv1, lv2] at g146
            obtain ⟨CX, eCX⟩ : ∃ CX, CX = rhM t Mc := ⟨_, rfl⟩
            rw [← eCX] at g146 ⊢
            have x0 : CX t 2 = Mc t 2 + 1 := by rw [g146, sm_s]
            have xn : ∀ k : Nat, k ≠ t → k ≠ t + 1 → k ≠ t + 2 → k ≠ t + 3 → CX k = C4 k := fun k a b c d => by rw [g146, sm_n a, sm_n d, sm_n c, sm_n b]
            have x1 : CX (t + 1) = us (Mc (t + 1)) (Mc t 2) (M1 209 9) := by rw [g146, sm_n (by omega), sm_n (by omega), sm_n (by omega), sm_k, c4n _ (by omega) (by omega)]
            have x2 : CX (t + 2) = us (Mc (t + 2)) (Mc t 2) (M3 209 11) := by rw [g146, sm_n (by omega), sm_n (by omega), sm_k, sm_n (by omega), c4n _ (by omega) (by omega)]
            have x3 : CX (t + 3) = us (Mc (t + 3)) (Mc t 2) (M4 209 11) := by rw [g146, sm_n (by omega), sm_k, sm_n (by omega), sm_n (by omega), c4n _ (by omega) (by omega)]
            have m4r : M4 214 = us (M 214) (6 + Mc t 2) (M1 209 9) := by rw [w1.row (by decide), sm_n (by decide), u1.row (by decide), tsM2.2.2.2.row (by decide), eN1, sm_k, h16a, fr1.row (by decide)]
            have m4s : M4 215 = us (M 215) (6 + Mc t 2) (M3 209 11) := by rw [w1.row (by decide), sm_k, e98, u1.row (by decide), tsM2.2.2.2.row (by decide), eN1, sm_n (by decide), fr1.row (by decide)]
            have m4t : M4 216 = M 216 := by rw [w1.row (by decide), sm_n (by decide), u1.row (by decide), tsM2.2.2.2.row (by decide), eN1, sm_n (by decide), fr1.row (by decide)]
            rw [e126]
            have rtz : RTk f n CX (sm (sm M4 216 (6 + Mc t 2) (M4 209 11)) 209 16 (Mc t 2 + 1)) := v4.2.2.1.of (xn _ (by omega) (by omega) (by omega) (by omega)) (xn _ (by omega) (by omega) (by omega) (by omega)) (xn _ (by omega) (by omega) (by omega) (by omega)) (xn _ (by omega) (by omega) (by omega) (by omega)) (fun i i0 i1 => by rw [sm_k, us_n (by omega), sm_n (by decide)]) (by rw [sm_n (by decide), sm_n (by decide)]) (by rw [sm_n (by decide), sm_n (by decide)])
            have hox : HoX t CX (sm (sm M4 216 (6 + Mc t 2) (M4 209 11)) 209 16 (Mc t 2 + 1)) := by
              refine ⟨⟨by rw [sm_s, x0], by rw [x0]; omega, fun j j0 j1 => ?_⟩, fun j j0 j1 => ?_⟩
              · rw [x0] at j1
                rw [sm_n (by decide), sm_n (by decide), x1, m4r]
                by_cases ej : j = Mc t 2
                · rw [ej, us_s, us_s]
                · rw [us_n (by omega), us_n ej]; exact hh.1.2.2 j j0 (by omega)
              · rw [x0] at j1
                rw [sm_n (by decide), sm_n (by decide), sm_n (by decide), sm_k, x2, x3, m4s, m4t]
                by_cases ej : j = Mc t 2
                · rw [ej, us_s, us_s, us_s, us_s]; exact ⟨rfl, rfl⟩
                · rw [us_n (by omega), us_n ej, us_n (by omega), us_n ej]; exact hh.2 j j0 (by omega)
            exact a_zreturn dX11_houseLine_146 rfl rfl rfl (by omega) (zany_i ⟨(F4.row (by decide) _ _).cnt _, Or.inr ⟨rfl, by rw [g146, sm_n (by omega), sm_n (by omega), sm_n (by omega), sm_n (by omega)]; exact v4.2.1, rtz, hox⟩⟩)
          · refine a_iconst dX11_houseLine_117 ?_
            have v4 := w2.resolve_right (by omega)
            have g118 := rh_4 (t := t) (M := Mc) (by omega)
            rw [← eC1, ← eC2, ← eC3, ← eC4, if_pos v4.2.1] at g118
            exact a_zreturn dX11_houseLine_118 rfl rfl rfl (by omega) (zany_i ⟨F4, Or.inl ⟨rfl, by rw [g118]; exact v4.2.1, by rw [g118]; exact v4.2.2⟩⟩)
        · refine a_iconst dX11_houseLine_89 ?_
          have v3 := u2.resolve_right (by omega)
          have g90 := rh_3 (t := t) (M := Mc) (by omega) (by rw [← eC1, ← eC2, ← eC3]; exact v3.2.1)
          rw [← eC1, ← eC2, ← eC3] at g90
          exact a_zreturn dX11_houseLine_90 rfl rfl rfl (by omega) (zany_i ⟨F3, Or.inl ⟨rfl, by rw [g90]; exact v3.2.1, by rw [g90]; exact v3.2.2⟩⟩)
      · refine a_aloadn dX11_houseLine_53 rfl ?_
        refine a_iconst dX11_houseLine_54 ?_
        refine a_callV (as := [_]) (q := 209) dX11_houseLine_55 mvX11_166 ⟨by decide, by decide⟩ (L209 L) rfl rfl rfl (Nat.le_of_ble_eq_true rfl) ⟨rfl, rfl⟩ ⟨by decide, by decide⟩ (m_X11_wrong ⟨by omega, by omega⟩) ?_
        have ev : C1 43 11 = M1 209 9 := by omega
        have e58 : nmM9 t 1 C1 = flM C1 3 := by rw [nc, if_neg (by omega), if_pos ⟨by decide, by rw [ev, ← ex9]; omega⟩]
        have f58 : nmM9 t 1 C1 42 6 ≠ 0 := by rw [e58, (flM_6 3 c0).1]; decide
        have g58 := rh_2 (t := t) (M := Mc) (by omega) (by rw [← eC1]; exact f58)
        rw [← eC1] at g58
        exact a_zreturn dX11_houseLine_58 rfl rfl rfl (by omega) (zany_i ⟨F1.tr ((((Fl.rf M1).sm (by omega) _).sm (by omega) _).frx [214, 215, 216] 16), Or.inl ⟨rfl, by rw [g58]; exact f58, by rw [g58, e58]; exact wr_ft c0 rt1.2.2.1⟩⟩)
    · refine a_aloadn dX11_houseLine_27 rfl ?_
      refine a_iconst dX11_houseLine_28 ?_
      refine a_callV (as := [_]) (q := 209) dX11_houseLine_29 mvX11_166 ⟨by decide, by decide⟩ (L209 L) rfl rfl rfl (Nat.le_of_ble_eq_true rfl) ⟨rfl, rfl⟩ ⟨by decide, by decide⟩ (m_X11_wrong ⟨by omega, by omega⟩) ?_
      have e32 : nmM9 t 1 C1 = flM C1 1 := by rw [nc, if_pos (by omega)]
      have f32 : nmM9 t 1 C1 42 6 ≠ 0 := by rw [e32, (flM_6 1 c0).1]; decide
      have g32 := rh_2 (t := t) (M := Mc) (by omega) (by rw [← eC1]; exact f32)
      rw [← eC1] at g32
      exact a_zreturn dX11_houseLine_32 rfl rfl rfl (by omega) (zany_i ⟨F1.tr ((((Fl.rf M1).sm (by omega) _).sm (by omega) _).frx [214, 215, 216] 16), Or.inl ⟨rfl, by rw [g32]; exact f32, by rw [g32, e32]; exact wr_ft c0 rt1.2.2.1⟩⟩)
  · refine a_aloadn dX11_houseLine_9 rfl ?_
    refine a_iconst dX11_houseLine_10 ?_
    refine a_callV (as := [_]) (q := 209) dX11_houseLine_11 mvX11_166 ⟨by decide, by decide⟩ (L209 L) rfl rfl rfl (Nat.le_of_ble_eq_true rfl) ⟨rfl, rfl⟩ ⟨by decide, by decide⟩ (m_X11_wrong ⟨by omega, by omega⟩) ?_
    have e14 := rh_1 (t := t) h0 (by omega)
    exact a_zreturn dX11_houseLine_14 rfl rfl rfl (by omega) (zany_i ⟨(((Fl.rf M).sm (by omega) _).sm (by omega) _).frx [214, 215, 216] 16, Or.inl ⟨rfl, by rw [e14, (flM_6 2 h0).1]; decide, by rw [e14]; exact wr_ft h0 t3⟩⟩)
