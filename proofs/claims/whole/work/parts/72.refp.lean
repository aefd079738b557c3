/-- all but the reference's scratch and what it draws -/
def Rd (M0 M : zM) : Prop := ∀ (k : Nat) (i : Int), ¬ (k = 209 ∧ i = 54) → ¬ (k = 231 ∨ k = 232 ∨ k = 240 ∨ (k = 209 ∧ (i = 2 ∨ i = 47 ∨ (55 ≤ i ∧ i ≤ 60))) ∨ ((k = 233 ∨ k = 234 ∨ k = 235) ∧ 6 ≤ i) ∨ ((k = 236 ∨ k = 237) ∧ 36 ≤ i) ∨ (k = 238 ∧ i ≠ 0)) → M k i = M0 k i
theorem Rd.rq {M0 M1 M2 : zM} (h : Rd M0 M1) (h2 : Rq M1 M2) : Rd M0 M2 := fun k i a b => (h2 k i b).trans (h k i a b)
theorem Rd.fb {M0 M1 M2 : zM} (h : Rd M0 M1) (h2 : Fb 1 M1 M2) : Rd M0 M2 := fun k i a b => (h2 k i a (by omega) (by omega) (by omega)).trans (h k i a b)
theorem Rd.back {M0 M : zM} (h : Rd M0 M) : Rq M0 (sm M 209 54 (M0 209 54)) := fun k i b => by
  by_cases e : k = 209
  · subst e
    by_cases e2 : i = 54
    · subst e2; rw [sm_s]
    · rw [sm_k, us_n e2]; exact h 209 i (by omega) b
  · rw [sm_n e]; exact h k i (by omega) b
theorem Rd.rv {P : zP} {M0 M : zM} (h : Rd M0 M) (hv : RV P M0) (h6 : 0 ≤ M 209 60 ∧ M 209 60 ≤ 20) (h5 : 0 ≤ M 209 54 ∧ M 209 54 ≤ 2147483647) : RV P M := by
  have z : Rn M0 (sm M 209 54 (M0 209 54)) := ⟨h.back, by rw [sm_k, us_n (by decide)]; exact h6⟩
  obtain ⟨h1, ⟨⟨a2, a3, a4, a5⟩, a6⟩, a7⟩ := z.rv hv
  have r : ∀ k : Nat, k ≠ 209 → sm M 209 54 (M0 209 54) k = M k := fun k hk => sm_n hk
  have c : ∀ i : Int, i ≠ 54 → sm M 209 54 (M0 209 54) 209 i = M 209 i := fun i hi => by rw [sm_k, us_n hi]
  unfold TxI at a2
  unfold SmI at a4
  unfold LrI KnI at a3
  rw [c 12 (by decide), c 13 (by decide), c 14 (by decide), r 213 (by decide), r 215 (by decide), r 216 (by decide), r 217 (by decide), r 218 (by decide), r 219 (by decide), r 220 (by decide), r 221 (by decide), r 222 (by decide)] at a2
  rw [r 223 (by decide), r 224 (by decide), r 225 (by decide), r 226 (by decide), r 227 (by decide), r 228 (by decide)] at a3
  rw [r 233 (by decide), r 234 (by decide), r 236 (by decide), r 238 (by decide)] at a4
  rw [r 238 (by decide)] at a7
  exact ⟨h1, ⟨⟨a2, a3, a4, h6⟩, h5⟩, a7⟩
/-- the second state as the first; drawn by x -/
def DgG (M : zM) (x : Int) (Mb : zM) : Prop := (∀ j : Int, 0 ≤ j → j < 6 → Mb 233 (6 * 1 + j) = M 233 j ∧ Mb 234 (6 * 1 + j) = M 234 j ∧ Mb 235 (6 * 1 + j) = M 235 j) ∧ (∀ j : Int, 0 ≤ j → j < 36 → Mb 236 (36 * 1 + j) = M 236 j ∧ Mb 237 (36 * 1 + j) = M 237 j) ∧ Mb 238 1 = M 238 0 ∧ (Mb 209 55 = 1 ∧ Mb 209 56 = 0 ∧ Mb 209 57 = 0 ∧ Mb 209 58 = 0 ∧ Mb 209 59 = -1 ∧ Mb 209 60 = M 213 0) ∧ Mb 209 54 = x ∧ Rd M Mb
def chG (M : zM) (nn : Nat) (h o : Int) : Nat → Int → Int → Int → Prop
  | 0, _, acc, r => r = acc
  | n + 1, x, acc, r => ∃ Mb, DgG M x Mb ∧ chG M nn h o n (goR 1 nn Mb 209 54) (if goR 1 nn Mb 237 (36 + 6 * h + o) = 0 then acc else acc + 1) r
theorem DgG.mk {M0 M Mt : zM} (hd : Rd M0 M) (h : LtR M Mt) : DgG M0 (M 209 54) (sm Mt 209 55 1) := by
  obtain ⟨a1, a2, a3, a4, a5⟩ := h
  refine ⟨fun j j0 j1 => ?_, fun j j0 j1 => ?_, ?_, ?_, ?_, ?_⟩
  · rw [sm_n (by decide), sm_n (by decide), sm_n (by decide), ← hd 233 j (by omega) (by omega), ← hd 234 j (by omega) (by omega), ← hd 235 j (by omega) (by omega)]; exact a1 j j0 j1
  · rw [sm_n (by decide), sm_n (by decide), ← hd 236 j (by omega) (by omega), ← hd 237 j (by omega) (by omega)]; exact a2 j j0 j1
  · rw [sm_n (by decide), ← hd 238 0 (by omega) (by omega)]; exact a3
  · rw [sm_k, us_s, us_n (by decide), us_n (by decide), us_n (by decide), us_n (by decide), us_n (by decide), ← hd 213 0 (by omega) (by omega)]
    exact ⟨rfl, a4.2⟩
  · rw [sm_k, us_n (by decide)]; exact a5 209 54 (by omega)
  · exact hd.rq (a5.put _ (by omega))
theorem DgG.rj {P : zP} {M Mb : zM} {x : Int} (hv : RV P M) (h : DgG M x Mb) (hx : 0 ≤ x ∧ x ≤ 2147483647) : RV P Mb ∧ RJ Mb 1 := by
  obtain ⟨a1, a2, a3, a4, a5, a6⟩ := h
  have hv' := a6.rv hv (by rw [a4.2.2.2.2.2]; exact hv.2.1.1.1.2.2.2.2.2.2.2.1) (by rw [a5]; exact hx)
  have hs := hv.2.1.1.2.2.1
  refine ⟨hv', ⟨hv'.2.1.1.1, hv'.2.1.1.2.1, ⟨fun j j0 j1 => ?_, fun j j0 j1 => ?_, fun j j0 j1 => ?_, ?_⟩, hv'.2.1.1.2.2.2⟩, hv'.2.1.2⟩
  · rw [(a1 j j0 j1).1]; have := hs.1 j j0 j1; rwa [show 6 * (0 : Int) + j = j by omega] at this
  · rw [(a1 j j0 j1).2.1]; have := hs.2.1 j j0 j1; rwa [show 6 * (0 : Int) + j = j by omega] at this
  · rw [(a2 j j0 j1).1]; have := hs.2.2.1 j j0 j1; rwa [show 36 * (0 : Int) + j = j by omega] at this
  · rw [a3]; exact hs.2.2.2

set_option maxRecDepth 100000 in
set_option maxHeartbeats 4000000 in
theorem lpX11_chance {G : zG} {l : Launch} {L : Nat} {P : zP} {M0 : zM} {sd n9 h o had : Int} (hv : RV P M0) (rn : 1 ≤ n9 ∧ n9 ≤ 99) (hw : two (M0 209 12) h o) (hh : had = M0 209 54) : ∀ (n : Nat) (i acc : Int) (M : zM) (g0 : 0 ≤ i) (g1 : i + n = 10) (ga : 0 ≤ acc ∧ acc ≤ i) (hd : Rd M0 M) (h54 : 0 ≤ M 209 54 ∧ M 209 54 ≤ 2147483647) (h60 : 0 ≤ M 209 60 ∧ M 209 60 ≤ 20) (Q : Int → Prop) (hQ : ∀ r, chG M0 n9.toNat h o n (M 209 54) acc r → Q r), AW G l mdX11_chance (zany (LAY L) P (fun r M' => Rn M0 M' ∧ Q r)) 49 [some (aR 209), some (aI sd), some (aI n9), some (aI h), some (aI o), some (aL had), none, some (aI acc), some (aI i)] [] (LAY L) P M 0 0 := by
  intro n
  induction n with
  | zero =>
    intro i acc M g0 g1 ga hd h54 h60 Q hQ
    have hP := hv.1
    have hvm := hd.rv hv h60 h54
    have q0 := hv.2.1.1.1.1
    have q9 := hv.2.2
    unfold two at hw
    refine a_iload dX11_chance_49 rfl ?_
    refine a_bipush (w := 10) dX11_chance_51 (by decide) ?_
    refine a_icmp_ge (tgt := 104) dX11_chance_53 (by decide) ⟨by omega, by omega⟩ ⟨by omega, by omega⟩ (fun hb53 => ?_) (fun hb53 => ?_)
    · refine a_aloadn dX11_chance_104 rfl ?_
      refine a_iconst dX11_chance_105 ?_
      refine a_putZ (j' := 55) dX11_chance_106 flX11_334 rfl rfl (L209 L) (by decide) rfl (by omega) ?_
      refine a_aloadn dX11_chance_109 rfl ?_
      refine a_lload dX11_chance_110 rfl ?_
      refine a_putL (j' := 54) dX11_chance_112 flX11_318 rfl rfl (L209 L) (by decide) rfl (by rw [hh]; exact ⟨by have := hv.2.1.2; omega, by have := hv.2.1.2; omega⟩) ?_
      refine a_iload dX11_chance_115 rfl ?_
      have hz : Rn M0 (sm (sm M 209 55 0) 209 54 had) := by
        rw [hh]
        have hd3 : Rd M0 (sm M 209 55 0) := hd.rq ((Rq.rf M).put _ (by omega))
        exact ⟨hd3.back, by rw [sm_k, us_n (by decide), sm_k, us_n (by decide)]; exact h60⟩
      exact a_ireturn dX11_chance_117 rfl rfl rfl (zany_i ⟨hz, hQ _ rfl⟩)
    · exfalso; omega
  | succ n ih =>
    intro i acc M g0 g1 ga hd h54 h60 Q hQ
    have hP := hv.1
    have hvm := hd.rv hv h60 h54
    have q0 := hv.2.1.1.1.1
    have q9 := hv.2.2
    unfold two at hw
    refine a_iload dX11_chance_49 rfl ?_
    refine a_bipush (w := 10) dX11_chance_51 (by decide) ?_
    refine a_icmp_ge (tgt := 104) dX11_chance_53 (by decide) ⟨by omega, by omega⟩ ⟨by omega, by omega⟩ (fun hb53 => ?_) (fun hb53 => ?_)
    · exfalso; omega
    · refine a_aloadn dX11_chance_56 rfl ?_
      refine a_relVv (as := []) (q := 209) dX11_chance_57 mvX11_424 ⟨by decide, by decide⟩ (L209 L) rfl rfl rfl (Nat.le_of_ble_eq_true rfl) ⟨rfl, rfl⟩ ⟨by decide, by decide⟩ (m_X11_layTried hP) (fun Mt hMt => ?_)
      refine a_aloadn dX11_chance_60 rfl ?_
      refine a_iconst dX11_chance_61 ?_
      refine a_putZ (j' := 55) dX11_chance_62 flX11_334 rfl rfl (L209 L) (by decide) rfl (by omega) ?_
      refine a_aloadn dX11_chance_65 rfl ?_
      refine a_iloadn dX11_chance_66 rfl ?_
      have hd1 := DgG.mk hd hMt
      have hj := hd1.rj hv h54
      refine a_relVv (as := [_]) (q := 209) dX11_chance_67 mvX11_427 ⟨by decide, by decide⟩ (L209 L) rfl rfl rfl (Nat.le_of_ble_eq_true rfl) ⟨rfl, rfl⟩ ⟨by decide, by decide⟩ (m_X11_goMany hP ⟨by omega, by omega⟩ (Es.rf _) hj.2 (by rw [hd1.2.2.1]; omega)) (fun M2 hM2 => ?_)
      have hG := goR_all (b := 1) n9.toNat (sm Mt 209 55 1) hj.2 (by rw [hd1.2.2.1]; omega)
      have hd2 : Rd M0 M2 := ((hd1.2.2.2.2.2).fb hG.1).rq hM2.rq
      have e54 : M2 209 54 = goR 1 n9.toNat (sm Mt 209 55 1) 209 54 := hM2 209 54 (by decide) (by decide) (by omega)
      have e60 : M2 209 60 = M0 213 0 := by rw [hM2 209 60 (by decide) (by decide) (by omega), hG.2.2.2 60 (by decide)]; exact hd1.2.2.2.1.2.2.2.2.2
      have q54 : 0 ≤ M2 209 54 ∧ M2 209 54 ≤ 2147483647 := by rw [e54]; exact hG.2.1.2
      have q60 : 0 ≤ M2 209 60 ∧ M2 209 60 ≤ 20 := by rw [e60]; exact hv.2.1.1.1.2.2.2.2.2.2.2.1
      refine a_iload dX11_chance_70 rfl ?_
      refine a_aloadn dX11_chance_72 rfl ?_
      refine a_getR (j' := 52) (y := 237) dX11_chance_73 flX11_97 rfl rfl (L209 L) (p209_52 hP) ?_
      refine a_bipush (w := 36) dX11_chance_76 (by decide) ?_
      refine a_bipush (w := 6) dX11_chance_78 (by decide) ?_
      refine a_iloadn dX11_chance_80 rfl ?_
      refine a_imul dX11_chance_81 ?_
      refine a_iadd dX11_chance_82 ?_
      refine a_iload dX11_chance_83 rfl ?_
      refine a_iadd dX11_chance_85 ?_
      refine b_zald (N := 72) dX11_chance_86 (L237 L) (by decide) (by omega) (by omega) (fun hr86 => ?_)
      have e86 : M2 237 (36 + 6 * h + o) = goR 1 n9.toNat (sm Mt 209 55 1) 237 (36 + 6 * h + o) := by rw [hM2.row (k := 237) (by decide) (by decide) (by decide)]
      rw [e86] at hr86
      rw [e86]
      refine a_if_eq (tgt := 94) dX11_chance_87 (by decide) (by rcases hr86 with z | z <;> exact ⟨by omega, by omega⟩) (fun hb87 => ?_) (fun hb87 => ?_)
      · refine a_iconst dX11_chance_94 ?_
        refine a_iadd dX11_chance_95 ?_
        refine c_istore (ls' := [_, _, _, _, _, _, _, _, _]) dX11_chance_96 (by decide) rfl rfl ?_
        refine c_iinc (ls' := [_, _, _, _, _, _, _, _, _]) dX11_chance_98 rfl (by decide) rfl rfl ?_
        refine a_goto (tgt := 49) dX11_chance_101 (by decide) ?_
        first
        | (refine ih _ _ M2 (by omega) (by omega) (by omega) hd2 q54 q60 Q (fun r hr => hQ r ⟨_, hd1, ?_⟩)
           rw [e54] at hr
           rw [if_pos (by omega)]
           try rw [Int.add_zero] at hr
           exact hr)
        | (refine ih _ _ M2 (by omega) (by omega) (by omega) hd2 q54 q60 Q (fun r hr => hQ r ⟨_, hd1, ?_⟩)
           rw [e54] at hr
           rw [if_neg (by omega)]
           exact hr)
      · refine a_iconst dX11_chance_90 ?_
        refine a_goto (tgt := 95) dX11_chance_91 (by decide) ?_
        refine a_iadd dX11_chance_95 ?_
        refine c_istore (ls' := [_, _, _, _, _, _, _, _, _]) dX11_chance_96 (by decide) rfl rfl ?_
        refine c_iinc (ls' := [_, _, _, _, _, _, _, _, _]) dX11_chance_98 rfl (by decide) rfl rfl ?_
        refine a_goto (tgt := 49) dX11_chance_101 (by decide) ?_
        first
        | (refine ih _ _ M2 (by omega) (by omega) (by omega) hd2 q54 q60 Q (fun r hr => hQ r ⟨_, hd1, ?_⟩)
           rw [e54] at hr
           rw [if_pos (by omega)]
           try rw [Int.add_zero] at hr
           exact hr)
        | (refine ih _ _ M2 (by omega) (by omega) (by omega) hd2 q54 q60 Q (fun r hr => hQ r ⟨_, hd1, ?_⟩)
           rw [e54] at hr
           rw [if_neg (by omega)]
           exact hr)

set_option maxRecDepth 100000 in
set_option maxHeartbeats 4000000 in
theorem m_X11_chance {G : zG} {l : Launch} {L : Nat} {P : zP} {M : zM} {sd n9 h o : Int} (hv : RV P M) (rsd : inR sd) (rn9 : inR n9) (rh : inR h) (ro : inR o) : AM G l yX11_chance mdX11_chance [aR 209, aI sd, aI n9, aI h, aI o] (LAY L) P M (zany (LAY L) P (fun r M' => Rn M M' ∧ ((¬ (0 ≤ sd ∧ 1 ≤ n9 ∧ n9 ≤ 99 ∧ two (M 209 12) h o)) ∧ r = -1 ∨ ¬ (¬ (0 ≤ sd ∧ 1 ≤ n9 ∧ n9 ≤ 99 ∧ two (M 209 12) h o)) ∧ chG M n9.toNat h o 10 sd 0 r))) := by
  have hP := hv.1
  have q0 := hv.2.1.1.1.1
  refine AM.go [some (aR 209), some (aI sd), some (aI n9), some (aI h), some (aI o), none, none, none, none] rfl (Nat.le_of_ble_eq_true rfl) ?_ (by decide) rfl rfl
  refine a_aloadn dX11_chance_0 rfl ?_
  refine a_iconst dX11_chance_1 ?_
  refine a_putI (j' := 2) dX11_chance_2 flX11_124 rfl rfl (L209 L) (by decide) rfl ⟨by omega, by omega⟩ ?_
  obtain ⟨Mt, hMt⟩ : ∃ Mt, Mt = sm M 209 2 0 := ⟨_, rfl⟩
  rw [← hMt]
  obtain ⟨hvt, hnt, e12, eT⟩ := th_all hv hMt
  refine a_iloadn dX11_chance_5 rfl ?_
  refine a_if_lt (tgt := 29) dX11_chance_6 (by decide) ⟨by omega, by omega⟩ (fun hb6 => ?_) (fun hb6 => ?_)
  · refine a_iconst dX11_chance_29 ?_
    exact a_ireturn dX11_chance_30 rfl rfl rfl (zany_i ⟨hnt, Or.inl ⟨by omega, rfl⟩⟩)
  · refine a_iloadn dX11_chance_9 rfl ?_
    refine a_iconst dX11_chance_10 ?_
    refine a_bipush (w := 99) dX11_chance_11 (by decide) ?_
    refine a_oneS (as := [_, _, _]) dX11_chance_13 mvX11_169 ⟨by decide, by decide⟩ rfl rfl (Nat.le_of_ble_eq_true rfl) ⟨rfl, rfl⟩ ⟨by decide, by decide⟩ (m_isIn1 ⟨by omega, by omega⟩ ⟨by omega, by omega⟩ ⟨by omega, by omega⟩) (fun x13 hx13 => ?_)
    refine a_if_eq (tgt := 29) dX11_chance_16 (by decide) ⟨by omega, by omega⟩ (fun hb16 => ?_) (fun hb16 => ?_)
    · refine a_iconst dX11_chance_29 ?_
      exact a_ireturn dX11_chance_30 rfl rfl rfl (zany_i ⟨hnt, Or.inl ⟨by omega, rfl⟩⟩)
    · refine a_aloadn dX11_chance_19 rfl ?_
      refine a_iloadn dX11_chance_20 rfl ?_
      refine a_iload dX11_chance_21 rfl ?_
      refine a_oneV (as := [_, _]) (q := 209) dX11_chance_23 mvX11_413 ⟨by decide, by decide⟩ (L209 L) rfl rfl rfl (Nat.le_of_ble_eq_true rfl) ⟨rfl, rfl⟩ ⟨by decide, by decide⟩ (m_areTwo1 (x := h) (y := o) rh ro) (fun x23 hx23 => ?_)
      refine a_if_ne (tgt := 31) dX11_chance_26 (by decide) ⟨by omega, by omega⟩ (fun hb26 => ?_) (fun hb26 => ?_)
      · refine a_aloadn dX11_chance_31 rfl ?_
        refine b_getL (j' := 54) dX11_chance_32 flX11_318 rfl rfl (L209 L) (fun hr32 => ?_)
        rw [eT 209 54 (by omega)] at hr32
        rw [eT 209 54 (by omega)]
        refine c_lstore (ls' := [_, _, _, _, _, _, _, _, _]) dX11_chance_35 (by decide) rfl rfl ?_
        refine a_aloadn dX11_chance_37 rfl ?_
        refine a_iloadn dX11_chance_38 rfl ?_
        refine a_i2l dX11_chance_39 ⟨by omega, by omega⟩ ?_
        refine a_putL (j' := 54) dX11_chance_40 flX11_318 rfl rfl (L209 L) (by decide) rfl ⟨by omega, by omega⟩ ?_
        refine a_iconst dX11_chance_43 ?_
        refine c_istore (ls' := [_, _, _, _, _, _, _, _, _]) dX11_chance_44 (by decide) rfl rfl ?_
        refine a_iconst dX11_chance_46 ?_
        refine c_istore (ls' := [_, _, _, _, _, _, _, _, _]) dX11_chance_47 (by decide) rfl rfl ?_
        have hd : Rd M (sm Mt 209 54 sd) := fun k i a b => by
          by_cases e : k = 209
          · subst e; rw [sm_k, us_n (fun z => a ⟨rfl, z⟩)]; exact hnt.1 209 i b
          · rw [sm_n e]; exact hnt.1 k i b
        refine AW.mono2 (lpX11_chance hv (n9 := n9) (h := h) (o := o) ⟨by omega, by omega⟩ (by omega) rfl 10 0 0 _ (by omega) (by omega) (by omega) hd (by rw [sm_s]; omega) (by rw [sm_k, us_n (by decide)]; exact hnt.2) (fun r => chG M n9.toNat h o 10 sd 0 r) (fun r hr => by rw [sm_s] at hr; exact hr)) ?_
        rintro r lay P' M' ⟨z1, z2, x, z3, z4, z5⟩
        exact ⟨z1, z2, x, z3, z4, Or.inr ⟨by omega, z5⟩⟩
      · refine a_iconst dX11_chance_29 ?_
        exact a_ireturn dX11_chance_30 rfl rfl rfl (zany_i ⟨hnt, Or.inl ⟨by omega, rfl⟩⟩)

def sgR : Nat → Int → zM → zM
  | 0, _, M => M
  | n + 1, j, M => sgR n (j + 1) (sm M 234 (6 + j) 9)
/-- how the second state is tried -/
def trR (w i : Int) (M : zM) : zM := sgR (if w = 3 then 6 else 0) 0 (sm (sm (sm (sm M 209 56 (if w = 0 then 1 else 0)) 209 57 (if w = 1 then 1 else 0)) 209 59 (if w = 2 then i else -1)) 209 58 (if w = 4 then 1 else 0))
theorem sgR_Fb : ∀ (n : Nat) (j : Int) (M : zM), 0 ≤ j → j + n ≤ 6 → Fb 1 M (sgR n j M)
  | 0, j, M, _, _ => Fb.rf 1 M
  | n + 1, j, M, h0, h1 => by
    unfold sgR
    exact ((Fb.rf 1 M).sm 9 (by omega)).tr (sgR_Fb n (j + 1) _ (by omega) (by omega))
theorem sgR_I : ∀ (n : Nat) (j : Int) (M : zM), SmI M 1 → SmI (sgR n j M) 1
  | 0, j, M, h => h
  | n + 1, j, M, h => by
    unfold sgR
    exact sgR_I n (j + 1) _ (h.g ⟨by omega, by omega⟩)
theorem sgR_c : ∀ (n : Nat) (j : Int) (M : zM) {k : Nat}, k ≠ 234 → sgR n j M k = M k
  | 0, j, M, k, _ => rfl
  | n + 1, j, M, k, h => by
    unfold sgR
    rw [sgR_c n (j + 1) _ h, sm_n h]

set_option maxRecDepth 100000 in
set_option maxHeartbeats 4000000 in
theorem st1_tried {G : zG} {l : Launch} {L : Nat} {P : zP} {M : zM} {w i nn : Int} {Z : zZ} (hP : PFok P) (rw9 : inR w) (ri : inR i) (kk : AW G l mdX11_tried Z 63 [some (aR 209), some (aI w), some (aI i), some (aI nn), none] [] (LAY L) P (sm M 209 56 (if w = 0 then 1 else 0)) 0 0) : AW G l mdX11_tried Z 50 [some (aR 209), some (aI w), some (aI i), some (aI nn), none] [] (LAY L) P M 0 0 := by
  refine a_aloadn dX11_tried_50 rfl ?_
  refine a_iloadn dX11_tried_51 rfl ?_
  refine a_if_ne (tgt := 59) dX11_tried_52 (by decide) ⟨by omega, by omega⟩ (fun hb52 => ?_) (fun hb52 => ?_)
  · refine a_iconst dX11_tried_59 ?_
    refine a_putZ (j' := 56) dX11_tried_60 flX11_337 rfl rfl (L209 L) (by decide) rfl (by omega) ?_
    first
    | (rw [if_pos (by omega)] at kk; exact kk)
    | (rw [if_neg (by omega)] at kk; exact kk)
  · refine a_iconst dX11_tried_55 ?_
    refine a_goto (tgt := 60) dX11_tried_56 (by decide) ?_
    refine a_putZ (j' := 56) dX11_tried_60 flX11_337 rfl rfl (L209 L) (by decide) rfl (by omega) ?_
    first
    | (rw [if_pos (by omega)] at kk; exact kk)
    | (rw [if_neg (by omega)] at kk; exact kk)

set_option maxRecDepth 100000 in
set_option maxHeartbeats 4000000 in
theorem st2_tried {G : zG} {l : Launch} {L : Nat} {P : zP} {M : zM} {w i nn : Int} {Z : zZ} (hP : PFok P) (rw9 : inR w) (ri : inR i) (kk : AW G l mdX11_tried Z 77 [some (aR 209), some (aI w), some (aI i), some (aI nn), none] [] (LAY L) P (sm M 209 57 (if w = 1 then 1 else 0)) 0 0) : AW G l mdX11_tried Z 63 [some (aR 209), some (aI w), some (aI i), some (aI nn), none] [] (LAY L) P M 0 0 := by
  refine a_aloadn dX11_tried_63 rfl ?_
  refine a_iloadn dX11_tried_64 rfl ?_
  refine a_iconst dX11_tried_65 ?_
  refine a_icmp_ne (tgt := 73) dX11_tried_66 (by decide) ⟨by omega, by omega⟩ ⟨by omega, by omega⟩ (fun hb66 => ?_) (fun hb66 => ?_)
  · refine a_iconst dX11_tried_73 ?_
    refine a_putZ (j' := 57) dX11_tried_74 flX11_340 rfl rfl (L209 L) (by decide) rfl (by omega) ?_
    first
    | (rw [if_pos (by omega)] at kk; exact kk)
    | (rw [if_neg (by omega)] at kk; exact kk)
  · refine a_iconst dX11_tried_69 ?_
    refine a_goto (tgt := 74) dX11_tried_70 (by decide) ?_
    refine a_putZ (j' := 57) dX11_tried_74 flX11_340 rfl rfl (L209 L) (by decide) rfl (by omega) ?_
    first
    | (rw [if_pos (by omega)] at kk; exact kk)
    | (rw [if_neg (by omega)] at kk; exact kk)

set_option maxRecDepth 100000 in
set_option maxHeartbeats 4000000 in
theorem st3_tried {G : zG} {l : Launch} {L : Nat} {P : zP} {M : zM} {w i nn : Int} {Z : zZ} (hP : PFok P) (rw9 : inR w) (ri : inR i) (kk : AW G l mdX11_tried Z 91 [some (aR 209), some (aI w), some (aI i), some (aI nn), none] [] (LAY L) P (sm M 209 59 (if w = 2 then i else -1)) 0 0) : AW G l mdX11_tried Z 77 [some (aR 209), some (aI w), some (aI i), some (aI nn), none] [] (LAY L) P M 0 0 := by
  refine a_aloadn dX11_tried_77 rfl ?_
  refine a_iloadn dX11_tried_78 rfl ?_
  refine a_iconst dX11_tried_79 ?_
  refine a_icmp_ne (tgt := 87) dX11_tried_80 (by decide) ⟨by omega, by omega⟩ ⟨by omega, by omega⟩ (fun hb80 => ?_) (fun hb80 => ?_)
  · refine a_iconst dX11_tried_87 ?_
    refine a_putI (j' := 59) dX11_tried_88 flX11_346 rfl rfl (L209 L) (by decide) rfl ⟨by omega, by omega⟩ ?_
    first
    | (rw [if_pos (by omega)] at kk; exact kk)
    | (rw [if_neg (by omega)] at kk; exact kk)
  · refine a_iloadn dX11_tried_83 rfl ?_
    refine a_goto (tgt := 88) dX11_tried_84 (by decide) ?_
    refine a_putI (j' := 59) dX11_tried_88 flX11_346 rfl rfl (L209 L) (by decide) rfl ⟨by omega, by omega⟩ ?_
    first
    | (rw [if_pos (by omega)] at kk; exact kk)
    | (rw [if_neg (by omega)] at kk; exact kk)

set_option maxRecDepth 100000 in
set_option maxHeartbeats 4000000 in
theorem st4_tried {G : zG} {l : Launch} {L : Nat} {P : zP} {M : zM} {w i nn : Int} {Z : zZ} (hP : PFok P) (rw9 : inR w) (ri : inR i) (kk : AW G l mdX11_tried Z 105 [some (aR 209), some (aI w), some (aI i), some (aI nn), none] [] (LAY L) P (sm M 209 58 (if w = 4 then 1 else 0)) 0 0) : AW G l mdX11_tried Z 91 [some (aR 209), some (aI w), some (aI i), some (aI nn), none] [] (LAY L) P M 0 0 := by
  refine a_aloadn dX11_tried_91 rfl ?_
  refine a_iloadn dX11_tried_92 rfl ?_
  refine a_iconst dX11_tried_93 ?_
  refine a_icmp_ne (tgt := 101) dX11_tried_94 (by decide) ⟨by omega, by omega⟩ ⟨by omega, by omega⟩ (fun hb94 => ?_) (fun hb94 => ?_)
  · refine a_iconst dX11_tried_101 ?_
    refine a_putZ (j' := 58) dX11_tried_102 flX11_343 rfl rfl (L209 L) (by decide) rfl (by omega) ?_
    first
    | (rw [if_pos (by omega)] at kk; exact kk)
    | (rw [if_neg (by omega)] at kk; exact kk)
  · refine a_iconst dX11_tried_97 ?_
    refine a_goto (tgt := 102) dX11_tried_98 (by decide) ?_
    refine a_putZ (j' := 58) dX11_tried_102 flX11_343 rfl rfl (L209 L) (by decide) rfl (by omega) ?_
    first
    | (rw [if_pos (by omega)] at kk; exact kk)
    | (rw [if_neg (by omega)] at kk; exact kk)

set_option maxRecDepth 100000 in
set_option maxHeartbeats 4000000 in
theorem lpX11_tried3 {G : zG} {l : Launch} {L : Nat} {P : zP} {i nn : Int} {Z : zZ} (hP : PFok P) : ∀ (n : Nat) (j : Int) (M : zM) (g0 : 0 ≤ j) (g1 : j + n = 6) (kk : AW G l mdX11_tried Z 138 [some (aR 209), some (aI 3), some (aI i), some (aI nn), none] [] (LAY L) P (sgR n j M) 0 0), AW G l mdX11_tried Z 108 [some (aR 209), some (aI 3), some (aI i), some (aI nn), some (aI j)] [] (LAY L) P M 0 0 := by
  intro n
  induction n with
  | zero =>
    intro j M g0 g1 kk
    refine a_iload dX11_tried_108 rfl ?_
    refine a_bipush (w := 6) dX11_tried_110 (by decide) ?_
    refine a_icmp_ge (tgt := 138) dX11_tried_112 (by decide) ⟨by omega, by omega⟩ ⟨by omega, by omega⟩ (fun hb112 => ?_) (fun hb112 => ?_)
    · refine a_forget [4] (ls' := [_, _, _, _, none]) rfl kk
    · exfalso; omega
  | succ n ih =>
    intro j M g0 g1 kk
    refine a_iload dX11_tried_108 rfl ?_
    refine a_bipush (w := 6) dX11_tried_110 (by decide) ?_
    refine a_icmp_ge (tgt := 138) dX11_tried_112 (by decide) ⟨by omega, by omega⟩ ⟨by omega, by omega⟩ (fun hb112 => ?_) (fun hb112 => ?_)
    · exfalso; omega
    · refine a_iloadn dX11_tried_115 rfl ?_
      refine a_iconst dX11_tried_116 ?_
      refine a_icmp_ne (tgt := 138) dX11_tried_117 (by decide) ⟨by omega, by omega⟩ ⟨by omega, by omega⟩ (fun hb117 => ?_) (fun hb117 => ?_)
      · exfalso; omega
      · refine a_aloadn dX11_tried_120 rfl ?_
        refine a_getR (j' := 49) (y := 234) dX11_tried_121 flX11_88 rfl rfl (L209 L) (p209_49 hP) ?_
        refine a_bipush (w := 6) dX11_tried_124 (by decide) ?_
        refine a_iload dX11_tried_126 rfl ?_
        refine a_iadd dX11_tried_128 ?_
        refine a_bipush (w := 9) dX11_tried_129 (by decide) ?_
        refine a_iast (N := 12) dX11_tried_131 (L234 L) (by decide) (by decide) (by omega) (by omega) ⟨by omega, by omega⟩ ?_
        refine c_iinc (ls' := [_, _, _, _, _]) dX11_tried_132 rfl (by decide) rfl rfl ?_
        refine a_goto (tgt := 108) dX11_tried_135 (by decide) ?_
        simp only [sgR] at kk
        exact ih _ _ (by omega) (by omega) kk

set_option maxRecDepth 100000 in
set_option maxHeartbeats 4000000 in
theorem tl0_tried {G : zG} {l : Launch} {L : Nat} {P : zP} {M : zM} {w i nn : Int} {Z : zZ} (hP : PFok P) (rw9 : inR w) (hw : w ≠ 3) (kk : AW G l mdX11_tried Z 138 [some (aR 209), some (aI w), some (aI i), some (aI nn), none] [] (LAY L) P M 0 0) : AW G l mdX11_tried Z 105 [some (aR 209), some (aI w), some (aI i), some (aI nn), none] [] (LAY L) P M 0 0 := by
  refine a_iconst dX11_tried_105 ?_
  refine c_istore (ls' := [_, _, _, _, _]) dX11_tried_106 (by decide) rfl rfl ?_
  refine a_iload dX11_tried_108 rfl ?_
  refine a_bipush (w := 6) dX11_tried_110 (by decide) ?_
  refine a_icmp_ge (tgt := 138) dX11_tried_112 (by decide) ⟨by omega, by omega⟩ ⟨by omega, by omega⟩ (fun hb112 => ?_) (fun hb112 => ?_)
  · exfalso; omega
  · refine a_iloadn dX11_tried_115 rfl ?_
    refine a_iconst dX11_tried_116 ?_
    refine a_icmp_ne (tgt := 138) dX11_tried_117 (by decide) ⟨by omega, by omega⟩ ⟨by omega, by omega⟩ (fun hb117 => ?_) (fun hb117 => ?_)
    · refine a_forget [4] (ls' := [_, _, _, _, none]) rfl kk
    · exfalso; omega

set_option maxRecDepth 100000 in
set_option maxHeartbeats 4000000 in
theorem tl3_tried {G : zG} {l : Launch} {L : Nat} {P : zP} {M : zM} {i nn : Int} {Z : zZ} (hP : PFok P) (kk : AW G l mdX11_tried Z 138 [some (aR 209), some (aI 3), some (aI i), some (aI nn), none] [] (LAY L) P (sgR 6 0 M) 0 0) : AW G l mdX11_tried Z 105 [some (aR 209), some (aI 3), some (aI i), some (aI nn), none] [] (LAY L) P M 0 0 := by
  refine a_iconst dX11_tried_105 ?_
  refine c_istore (ls' := [_, _, _, _, _]) dX11_tried_106 (by decide) rfl rfl ?_
  exact lpX11_tried3 hP 6 0 M (by omega) (by omega) kk

theorem trR_all {P : zP} {M Mb : zM} (hv : RV P M) (hb : LtR M Mb) (w i : Int) : Rn M (trR w i Mb) ∧ RJ (trR w i Mb) 1 ∧ trR w i Mb 238 1 = M 238 0 ∧ trR w i Mb 209 55 = 0 ∧ trR w i Mb 209 60 = M 213 0 := by
  obtain ⟨b1, b2, b3, b4⟩ := hb.rj hv
  obtain ⟨M4, e4⟩ : ∃ M4, M4 = sm (sm (sm (sm Mb 209 56 (if w = 0 then 1 else 0)) 209 57 (if w = 1 then 1 else 0)) 209 59 (if w = 2 then i else -1)) 209 58 (if w = 4 then 1 else 0) := ⟨_, rfl⟩
  have eT : trR w i Mb = sgR (if w = 3 then 6 else 0) 0 M4 := by unfold trR; rw [e4]
  have r4 : ∀ k : Nat, k ≠ 209 → M4 k = Mb k := fun k hk => by rw [e4, sm_n hk, sm_n hk, sm_n hk, sm_n hk]
  have c4 : ∀ j : Int, ¬ (56 ≤ j ∧ j ≤ 59) → M4 209 j = Mb 209 j := fun j hj => by rw [e4, sm_k, us_n (by omega), sm_k, us_n (by omega), sm_k, us_n (by omega), sm_k, us_n (by omega)]
  have q4 : Rq Mb M4 := fun k j hk => by
    by_cases e : k = 209
    · subst e; exact c4 j (by omega)
    · rw [r4 k e]
  have n4 : Rn M M4 := b1.tr ⟨q4, by rw [c4 60 (by omega)]; exact b1.2⟩
  have v4 := n4.rv hv
  have s4 : SmI M4 1 := by
    have z := b3.1.2.2.1
    unfold SmI at z ⊢
    rw [r4 233 (by decide), r4 234 (by decide), r4 236 (by decide), r4 238 (by decide)]
    exact z
  have f := sgR_Fb (if w = 3 then 6 else 0) 0 M4 (by omega) (by split <;> omega)
  have e209 : trR w i Mb 209 = M4 209 := by rw [eT]; exact sgR_c _ _ _ (by decide)
  have nt : Rn M (trR w i Mb) := n4.tr ⟨by rw [eT]; exact f.rq (by rw [sgR_c _ _ _ (by decide)]), by rw [e209]; exact n4.2⟩
  have vt := nt.rv hv
  refine ⟨nt, ⟨⟨vt.2.1.1.1, vt.2.1.1.2.1, by rw [eT]; exact sgR_I _ _ _ s4, nt.2⟩, vt.2.1.2⟩, ?_, ?_, ?_⟩
  · rw [eT, sgR_c _ _ _ (by decide), r4 238 (by decide)]; exact b4
  · rw [e209, c4 55 (by omega)]; exact hb.2.2.2.1.1
  · rw [e209, c4 60 (by omega)]; exact hb.2.2.2.1.2.2.2.2.2

set_option maxRecDepth 100000 in
set_option maxHeartbeats 4000000 in
theorem tl9_tried {G : zG} {l : Launch} {L : Nat} {P : zP} {M0 Mb M : zM} {w i nn : Int} (hv : RV P M0) (hb : LtR M0 Mb) (hM : M = trR w i Mb) (rn : 0 ≤ nn ∧ nn ≤ 99) : AW G l mdX11_tried (zany (LAY L) P (fun r M' => Rn M0 M' ∧ r = pairsR (goR 1 nn.toNat (trR w i Mb)) 1 - pairsR M0 0)) 138 [some (aR 209), some (aI w), some (aI i), some (aI nn), none] [] (LAY L) P M 0 0 := by
  have hP := hv.1
  have ta := trR_all hv hb w i
  rw [← hM] at ta ⊢
  have q9 := hv.2.2
  have ga := goR_all (b := 1) nn.toNat M ta.2.1 (by rw [ta.2.2.1]; omega)
  have e0 := goR_0 (b := 1) nn.toNat M ta.2.1 (by rw [ta.2.2.1]; omega) ta.2.2.2.1
  refine a_aloadn dX11_tried_138 rfl ?_
  refine a_iloadn dX11_tried_139 rfl ?_
  refine a_relVv (as := [_]) (q := 209) dX11_tried_140 mvX11_427 ⟨by decide, by decide⟩ (L209 L) rfl rfl rfl (Nat.le_of_ble_eq_true rfl) ⟨rfl, rfl⟩ ⟨by decide, by decide⟩ (m_X11_goMany hP ⟨by omega, by omega⟩ (Es.rf M) ta.2.1 (by rw [ta.2.2.1]; omega)) (fun M2 hM2 => ?_)
  have n2 : Rn M0 M2 := (ta.1.tr (M2 := goR 1 nn.toNat M) ⟨ga.1.rq (by rw [e0]), by rw [e0]; exact ta.1.2⟩).es hM2
  have hv2 := n2.rv hv
  have np : Rn M2 (ptM M2) := ptM_rn hv2.2.1.1.1
  have hvp := np.rv hv2
  refine a_aloadn dX11_tried_143 rfl ?_
  refine a_callVv (as := []) (q := 209) dX11_tried_144 mvX11_322 ⟨by decide, by decide⟩ (L209 L) rfl rfl rfl (Nat.le_of_ble_eq_true rfl) ⟨rfl, rfl⟩ ⟨by decide, by decide⟩ (m_X11_plainTried hP) ?_
  refine a_aloadn dX11_tried_147 rfl ?_
  refine a_iconst dX11_tried_148 ?_
  refine a_callV (as := [_]) (q := 209) dX11_tried_149 mvX11_430 ⟨by decide, by decide⟩ (L209 L) rfl rfl rfl (Nat.le_of_ble_eq_true rfl) ⟨rfl, rfl⟩ ⟨by decide, by decide⟩ (m_X11_pairs hP hvp.2.1.1.1 (Or.inr rfl)) ?_
  refine a_aloadn dX11_tried_152 rfl ?_
  refine a_iconst dX11_tried_153 ?_
  refine a_callV (as := [_]) (q := 209) dX11_tried_154 mvX11_430 ⟨by decide, by decide⟩ (L209 L) rfl rfl rfl (Nat.le_of_ble_eq_true rfl) ⟨rfl, rfl⟩ ⟨by decide, by decide⟩ (m_X11_pairs hP hvp.2.1.1.1 (Or.inl rfl)) ?_
  refine a_isub dX11_tried_157 ?_
  exact a_ireturn dX11_tried_158 rfl rfl rfl (zany_i ⟨n2.tr np, by
      show pairsR (ptM M2) 1 - pairsR (ptM M2) 0 = _
      rw [(n2.tr np).1.pairs hv.2.1.1.1, ← hM2.pairs 1]
      have ep : pairsR (ptM M2) 1 = pairsR M2 1 := by
        unfold pairsR
        rw [ptM_n M2 209 12 (by omega), show ptM M2 237 = M2 237 from funext fun j => ptM_n M2 237 j (by omega)]
      rw [ep]⟩)

set_option maxRecDepth 100000 in
set_option maxHeartbeats 4000000 in
theorem m_X11_tried {G : zG} {l : Launch} {L : Nat} {P : zP} {M : zM} {w i nn : Int} (hv : RV P M) (rw : inR w) (ri : inR i) (rnn : inR nn) : AM G l yX11_tried mdX11_tried [aR 209, aI w, aI i, aI nn] (LAY L) P M (zany (LAY L) P (fun r M' => Rn M M' ∧ ((¬ (0 ≤ w ∧ w ≤ 4 ∧ 0 ≤ nn ∧ nn ≤ 99 ∧ ((w = 2 ∧ 0 ≤ i ∧ i < M 209 12) ∨ (w ≠ 2 ∧ i = 0)))) ∧ r = -1 ∨ ¬ (¬ (0 ≤ w ∧ w ≤ 4 ∧ 0 ≤ nn ∧ nn ≤ 99 ∧ ((w = 2 ∧ 0 ≤ i ∧ i < M 209 12) ∨ (w ≠ 2 ∧ i = 0)))) ∧ ∃ Mb, LtR M Mb ∧ r = pairsR (goR 1 nn.toNat (trR w i Mb)) 1 - pairsR M 0))) := by
  have hP := hv.1
  have q0 := hv.2.1.1.1.1
  refine AM.go [some (aR 209), some (aI w), some (aI i), some (aI nn), none] rfl (Nat.le_of_ble_eq_true rfl) ?_ (by decide) rfl rfl
  refine a_aloadn dX11_tried_0 rfl ?_
  refine a_iconst dX11_tried_1 ?_
  refine a_putI (j' := 2) dX11_tried_2 flX11_124 rfl rfl (L209 L) (by decide) rfl ⟨by omega, by omega⟩ ?_
  obtain ⟨Mt, hMt⟩ : ∃ Mt, Mt = sm M 209 2 0 := ⟨_, rfl⟩
  rw [← hMt]
  obtain ⟨hvt, hnt, e12, eT⟩ := th_all hv hMt
  refine a_iloadn dX11_tried_5 rfl ?_
  refine a_iconst dX11_tried_6 ?_
  refine a_iconst dX11_tried_7 ?_
  refine a_oneS (as := [_, _, _]) dX11_tried_8 mvX11_169 ⟨by decide, by decide⟩ rfl rfl (Nat.le_of_ble_eq_true rfl) ⟨rfl, rfl⟩ ⟨by decide, by decide⟩ (m_isIn1 ⟨by omega, by omega⟩ ⟨by omega, by omega⟩ ⟨by omega, by omega⟩) (fun x8 hx8 => ?_)
  refine a_if_eq (tgt := 44) dX11_tried_11 (by decide) ⟨by omega, by omega⟩ (fun hb11 => ?_) (fun hb11 => ?_)
  · refine a_iconst dX11_tried_44 ?_
    exact a_ireturn dX11_tried_45 rfl rfl rfl (zany_i ⟨hnt, Or.inl ⟨by omega, rfl⟩⟩)
  · refine a_iloadn dX11_tried_14 rfl ?_
    refine a_iconst dX11_tried_15 ?_
    refine a_bipush (w := 99) dX11_tried_16 (by decide) ?_
    refine a_oneS (as := [_, _, _]) dX11_tried_18 mvX11_169 ⟨by decide, by decide⟩ rfl rfl (Nat.le_of_ble_eq_true rfl) ⟨rfl, rfl⟩ ⟨by decide, by decide⟩ (m_isIn1 ⟨by omega, by omega⟩ ⟨by omega, by omega⟩ ⟨by omega, by omega⟩) (fun x18 hx18 => ?_)
    refine a_if_eq (tgt := 44) dX11_tried_21 (by decide) ⟨by omega, by omega⟩ (fun hb21 => ?_) (fun hb21 => ?_)
    · refine a_iconst dX11_tried_44 ?_
      exact a_ireturn dX11_tried_45 rfl rfl rfl (zany_i ⟨hnt, Or.inl ⟨by omega, rfl⟩⟩)
    · refine a_iloadn dX11_tried_24 rfl ?_
      refine a_iconst dX11_tried_25 ?_
      refine a_icmp_ne (tgt := 40) dX11_tried_26 (by decide) ⟨by omega, by omega⟩ ⟨by omega, by omega⟩ (fun hb26 => ?_) (fun hb26 => ?_)
      · refine a_iloadn dX11_tried_40 rfl ?_
        refine a_if_eq (tgt := 46) dX11_tried_41 (by decide) ⟨by omega, by omega⟩ (fun hb41 => ?_) (fun hb41 => ?_)
        · refine a_aloadn dX11_tried_46 rfl ?_
          refine a_relVv (as := []) (q := 209) dX11_tried_47 mvX11_424 ⟨by decide, by decide⟩ (L209 L) rfl rfl rfl (Nat.le_of_ble_eq_true rfl) ⟨rfl, rfl⟩ ⟨by decide, by decide⟩ (m_X11_layTried hP) (fun Mb hMb => ?_)
          have hb := hMb.of2 hnt
          refine st1_tried hP rw ri (st2_tried hP rw ri (st3_tried hP rw ri (st4_tried hP rw ri ?_)))
          by_cases c3 : w = 3
          · subst c3
            refine tl3_tried hP ?_
            refine AW.mono2 (tl9_tried (w := 3) (i := i) hv hb (by unfold trR; rfl) ⟨by omega, by omega⟩) ?_
            rintro r lay P' M' ⟨z1, z2, x, z3, z4, z5⟩
            exact ⟨z1, z2, x, z3, z4, Or.inr ⟨by omega, Mb, hb, z5⟩⟩
          · refine tl0_tried hP rw c3 ?_
            refine AW.mono2 (tl9_tried (w := w) (i := i) hv hb (by unfold trR; rw [if_neg c3]; rfl) ⟨by omega, by omega⟩) ?_
            rintro r lay P' M' ⟨z1, z2, x, z3, z4, z5⟩
            exact ⟨z1, z2, x, z3, z4, Or.inr ⟨by omega, Mb, hb, z5⟩⟩
        · refine a_iconst dX11_tried_44 ?_
          exact a_ireturn dX11_tried_45 rfl rfl rfl (zany_i ⟨hnt, Or.inl ⟨by omega, rfl⟩⟩)
      · refine a_aloadn dX11_tried_29 rfl ?_
        refine a_iloadn dX11_tried_30 rfl ?_
        refine a_oneV (as := [_]) (q := 209) dX11_tried_31 mvX11_352 ⟨by decide, by decide⟩ (L209 L) rfl rfl rfl (Nat.le_of_ble_eq_true rfl) ⟨rfl, rfl⟩ ⟨by decide, by decide⟩ (m_isHouse1 (x := i) ri) (fun x31 hx31 => ?_)
        refine a_if_ne (tgt := 46) dX11_tried_34 (by decide) ⟨by omega, by omega⟩ (fun hb34 => ?_) (fun hb34 => ?_)
        · refine a_aloadn dX11_tried_46 rfl ?_
          refine a_relVv (as := []) (q := 209) dX11_tried_47 mvX11_424 ⟨by decide, by decide⟩ (L209 L) rfl rfl rfl (Nat.le_of_ble_eq_true rfl) ⟨rfl, rfl⟩ ⟨by decide, by decide⟩ (m_X11_layTried hP) (fun Mb hMb => ?_)
          have hb := hMb.of2 hnt
          refine st1_tried hP rw ri (st2_tried hP rw ri (st3_tried hP rw ri (st4_tried hP rw ri ?_)))
          by_cases c3 : w = 3
          · subst c3
            refine tl3_tried hP ?_
            refine AW.mono2 (tl9_tried (w := 3) (i := i) hv hb (by unfold trR; rfl) ⟨by omega, by omega⟩) ?_
            rintro r lay P' M' ⟨z1, z2, x, z3, z4, z5⟩
            exact ⟨z1, z2, x, z3, z4, Or.inr ⟨by omega, Mb, hb, z5⟩⟩
          · refine tl0_tried hP rw c3 ?_
            refine AW.mono2 (tl9_tried (w := w) (i := i) hv hb (by unfold trR; rw [if_neg c3]; rfl) ⟨by omega, by omega⟩) ?_
            rintro r lay P' M' ⟨z1, z2, x, z3, z4, z5⟩
            exact ⟨z1, z2, x, z3, z4, Or.inr ⟨by omega, Mb, hb, z5⟩⟩
        · refine a_goto (tgt := 44) dX11_tried_37 (by decide) ?_
          refine a_iconst dX11_tried_44 ?_
          exact a_ireturn dX11_tried_45 rfl rfl rfl (zany_i ⟨hnt, Or.inl ⟨by omega, rfl⟩⟩)
