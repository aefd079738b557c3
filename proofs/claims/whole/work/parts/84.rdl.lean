/-- a law's line, its kind -/
def lkM (M : zM) : Int := if stT M 43 9 = 3 then stT M 43 11 - 8 else -1
def lsM (t w : Nat) (M1 : zM) : zM := lwL t w 701 1 (sm (sm (stT M1) 42 4 0) 42 5 0)
def rlM (t : Nat) (M : zM) : zM := if ¬ (0 ≤ lkM M ∧ lkM M ≤ 2) then flM (stT M) 1 else if 0 < stT M (t + 13 + 2 * (lkM M).toNat) 1 then flM (stT M) 3 else lyA (t + 13 + 2 * (lkM M).toNat) 1 (lsM t (t + 13 + 2 * (lkM M).toNat) (stT M) 42 4).toNat (lsM t (t + 13 + 2 * (lkM M).toNat) (stT M))

set_option maxRecDepth 100000 in
set_option maxHeartbeats 4000000 in
theorem tlX4_rl {G : zG} {l : Launch} {L : Nat} {P : zP} {t w : Nat} {M : zM} {e : Int} (hP : PFok P) (h42 : P 42 1 = some t) (hT : ToA L P t) (ht : t = 4 ∨ t = 23) (h2 : P 42 2 = some w) (hw : LwA L P w) (hwt : w = t + 13 ∨ w = t + 15 ∨ w = t + 17) (hv : LvI t w M) (hR : ∀ i : Int, 0 ≤ i → i < 14 → M 1 i = rnk i) : AW G l mdX4_readLaw (zdet none (LAY L) P (lyA w 1 (M 42 4).toNat M)) 139 [some (aR 42), some (aI e), none, none] [] (LAY L) P M 0 0 := by
  refine a_aloadn dX4_readLaw_139 rfl ?_
  refine a_iconst dX4_readLaw_140 ?_
  refine a_callVv (as := [_]) (q := 42) dX4_readLaw_141 mvX4_163 ⟨by decide, by decide⟩ (L42 L) rfl rfl rfl (Nat.le_of_ble_eq_true rfl) ⟨rfl, rfl⟩ ⟨by decide, by decide⟩ (m_X4_layAside hP h42 hT ht h2 hw hwt ⟨by omega, by omega⟩ hv.2.2.1 hv.2.2.2.1 hR) ?_
  exact a_return dX4_readLaw_144 rfl rfl rfl (zdet_V rfl)

set_option maxRecDepth 100000 in
set_option maxHeartbeats 4000000 in
theorem lpX4_rl {G : zG} {l : Launch} {L : Nat} {P : zP} {t w : Nat} {e : Int} (hP : PFok P) (h42 : P 42 1 = some t) (hT : ToA L P t) (ht : t = 4 ∨ t = 23) (h2 : P 42 2 = some w) (hw : LwA L P w) (hwt : w = t + 13 ∨ w = t + 15 ∨ w = t + 17) : ∀ (n : Nat) (i g : Int) (M : zM) (g0 : 0 ≤ i) (g1 : i + n = 701) (gg : g = 0 ∨ g = 1) (hv : LvI t w M) (hR : ∀ i : Int, 0 ≤ i → i < 14 → M 1 i = rnk i) (hd : WdI M), AW G l mdX4_readLaw (zdet none (LAY L) P (lyA w 1 (lwL t w n g M 42 4).toNat (lwL t w n g M))) 98 [some (aR 42), some (aI e), some (aI g), some (aI i)] [] (LAY L) P M 0 0 := by
  intro n
  induction n with
  | zero =>
    intro i g M g0 g1 gg hv hR hd
    have wf : t < 41 ∧ w + 1 < 42 ∧ (w ≠ t ∧ w + 1 ≠ t) := by omega
    refine a_iloadn dX4_readLaw_98 rfl ?_
    refine a_sipush (w := 700) dX4_readLaw_99 (by decide) ?_
    refine a_icmp_gt (tgt := 139) dX4_readLaw_102 (by decide) ⟨by omega, by omega⟩ ⟨by omega, by omega⟩ (fun hb102 => ?_) (fun hb102 => ?_)
    · refine a_forget [2, 3] (ls' := [_, _, none, none]) rfl ?_
      exact tlX4_rl hP h42 hT ht h2 hw hwt hv hR
    · exfalso; omega
  | succ n ih =>
    intro i g M g0 g1 gg hv hR hd
    have wf : t < 41 ∧ w + 1 < 42 ∧ (w ≠ t ∧ w + 1 ≠ t) := by omega
    refine a_iloadn dX4_readLaw_98 rfl ?_
    refine a_sipush (w := 700) dX4_readLaw_99 (by decide) ?_
    refine a_icmp_gt (tgt := 139) dX4_readLaw_102 (by decide) ⟨by omega, by omega⟩ ⟨by omega, by omega⟩ (fun hb102 => ?_) (fun hb102 => ?_)
    · exfalso; omega
    · refine a_iloadn dX4_readLaw_105 rfl ?_
      refine a_if_eq (tgt := 139) dX4_readLaw_106 (by decide) (by rcases gg with z | z <;> exact ⟨by omega, by omega⟩) (fun hb106 => ?_) (fun hb106 => ?_)
      · refine a_forget [2, 3] (ls' := [_, _, none, none]) rfl ?_
        rw [lwL_s, if_pos (by omega)]
        exact tlX4_rl hP h42 hT ht h2 hw hwt hv hR
      · refine a_aloadn dX4_readLaw_109 rfl ?_
        refine a_callVv (as := []) (q := 42) dX4_readLaw_110 mvX4_156 ⟨by decide, by decide⟩ (L42 L) rfl rfl rfl (Nat.le_of_ble_eq_true rfl) ⟨rfl, rfl⟩ ⟨by decide, by decide⟩ (m_X4_readPart hP h42 hT ht h2 hw hwt hv hR hd) ?_
        have h1 := hv.rpm wf.1 wf.2.1 wf.2.2
        have hR1 : ∀ i : Int, 0 ≤ i → i < 14 → rpM t w M 1 i = rnk i := fun i i0 i1 => by rw [rpM_n t w M (by decide) (by decide) (by decide) (by omega) (by omega) (by omega)]; exact hR i i0 i1
        have j1 := LJ.rpm wf.1 wf.2.1 wf.2.2 hv hd
        have hd1 : WdI (rpM t w M) := hd.of j1.1.1 (rpM_n t w M (by decide) (by decide) (by decide) (by omega) (by omega) (by omega)) (rpM_n t w M (by decide) (by decide) (by decide) (by omega) (by omega) (by omega))
        refine a_aloadn dX4_readLaw_113 rfl ?_
        refine b_getI (j' := 6) dX4_readLaw_114 flX4_43 rfl rfl (L42 L) (fun hr114 => ?_)
        refine a_if_ne (tgt := 131) dX4_readLaw_117 (by decide) ⟨by omega, by omega⟩ (fun hb117 => ?_) (fun hb117 => ?_)
        · refine a_iconst dX4_readLaw_131 ?_
          refine c_istoren (ls' := [_, _, _, _]) dX4_readLaw_132 (by decide) rfl rfl ?_
          refine c_iinc (ls' := [_, _, _, _]) dX4_readLaw_133 rfl (by decide) rfl rfl ?_
          refine a_goto (tgt := 98) dX4_readLaw_136 (by decide) ?_
          rw [lwL_s, if_neg (by omega)]
          by_cases cf : rpM t w M 42 6 ≠ 0
          · rw [if_pos cf]
            first
            | exact ih _ 0 _ (by omega) (by omega) (Or.inl rfl) h1 hR1 hd1
            | (exfalso; omega)
          · rw [if_neg cf]
            have hb := h1.rb wf.1 wf.2.1 wf.2.2 (by omega)
            have hRb : ∀ i : Int, 0 ≤ i → i < 14 → (rbM t w (rpM t w M)).1 1 i = rnk i := fun i i0 i1 => by rw [rbM_n t w _ (by decide) (by decide) (by decide) (by omega) (by omega) (by omega)]; exact hR1 i i0 i1
            have j2 := LJ.rb wf.1 wf.2.1 wf.2.2 h1 (by omega)
            have hdb : WdI (rbM t w (rpM t w M)).1 := hd1.of j2.1.1 (rbM_n t w _ (by decide) (by decide) (by decide) (by omega) (by omega) (by omega)) (rbM_n t w _ (by decide) (by decide) (by decide) (by omega) (by omega) (by omega))
            first
            | (exfalso; omega)
            | (rw [show (rbM t w (rpM t w M)).2 = 0 by omega]; exact ih _ 0 _ (by omega) (by omega) (Or.inl rfl) hb hRb hdb)
            | (rw [show (rbM t w (rpM t w M)).2 = 1 by omega]; exact ih _ 1 _ (by omega) (by omega) (Or.inr rfl) hb hRb hdb)
        · refine a_aloadn dX4_readLaw_120 rfl ?_
          refine a_callV (as := []) (q := 42) dX4_readLaw_121 mvX4_159 ⟨by decide, by decide⟩ (L42 L) rfl rfl rfl (Nat.le_of_ble_eq_true rfl) ⟨rfl, rfl⟩ ⟨by decide, by decide⟩ (m_X4_readBehindPart hP h42 hT ht h2 hw hwt h1 hR1 (by omega)) ?_
          have z2 := rbM_2 t w (rpM t w M)
          refine a_if_eq (tgt := 131) dX4_readLaw_124 (by decide) (by rcases z2 with z | z <;> exact ⟨by omega, by omega⟩) (fun hb124 => ?_) (fun hb124 => ?_)
          · refine a_iconst dX4_readLaw_131 ?_
            refine c_istoren (ls' := [_, _, _, _]) dX4_readLaw_132 (by decide) rfl rfl ?_
            refine c_iinc (ls' := [_, _, _, _]) dX4_readLaw_133 rfl (by decide) rfl rfl ?_
            refine a_goto (tgt := 98) dX4_readLaw_136 (by decide) ?_
            rw [lwL_s, if_neg (by omega)]
            by_cases cf : rpM t w M 42 6 ≠ 0
            · rw [if_pos cf]
              first
              | exact ih _ 0 _ (by omega) (by omega) (Or.inl rfl) h1 hR1 hd1
              | (exfalso; omega)
            · rw [if_neg cf]
              have hb := h1.rb wf.1 wf.2.1 wf.2.2 (by omega)
              have hRb : ∀ i : Int, 0 ≤ i → i < 14 → (rbM t w (rpM t w M)).1 1 i = rnk i := fun i i0 i1 => by rw [rbM_n t w _ (by decide) (by decide) (by decide) (by omega) (by omega) (by omega)]; exact hR1 i i0 i1
              have j2 := LJ.rb wf.1 wf.2.1 wf.2.2 h1 (by omega)
              have hdb : WdI (rbM t w (rpM t w M)).1 := hd1.of j2.1.1 (rbM_n t w _ (by decide) (by decide) (by decide) (by omega) (by omega) (by omega)) (rbM_n t w _ (by decide) (by decide) (by decide) (by omega) (by omega) (by omega))
              first
              | (exfalso; omega)
              | (rw [show (rbM t w (rpM t w M)).2 = 0 by omega]; exact ih _ 0 _ (by omega) (by omega) (Or.inl rfl) hb hRb hdb)
              | (rw [show (rbM t w (rpM t w M)).2 = 1 by omega]; exact ih _ 1 _ (by omega) (by omega) (Or.inr rfl) hb hRb hdb)
          · refine a_iconst dX4_readLaw_127 ?_
            refine a_goto (tgt := 132) dX4_readLaw_128 (by decide) ?_
            refine c_istoren (ls' := [_, _, _, _]) dX4_readLaw_132 (by decide) rfl rfl ?_
            refine c_iinc (ls' := [_, _, _, _]) dX4_readLaw_133 rfl (by decide) rfl rfl ?_
            refine a_goto (tgt := 98) dX4_readLaw_136 (by decide) ?_
            rw [lwL_s, if_neg (by omega)]
            by_cases cf : rpM t w M 42 6 ≠ 0
            · rw [if_pos cf]
              first
              | exact ih _ 0 _ (by omega) (by omega) (Or.inl rfl) h1 hR1 hd1
              | (exfalso; omega)
            · rw [if_neg cf]
              have hb := h1.rb wf.1 wf.2.1 wf.2.2 (by omega)
              have hRb : ∀ i : Int, 0 ≤ i → i < 14 → (rbM t w (rpM t w M)).1 1 i = rnk i := fun i i0 i1 => by rw [rbM_n t w _ (by decide) (by decide) (by decide) (by omega) (by omega) (by omega)]; exact hR1 i i0 i1
              have j2 := LJ.rb wf.1 wf.2.1 wf.2.2 h1 (by omega)
              have hdb : WdI (rbM t w (rpM t w M)).1 := hd1.of j2.1.1 (rbM_n t w _ (by decide) (by decide) (by decide) (by omega) (by omega) (by omega)) (rbM_n t w _ (by decide) (by decide) (by decide) (by omega) (by omega) (by omega))
              first
              | (exfalso; omega)
              | (rw [show (rbM t w (rpM t w M)).2 = 0 by omega]; exact ih _ 0 _ (by omega) (by omega) (Or.inl rfl) hb hRb hdb)
              | (rw [show (rbM t w (rpM t w M)).2 = 1 by omega]; exact ih _ 1 _ (by omega) (by omega) (Or.inr rfl) hb hRb hdb)

set_option maxRecDepth 100000 in
set_option maxHeartbeats 4000000 in
theorem st0X4_rl {G : zG} {l : Launch} {L : Nat} {P : zP} {t : Nat} {M : zM} (hP : PFok P) (h42 : P 42 1 = some t) (hT : ToA L P t) (ht : t = 4 ∨ t = 23) (hv : TV M) (hs : M 43 9 ≠ 0) (h0 : M 42 6 = 0) (hk : 0 ≤ M t 1 ∧ M t 1 ≤ 64) (hR : ∀ i : Int, 0 ≤ i → i < 14 → M 1 i = rnk i) (hd : WdI M) (hl : 0 ≤ M (t + 13) 1 ∧ M (t + 13) 1 ≤ 64) : AW G l mdX4_readLaw (zpe (LAY L) P (fun M' => M' = if 0 < M (t + 13) 1 then flM M 3 else lyA (t + 13) 1 (lsM t (t + 13) M 42 4).toNat (lsM t (t + 13) M))) 48 [some (aR 42), some (aI 0), none, none] [] (LAY L) P M 0 0 := by
  refine a_aloadn dX4_readLaw_48 rfl ?_
  refine a_aloadn dX4_readLaw_49 rfl ?_
  refine a_getR (j' := 1) (y := t) dX4_readLaw_50 flX4_26 rfl rfl (L42 L) h42 ?_
  refine a_getR (j' := 16) (y := (t + 12)) dX4_readLaw_53 flX4_30 rfl rfl hT.1.2.1 hT.1.2.2.2.2.2.2.2.2.2.2.2.2.2.2 ?_
  refine a_iloadn dX4_readLaw_56 rfl ?_
  refine a_aald3 (N := 3) (y := (t + 13)) dX4_readLaw_57 hT.1.2.2.2.2.2.2.2.2.2.2.2.2.2.1 (by decide) (by decide) (by decide) hT.2.1.1 ?_
  refine a_putR (j' := 2) dX4_readLaw_58 flX4_36 rfl rfl (L42 L) (by decide) rfl ?_
  have pe : PE P (sp P 42 2 (some (t + 13))) := PE.sp P _
  obtain ⟨P1, eP⟩ : ∃ P1, P1 = sp P 42 2 (some (t + 13)) := ⟨_, rfl⟩
  rw [← eP] at pe ⊢
  have hP1 : PFok P1 := pe.pf hP
  have h21 : P1 42 2 = some (t + 13) := by rw [eP]; exact sp_s _ _ _ _
  have h421 : P1 42 1 = some t := by rw [pe 42 1 (by omega)]; exact h42
  have hT1 : ToA L P1 t := pe.toa ht hT
  have hw1 : LwA L P1 (t + 13) := hT1.2.1.2
  refine a_aloadn dX4_readLaw_61 rfl ?_
  refine a_getR (j' := 2) (y := (t + 13)) dX4_readLaw_62 flX4_36 rfl rfl (L42 L) h21 ?_
  refine b_getI (j' := 1) dX4_readLaw_65 flX4_145 rfl rfl hw1.2.1 (fun hr65 => ?_)
  refine a_if_le (tgt := 77) dX4_readLaw_68 (by decide) ⟨by omega, by omega⟩ (fun hb68 => ?_) (fun hb68 => ?_)
  · refine a_aloadn dX4_readLaw_77 rfl ?_
    refine a_getR (j' := 0) (y := 43) dX4_readLaw_78 flX4_12 rfl rfl (L42 L) (p42_0 hP1) ?_
    refine a_callVv (as := []) (q := 43) dX4_readLaw_81 mvX4_88 ⟨by decide, by decide⟩ (L43 L) rfl rfl rfl (Nat.le_of_ble_eq_true rfl) ⟨rfl, rfl⟩ ⟨by decide, by decide⟩ (m_X7_step hP1 (hv.lt hs)) ?_
    refine a_aloadn dX4_readLaw_84 rfl ?_
    refine a_iconst dX4_readLaw_85 ?_
    refine a_putI (j' := 4) dX4_readLaw_86 flX4_150 rfl rfl (L42 L) (by decide) rfl ⟨by omega, by omega⟩ ?_
    refine a_aloadn dX4_readLaw_89 rfl ?_
    refine a_iconst dX4_readLaw_90 ?_
    refine a_putI (j' := 5) dX4_readLaw_91 flX4_153 rfl rfl (L42 L) (by decide) rfl ⟨by omega, by omega⟩ ?_
    refine a_iconst dX4_readLaw_94 ?_
    refine c_istoren (ls' := [_, _, _, _]) dX4_readLaw_95 (by decide) rfl rfl ?_
    refine a_iconst dX4_readLaw_96 ?_
    refine c_istoren (ls' := [_, _, _, _]) dX4_readLaw_97 (by decide) rfl rfl ?_
    have hv9 : LvI t (t + 13) (sm (sm (stT M) 42 4 0) 42 5 0) := by
      refine ⟨((hv.st hs).sm (k := 42) (by omega) _ _).sm (k := 42) (by omega) _ _, ?_, ?_, ?_, fun _ => ?_⟩
      · rw [sm_n (by omega), sm_n (by omega), stT_n _ (by omega)]; exact hk
      · unfold AsI
        rw [sm_s, sm_k, us_n (by decide), sm_s]
        exact ⟨by omega, fun j j0 j1 => by omega, by omega⟩
      · rw [sm_n (by omega), sm_n (by omega), stT_n _ (by omega)]; exact hl
      · rw [show sm (sm (stT M) 42 4 0) 42 5 0 42 4 = 0 from by rw [sm_k, us_n (by decide), sm_s], show sm (sm (stT M) 42 4 0) 42 5 0 42 5 = 0 from by rw [sm_s], show sm (sm (stT M) 42 4 0) 42 5 0 t = M t from by rw [sm_n (by omega), sm_n (by omega), stT_n _ (by omega)]]
        exact ⟨rfl, by omega⟩
    refine AW.mono2 (lpX4_rl hP1 h421 hT1 ht h21 hw1 (by omega) 701 0 1 _ (by omega) (by omega) (Or.inr rfl) hv9 (fun j j0 j1 => by rw [sm_n (by decide), sm_n (by decide), stT_n _ (by decide)]; exact hR j j0 j1) (hd.of (by rw [sm_n (by decide), sm_n (by decide)]; exact (stT_4 M).1) (by rw [sm_n (by decide), sm_n (by decide), stT_n _ (by decide)]) (by rw [sm_n (by decide), sm_n (by decide), stT_n _ (by decide)]))) ?_
    rintro r lay P' M' ⟨rfl, rfl, rfl, rfl⟩
    exact ⟨rfl, rfl, pe, by rw [if_neg (by omega)]; rfl⟩
  · refine a_aloadn dX4_readLaw_71 rfl ?_
    refine a_iconst dX4_readLaw_72 ?_
    refine a_callVv (as := [_]) (q := 42) dX4_readLaw_73 mvX4_80 ⟨by decide, by decide⟩ (L42 L) rfl rfl rfl (Nat.le_of_ble_eq_true rfl) ⟨rfl, rfl⟩ ⟨by decide, by decide⟩ (m_X4_fail hP1 ⟨by omega, by omega⟩) ?_
    exact a_return dX4_readLaw_76 rfl rfl rfl ⟨rfl, rfl, pe, by rw [if_pos (by omega)]⟩

set_option maxRecDepth 100000 in
set_option maxHeartbeats 4000000 in
theorem st1X4_rl {G : zG} {l : Launch} {L : Nat} {P : zP} {t : Nat} {M : zM} (hP : PFok P) (h42 : P 42 1 = some t) (hT : ToA L P t) (ht : t = 4 ∨ t = 23) (hv : TV M) (hs : M 43 9 ≠ 0) (h0 : M 42 6 = 0) (hk : 0 ≤ M t 1 ∧ M t 1 ≤ 64) (hR : ∀ i : Int, 0 ≤ i → i < 14 → M 1 i = rnk i) (hd : WdI M) (hl : 0 ≤ M (t + 15) 1 ∧ M (t + 15) 1 ≤ 64) : AW G l mdX4_readLaw (zpe (LAY L) P (fun M' => M' = if 0 < M (t + 15) 1 then flM M 3 else lyA (t + 15) 1 (lsM t (t + 15) M 42 4).toNat (lsM t (t + 15) M))) 48 [some (aR 42), some (aI 1), none, none] [] (LAY L) P M 0 0 := by
  refine a_aloadn dX4_readLaw_48 rfl ?_
  refine a_aloadn dX4_readLaw_49 rfl ?_
  refine a_getR (j' := 1) (y := t) dX4_readLaw_50 flX4_26 rfl rfl (L42 L) h42 ?_
  refine a_getR (j' := 16) (y := (t + 12)) dX4_readLaw_53 flX4_30 rfl rfl hT.1.2.1 hT.1.2.2.2.2.2.2.2.2.2.2.2.2.2.2 ?_
  refine a_iloadn dX4_readLaw_56 rfl ?_
  refine a_aald3 (N := 3) (y := (t + 15)) dX4_readLaw_57 hT.1.2.2.2.2.2.2.2.2.2.2.2.2.2.1 (by decide) (by decide) (by decide) hT.2.2.1.1 ?_
  refine a_putR (j' := 2) dX4_readLaw_58 flX4_36 rfl rfl (L42 L) (by decide) rfl ?_
  have pe : PE P (sp P 42 2 (some (t + 15))) := PE.sp P _
  obtain ⟨P1, eP⟩ : ∃ P1, P1 = sp P 42 2 (some (t + 15)) := ⟨_, rfl⟩
  rw [← eP] at pe ⊢
  have hP1 : PFok P1 := pe.pf hP
  have h21 : P1 42 2 = some (t + 15) := by rw [eP]; exact sp_s _ _ _ _
  have h421 : P1 42 1 = some t := by rw [pe 42 1 (by omega)]; exact h42
  have hT1 : ToA L P1 t := pe.toa ht hT
  have hw1 : LwA L P1 (t + 15) := hT1.2.2.1.2
  refine a_aloadn dX4_readLaw_61 rfl ?_
  refine a_getR (j' := 2) (y := (t + 15)) dX4_readLaw_62 flX4_36 rfl rfl (L42 L) h21 ?_
  refine b_getI (j' := 1) dX4_readLaw_65 flX4_145 rfl rfl hw1.2.1 (fun hr65 => ?_)
  refine a_if_le (tgt := 77) dX4_readLaw_68 (by decide) ⟨by omega, by omega⟩ (fun hb68 => ?_) (fun hb68 => ?_)
  · refine a_aloadn dX4_readLaw_77 rfl ?_
    refine a_getR (j' := 0) (y := 43) dX4_readLaw_78 flX4_12 rfl rfl (L42 L) (p42_0 hP1) ?_
    refine a_callVv (as := []) (q := 43) dX4_readLaw_81 mvX4_88 ⟨by decide, by decide⟩ (L43 L) rfl rfl rfl (Nat.le_of_ble_eq_true rfl) ⟨rfl, rfl⟩ ⟨by decide, by decide⟩ (m_X7_step hP1 (hv.lt hs)) ?_
    refine a_aloadn dX4_readLaw_84 rfl ?_
    refine a_iconst dX4_readLaw_85 ?_
    refine a_putI (j' := 4) dX4_readLaw_86 flX4_150 rfl rfl (L42 L) (by decide) rfl ⟨by omega, by omega⟩ ?_
    refine a_aloadn dX4_readLaw_89 rfl ?_
    refine a_iconst dX4_readLaw_90 ?_
    refine a_putI (j' := 5) dX4_readLaw_91 flX4_153 rfl rfl (L42 L) (by decide) rfl ⟨by omega, by omega⟩ ?_
    refine a_iconst dX4_readLaw_94 ?_
    refine c_istoren (ls' := [_, _, _, _]) dX4_readLaw_95 (by decide) rfl rfl ?_
    refine a_iconst dX4_readLaw_96 ?_
    refine c_istoren (ls' := [_, _, _, _]) dX4_readLaw_97 (by decide) rfl rfl ?_
    have hv9 : LvI t (t + 15) (sm (sm (stT M) 42 4 0) 42 5 0) := by
      refine ⟨((hv.st hs).sm (k := 42) (by omega) _ _).sm (k := 42) (by omega) _ _, ?_, ?_, ?_, fun _ => ?_⟩
      · rw [sm_n (by omega), sm_n (by omega), stT_n _ (by omega)]; exact hk
      · unfold AsI
        rw [sm_s, sm_k, us_n (by decide), sm_s]
        exact ⟨by omega, fun j j0 j1 => by omega, by omega⟩
      · rw [sm_n (by omega), sm_n (by omega), stT_n _ (by omega)]; exact hl
      · rw [show sm (sm (stT M) 42 4 0) 42 5 0 42 4 = 0 from by rw [sm_k, us_n (by decide), sm_s], show sm (sm (stT M) 42 4 0) 42 5 0 42 5 = 0 from by rw [sm_s], show sm (sm (stT M) 42 4 0) 42 5 0 t = M t from by rw [sm_n (by omega), sm_n (by omega), stT_n _ (by omega)]]
        exact ⟨rfl, by omega⟩
    refine AW.mono2 (lpX4_rl hP1 h421 hT1 ht h21 hw1 (by omega) 701 0 1 _ (by omega) (by omega) (Or.inr rfl) hv9 (fun j j0 j1 => by rw [sm_n (by decide), sm_n (by decide), stT_n _ (by decide)]; exact hR j j0 j1) (hd.of (by rw [sm_n (by decide), sm_n (by decide)]; exact (stT_4 M).1) (by rw [sm_n (by decide), sm_n (by decide), stT_n _ (by decide)]) (by rw [sm_n (by decide), sm_n (by decide), stT_n _ (by decide)]))) ?_
    rintro r lay P' M' ⟨rfl, rfl, rfl, rfl⟩
    exact ⟨rfl, rfl, pe, by rw [if_neg (by omega)]; rfl⟩
  · refine a_aloadn dX4_readLaw_71 rfl ?_
    refine a_iconst dX4_readLaw_72 ?_
    refine a_callVv (as := [_]) (q := 42) dX4_readLaw_73 mvX4_80 ⟨by decide, by decide⟩ (L42 L) rfl rfl rfl (Nat.le_of_ble_eq_true rfl) ⟨rfl, rfl⟩ ⟨by decide, by decide⟩ (m_X4_fail hP1 ⟨by omega, by omega⟩) ?_
    exact a_return dX4_readLaw_76 rfl rfl rfl ⟨rfl, rfl, pe, by rw [if_pos (by omega)]⟩

set_option maxRecDepth 100000 in
set_option maxHeartbeats 4000000 in
theorem st2X4_rl {G : zG} {l : Launch} {L : Nat} {P : zP} {t : Nat} {M : zM} (hP : PFok P) (h42 : P 42 1 = some t) (hT : ToA L P t) (ht : t = 4 ∨ t = 23) (hv : TV M) (hs : M 43 9 ≠ 0) (h0 : M 42 6 = 0) (hk : 0 ≤ M t 1 ∧ M t 1 ≤ 64) (hR : ∀ i : Int, 0 ≤ i → i < 14 → M 1 i = rnk i) (hd : WdI M) (hl : 0 ≤ M (t + 17) 1 ∧ M (t + 17) 1 ≤ 64) : AW G l mdX4_readLaw (zpe (LAY L) P (fun M' => M' = if 0 < M (t + 17) 1 then flM M 3 else lyA (t + 17) 1 (lsM t (t + 17) M 42 4).toNat (lsM t (t + 17) M))) 48 [some (aR 42), some (aI 2), none, none] [] (LAY L) P M 0 0 := by
  refine a_aloadn dX4_readLaw_48 rfl ?_
  refine a_aloadn dX4_readLaw_49 rfl ?_
  refine a_getR (j' := 1) (y := t) dX4_readLaw_50 flX4_26 rfl rfl (L42 L) h42 ?_
  refine a_getR (j' := 16) (y := (t + 12)) dX4_readLaw_53 flX4_30 rfl rfl hT.1.2.1 hT.1.2.2.2.2.2.2.2.2.2.2.2.2.2.2 ?_
  refine a_iloadn dX4_readLaw_56 rfl ?_
  refine a_aald3 (N := 3) (y := (t + 17)) dX4_readLaw_57 hT.1.2.2.2.2.2.2.2.2.2.2.2.2.2.1 (by decide) (by decide) (by decide) hT.2.2.2.1 ?_
  refine a_putR (j' := 2) dX4_readLaw_58 flX4_36 rfl rfl (L42 L) (by decide) rfl ?_
  have pe : PE P (sp P 42 2 (some (t + 17))) := PE.sp P _
  obtain ⟨P1, eP⟩ : ∃ P1, P1 = sp P 42 2 (some (t + 17)) := ⟨_, rfl⟩
  rw [← eP] at pe ⊢
  have hP1 : PFok P1 := pe.pf hP
  have h21 : P1 42 2 = some (t + 17) := by rw [eP]; exact sp_s _ _ _ _
  have h421 : P1 42 1 = some t := by rw [pe 42 1 (by omega)]; exact h42
  have hT1 : ToA L P1 t := pe.toa ht hT
  have hw1 : LwA L P1 (t + 17) := hT1.2.2.2.2
  refine a_aloadn dX4_readLaw_61 rfl ?_
  refine a_getR (j' := 2) (y := (t + 17)) dX4_readLaw_62 flX4_36 rfl rfl (L42 L) h21 ?_
  refine b_getI (j' := 1) dX4_readLaw_65 flX4_145 rfl rfl hw1.2.1 (fun hr65 => ?_)
  refine a_if_le (tgt := 77) dX4_readLaw_68 (by decide) ⟨by omega, by omega⟩ (fun hb68 => ?_) (fun hb68 => ?_)
  · refine a_aloadn dX4_readLaw_77 rfl ?_
    refine a_getR (j' := 0) (y := 43) dX4_readLaw_78 flX4_12 rfl rfl (L42 L) (p42_0 hP1) ?_
    refine a_callVv (as := []) (q := 43) dX4_readLaw_81 mvX4_88 ⟨by decide, by decide⟩ (L43 L) rfl rfl rfl (Nat.le_of_ble_eq_true rfl) ⟨rfl, rfl⟩ ⟨by decide, by decide⟩ (m_X7_step hP1 (hv.lt hs)) ?_
    refine a_aloadn dX4_readLaw_84 rfl ?_
    refine a_iconst dX4_readLaw_85 ?_
    refine a_putI (j' := 4) dX4_readLaw_86 flX4_150 rfl rfl (L42 L) (by decide) rfl ⟨by omega, by omega⟩ ?_
    refine a_aloadn dX4_readLaw_89 rfl ?_
    refine a_iconst dX4_readLaw_90 ?_
    refine a_putI (j' := 5) dX4_readLaw_91 flX4_153 rfl rfl (L42 L) (by decide) rfl ⟨by omega, by omega⟩ ?_
    refine a_iconst dX4_readLaw_94 ?_
    refine c_istoren (ls' := [_, _, _, _]) dX4_readLaw_95 (by decide) rfl rfl ?_
    refine a_iconst dX4_readLaw_96 ?_
    refine c_istoren (ls' := [_, _, _, _]) dX4_readLaw_97 (by decide) rfl rfl ?_
    have hv9 : LvI t (t + 17) (sm (sm (stT M) 42 4 0) 42 5 0) := by
      refine ⟨((hv.st hs).sm (k := 42) (by omega) _ _).sm (k := 42) (by omega) _ _, ?_, ?_, ?_, fun _ => ?_⟩
      · rw [sm_n (by omega), sm_n (by omega), stT_n _ (by omega)]; exact hk
      · unfold AsI
        rw [sm_s, sm_k, us_n (by decide), sm_s]
        exact ⟨by omega, fun j j0 j1 => by omega, by omega⟩
      · rw [sm_n (by omega), sm_n (by omega), stT_n _ (by omega)]; exact hl
      · rw [show sm (sm (stT M) 42 4 0) 42 5 0 42 4 = 0 from by rw [sm_k, us_n (by decide), sm_s], show sm (sm (stT M) 42 4 0) 42 5 0 42 5 = 0 from by rw [sm_s], show sm (sm (stT M) 42 4 0) 42 5 0 t = M t from by rw [sm_n (by omega), sm_n (by omega), stT_n _ (by omega)]]
        exact ⟨rfl, by omega⟩
    refine AW.mono2 (lpX4_rl hP1 h421 hT1 ht h21 hw1 (by omega) 701 0 1 _ (by omega) (by omega) (Or.inr rfl) hv9 (fun j j0 j1 => by rw [sm_n (by decide), sm_n (by decide), stT_n _ (by decide)]; exact hR j j0 j1) (hd.of (by rw [sm_n (by decide), sm_n (by decide)]; exact (stT_4 M).1) (by rw [sm_n (by decide), sm_n (by decide), stT_n _ (by decide)]) (by rw [sm_n (by decide), sm_n (by decide), stT_n _ (by decide)]))) ?_
    rintro r lay P' M' ⟨rfl, rfl, rfl, rfl⟩
    exact ⟨rfl, rfl, pe, by rw [if_neg (by omega)]; rfl⟩
  · refine a_aloadn dX4_readLaw_71 rfl ?_
    refine a_iconst dX4_readLaw_72 ?_
    refine a_callVv (as := [_]) (q := 42) dX4_readLaw_73 mvX4_80 ⟨by decide, by decide⟩ (L42 L) rfl rfl rfl (Nat.le_of_ble_eq_true rfl) ⟨rfl, rfl⟩ ⟨by decide, by decide⟩ (m_X4_fail hP1 ⟨by omega, by omega⟩) ?_
    exact a_return dX4_readLaw_76 rfl rfl rfl ⟨rfl, rfl, pe, by rw [if_pos (by omega)]⟩

set_option maxRecDepth 100000 in
set_option maxHeartbeats 4000000 in
theorem m_X4_readLaw {G : zG} {l : Launch} {L : Nat} {P : zP} {M : zM} {t : Nat} (hP : PFok P) (h42 : P 42 1 = some t) (hT : ToA L P t) (ht : t = 4 ∨ t = 23) (hv : TV M) (hs : M 43 9 ≠ 0) (h0 : M 42 6 = 0) (hk : 0 ≤ M t 1 ∧ M t 1 ≤ 64) (hR : ∀ i : Int, 0 ≤ i → i < 14 → M 1 i = rnk i) (hd : WdI M) (hl : (0 ≤ M (t + 13) 1 ∧ M (t + 13) 1 ≤ 64) ∧ (0 ≤ M (t + 15) 1 ∧ M (t + 15) 1 ≤ 64) ∧ (0 ≤ M (t + 17) 1 ∧ M (t + 17) 1 ≤ 64)) (hV : ∀ i : Int, 0 ≤ i → i < M 43 4 → inR (M 47 i)) : AM G l yX4_readLaw mdX4_readLaw [aR 42] (LAY L) P M (zpe (LAY L) P (fun M' => M' = rlM t M)) := by
  have lt9 := hv.lt hs
  have v1 := hv.st hs
  obtain ⟨s1, s2, s3, s4, s5⟩ := stT_4 M
  have hV1 := hV (M 43 5 + 1) (by omega) (by omega)
  refine AM.go [some (aR 42), none, none, none] rfl (Nat.le_of_ble_eq_true rfl) ?_ (by decide) rfl rfl
  refine a_aloadn dX4_readLaw_0 rfl ?_
  refine a_getR (j' := 0) (y := 43) dX4_readLaw_1 flX4_12 rfl rfl (L42 L) (p42_0 hP) ?_
  refine a_callVv (as := []) (q := 43) dX4_readLaw_4 mvX4_88 ⟨by decide, by decide⟩ (L43 L) rfl rfl rfl (Nat.le_of_ble_eq_true rfl) ⟨rfl, rfl⟩ ⟨by decide, by decide⟩ (m_X7_step hP lt9) ?_
  refine a_aloadn dX4_readLaw_7 rfl ?_
  refine a_getR (j' := 0) (y := 43) dX4_readLaw_8 flX4_12 rfl rfl (L42 L) (p42_0 hP) ?_
  refine b_getI (j' := 9) dX4_readLaw_11 flX4_50 rfl rfl (L43 L) (fun hr11 => ?_)
  refine a_iconst dX4_readLaw_14 ?_
  refine a_icmp_ne (tgt := 31) dX4_readLaw_15 (by decide) hr11 ⟨by omega, by omega⟩ (fun hb15 => ?_) (fun hb15 => ?_)
  · refine a_iconst dX4_readLaw_31 ?_
    refine c_istoren (ls' := [_, _, _, _]) dX4_readLaw_32 (by decide) rfl rfl ?_
    refine a_iloadn dX4_readLaw_33 rfl ?_
    refine a_iconst dX4_readLaw_34 ?_
    refine a_iconst dX4_readLaw_35 ?_
    obtain ⟨k9, ek⟩ : ∃ k9, k9 = lkM M := ⟨_, rfl⟩
    refine a_stk (st' := [aI 2, aI 0, aI k9]) (by rw [ek]; unfold lkM; first | (rw [if_pos (by omega)]; done) | (rw [if_neg (by omega)]; done)) ?_
    refine a_loc (ls' := [some (aR 42), some (aI k9), none, none]) (by rw [ek]; unfold lkM; first | (rw [if_pos (by omega)]; done) | (rw [if_neg (by omega)]; done)) ?_
    have wd := (hd.of s1 (stT_n M (by decide)) (stT_n M (by decide))).at v1
    have kr : inR k9 := by
      rw [ek]
      unfold lkM
      by_cases c9 : stT M 43 9 = 3
      · rw [if_pos c9]; have := wd c9; exact ⟨by omega, by omega⟩
      · rw [if_neg c9]; exact ⟨by omega, by omega⟩
    have ks : 0 ≤ k9 → stT M 43 9 ≠ 0 := by rw [ek]; unfold lkM; intro z; split at z <;> omega
    refine a_oneSN (as := [_, _, _]) dX4_readLaw_36 mvX4_94 ⟨by decide, by decide⟩ rfl rfl (Nat.le_of_ble_eq_true rfl) ⟨rfl, rfl⟩ ⟨by decide, by decide⟩ (m_X10_isWithin kr ⟨by omega, by omega⟩ ⟨by omega, by omega⟩) (fun x36 hx36 => ?_)
    refine a_if_ne (tgt := 48) dX4_readLaw_39 (by decide) (by rcases hx36 with z | z <;> exact ⟨by omega, by omega⟩) (fun hb39 => ?_) (fun hb39 => ?_)
    · have en : ∀ k : Nat, k ≠ 43 → stT M k = M k := fun k hk => stT_n M hk
      have hR1 : ∀ i : Int, 0 ≤ i → i < 14 → stT M 1 i = rnk i := fun i i0 i1 => by rw [en 1 (by decide)]; exact hR i i0 i1
      have hk1 : 0 ≤ stT M t 1 ∧ stT M t 1 ≤ 64 := by rw [en t (by omega)]; exact hk
      have f1 : stT M 42 6 = 0 := by rw [en 42 (by decide)]; exact h0
      rcases (show k9 = 0 ∨ k9 = 1 ∨ k9 = 2 by omega) with e9 | e9 | e9
      · rw [e9] at ek ⊢
        refine AW.mono2 (st0X4_rl hP h42 hT ht v1 (ks (by omega)) f1 hk1 hR1 (hd.of (stT_4 M).1 (en 45 (by decide)) (en 47 (by decide))) (by rw [en (t + 13) (by omega)]; exact hl.1)) ?_
        rintro r lay P' M' ⟨z1, z2, z3, z4⟩
        refine ⟨z1, z2, z3, ?_⟩
        rw [z4]
        unfold rlM
        rw [if_neg (by omega), ← ek]
        rfl
      · rw [e9] at ek ⊢
        refine AW.mono2 (st1X4_rl hP h42 hT ht v1 (ks (by omega)) f1 hk1 hR1 (hd.of (stT_4 M).1 (en 45 (by decide)) (en 47 (by decide))) (by rw [en (t + 15) (by omega)]; exact hl.2.1)) ?_
        rintro r lay P' M' ⟨z1, z2, z3, z4⟩
        refine ⟨z1, z2, z3, ?_⟩
        rw [z4]
        unfold rlM
        rw [if_neg (by omega), ← ek]
        rfl
      · rw [e9] at ek ⊢
        refine AW.mono2 (st2X4_rl hP h42 hT ht v1 (ks (by omega)) f1 hk1 hR1 (hd.of (stT_4 M).1 (en 45 (by decide)) (en 47 (by decide))) (by rw [en (t + 17) (by omega)]; exact hl.2.2)) ?_
        rintro r lay P' M' ⟨z1, z2, z3, z4⟩
        refine ⟨z1, z2, z3, ?_⟩
        rw [z4]
        unfold rlM
        rw [if_neg (by omega), ← ek]
        rfl
    · refine a_aloadn dX4_readLaw_42 rfl ?_
      refine a_iconst dX4_readLaw_43 ?_
      refine a_callVv (as := [_]) (q := 42) dX4_readLaw_44 mvX4_80 ⟨by decide, by decide⟩ (L42 L) rfl rfl rfl (Nat.le_of_ble_eq_true rfl) ⟨rfl, rfl⟩ ⟨by decide, by decide⟩ (m_X4_fail hP ⟨by omega, by omega⟩) ?_
      exact a_return dX4_readLaw_47 rfl rfl rfl ⟨rfl, rfl, PE.rf P, by unfold rlM; rw [if_pos (by omega)]⟩
  · refine a_aloadn dX4_readLaw_18 rfl ?_
    refine a_getR (j' := 0) (y := 43) dX4_readLaw_19 flX4_12 rfl rfl (L42 L) (p42_0 hP) ?_
    refine b_getI (j' := 11) dX4_readLaw_22 flX4_60 rfl rfl (L43 L) (fun hr22 => ?_)
    refine a_bipush (w := 8) dX4_readLaw_25 (by decide) ?_
    refine a_isub dX4_readLaw_27 ?_
    refine a_goto (tgt := 32) dX4_readLaw_28 (by decide) ?_
    refine c_istoren (ls' := [_, _, _, _]) dX4_readLaw_32 (by decide) rfl rfl ?_
    refine a_iloadn dX4_readLaw_33 rfl ?_
    refine a_iconst dX4_readLaw_34 ?_
    refine a_iconst dX4_readLaw_35 ?_
    obtain ⟨k9, ek⟩ : ∃ k9, k9 = lkM M := ⟨_, rfl⟩
    refine a_stk (st' := [aI 2, aI 0, aI k9]) (by rw [ek]; unfold lkM; first | (rw [if_pos (by omega)]; done) | (rw [if_neg (by omega)]; done)) ?_
    refine a_loc (ls' := [some (aR 42), some (aI k9), none, none]) (by rw [ek]; unfold lkM; first | (rw [if_pos (by omega)]; done) | (rw [if_neg (by omega)]; done)) ?_
    have wd := (hd.of s1 (stT_n M (by decide)) (stT_n M (by decide))).at v1
    have kr : inR k9 := by
      rw [ek]
      unfold lkM
      by_cases c9 : stT M 43 9 = 3
      · rw [if_pos c9]; have := wd c9; exact ⟨by omega, by omega⟩
      · rw [if_neg c9]; exact ⟨by omega, by omega⟩
    have ks : 0 ≤ k9 → stT M 43 9 ≠ 0 := by rw [ek]; unfold lkM; intro z; split at z <;> omega
    refine a_oneSN (as := [_, _, _]) dX4_readLaw_36 mvX4_94 ⟨by decide, by decide⟩ rfl rfl (Nat.le_of_ble_eq_true rfl) ⟨rfl, rfl⟩ ⟨by decide, by decide⟩ (m_X10_isWithin kr ⟨by omega, by omega⟩ ⟨by omega, by omega⟩) (fun x36 hx36 => ?_)
    refine a_if_ne (tgt := 48) dX4_readLaw_39 (by decide) (by rcases hx36 with z | z <;> exact ⟨by omega, by omega⟩) (fun hb39 => ?_) (fun hb39 => ?_)
    · have en : ∀ k : Nat, k ≠ 43 → stT M k = M k := fun k hk => stT_n M hk
      have hR1 : ∀ i : Int, 0 ≤ i → i < 14 → stT M 1 i = rnk i := fun i i0 i1 => by rw [en 1 (by decide)]; exact hR i i0 i1
      have hk1 : 0 ≤ stT M t 1 ∧ stT M t 1 ≤ 64 := by rw [en t (by omega)]; exact hk
      have f1 : stT M 42 6 = 0 := by rw [en 42 (by decide)]; exact h0
      rcases (show k9 = 0 ∨ k9 = 1 ∨ k9 = 2 by omega) with e9 | e9 | e9
      · rw [e9] at ek ⊢
        refine AW.mono2 (st0X4_rl hP h42 hT ht v1 (ks (by omega)) f1 hk1 hR1 (hd.of (stT_4 M).1 (en 45 (by decide)) (en 47 (by decide))) (by rw [en (t + 13) (by omega)]; exact hl.1)) ?_
        rintro r lay P' M' ⟨z1, z2, z3, z4⟩
        refine ⟨z1, z2, z3, ?_⟩
        rw [z4]
        unfold rlM
        rw [if_neg (by omega), ← ek]
        rfl
      · rw [e9] at ek ⊢
        refine AW.mono2 (st1X4_rl hP h42 hT ht v1 (ks (by omega)) f1 hk1 hR1 (hd.of (stT_4 M).1 (en 45 (by decide)) (en 47 (by decide))) (by rw [en (t + 15) (by omega)]; exact hl.2.1)) ?_
        rintro r lay P' M' ⟨z1, z2, z3, z4⟩
        refine ⟨z1, z2, z3, ?_⟩
        rw [z4]
        unfold rlM
        rw [if_neg (by omega), ← ek]
        rfl
      · rw [e9] at ek ⊢
        refine AW.mono2 (st2X4_rl hP h42 hT ht v1 (ks (by omega)) f1 hk1 hR1 (hd.of (stT_4 M).1 (en 45 (by decide)) (en 47 (by decide))) (by rw [en (t + 17) (by omega)]; exact hl.2.2)) ?_
        rintro r lay P' M' ⟨z1, z2, z3, z4⟩
        refine ⟨z1, z2, z3, ?_⟩
        rw [z4]
        unfold rlM
        rw [if_neg (by omega), ← ek]
        rfl
    · refine a_aloadn dX4_readLaw_42 rfl ?_
      refine a_iconst dX4_readLaw_43 ?_
      refine a_callVv (as := [_]) (q := 42) dX4_readLaw_44 mvX4_80 ⟨by decide, by decide⟩ (L42 L) rfl rfl rfl (Nat.le_of_ble_eq_true rfl) ⟨rfl, rfl⟩ ⟨by decide, by decide⟩ (m_X4_fail hP ⟨by omega, by omega⟩) ?_
      exact a_return dX4_readLaw_47 rfl rfl rfl ⟨rfl, rfl, PE.rf P, by unfold rlM; rw [if_pos (by omega)]⟩
