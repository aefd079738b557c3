/-- between two tokens of the cutting -/
def CuI (f : Int → Int) (n : Int) (j : Nat) (p : Int) (M0 M : zM) : Prop := M 43 4 = j ∧ M 43 8 = p ∧ M 43 7 = n ∧ skp f n p = plT f n j ∧ (j : Int) ≤ p ∧ p ≤ n ∧ (∀ a : Nat, a < j → M 45 (a : Int) = tkS f n (plT f n a) ∧ M 46 (a : Int) = plT f n a ∧ M 47 (a : Int) = tkV f n (plT f n a) ∧ plT f n a < n) ∧ ∀ k : Nat, k ≠ 43 → k ≠ 45 → k ≠ 46 → k ≠ 47 → M k = M0 k
theorem CuI.ws {f : Int → Int} {n : Int} {j : Nat} {p : Int} {M0 M : zM} (h : CuI f n j p M0 M) (hp : p < n) (hw : f p = 10 ∨ f p = 32) : CuI f n j (p + 1) M0 (sm M 43 8 (p + 1)) := by
  obtain ⟨c1, c2, c3, c4, c5, c6, c7, c8⟩ := h
  refine ⟨by rw [sm_k, us_n (by decide)]; exact c1, by rw [sm_s], by rw [sm_k, us_n (by decide)]; exact c3, ?_, by omega, by omega, fun a ha => ?_, fun k k1 k2 k3 k4 => by rw [sm_n k1]; exact c8 k k1 k2 k3 k4⟩
  · rw [← c4]
    exact (rn_step hp (wsF_1.mpr hw)).symm
  · rw [sm_n (by decide), sm_n (by decide), sm_n (by decide)]; exact c7 a ha
theorem adT_rows (M : zM) (a b c : Int) : adT M a b c 45 = us (M 45) (M 43 4) a ∧ adT M a b c 46 = us (M 46) (M 43 4) b ∧ adT M a b c 47 = us (M 47) (M 43 4) c ∧ adT M a b c 43 = us (M 43) 4 (M 43 4 + 1) ∧ ∀ k : Nat, k ≠ 43 → k ≠ 45 → k ≠ 46 → k ≠ 47 → adT M a b c k = M k := by
  unfold adT
  refine ⟨?_, ?_, ?_, ?_, fun k k1 k2 k3 k4 => ?_⟩
  · rw [sm_n (by decide), sm_n (by decide), sm_n (by decide), sm_k]
  · rw [sm_n (by decide), sm_n (by decide), sm_k, sm_n (by decide)]
  · rw [sm_n (by decide), sm_k, sm_n (by decide), sm_n (by decide)]
  · rw [sm_k, sm_n (by decide), sm_n (by decide), sm_n (by decide)]
  · rw [sm_n k1, sm_n k4, sm_n k3, sm_n k2]
theorem CuI.tok {f : Int → Int} {n : Int} {j : Nat} {p : Int} {M0 M : zM} (h : CuI f n j p M0 M) (hp : p < n) (hw : ¬ (f p = 10 ∨ f p = 32)) : CuI f n (j + 1) (tkE f n p) M0 (adT (sm M 43 8 (tkE f n p)) (tkS f n p) p (tkV f n p)) := by
  obtain ⟨c1, c2, c3, c4, c5, c6, c7, c8⟩ := h
  have e1 : skp f n p = p := rn_stop (fun z => hw (wsF_1.mp z.2))
  have e2 : plT f n j = p := by rw [← c4, e1]
  have e3 : nxT f n (j + 1) = tkE f n p := by show tkE f n (skp f n (nxT f n j)) = _; rw [show skp f n (nxT f n j) = p from e2]
  have q1 := tkE_in f hp
  have q2 := tkE_n f hp
  have e4 : sm M 43 8 (tkE f n p) 43 4 = (j : Int) := by rw [sm_k, us_n (by decide)]; exact c1
  obtain ⟨a1, a2, a3, a4, a5⟩ := adT_rows (sm M 43 8 (tkE f n p)) (tkS f n p) p (tkV f n p)
  rw [e4] at a1 a2 a3 a4
  rw [sm_n (by decide)] at a1 a2 a3
  obtain ⟨A, eA⟩ : ∃ A, A = adT (sm M 43 8 (tkE f n p)) (tkS f n p) p (tkV f n p) := ⟨_, rfl⟩
  rw [← eA] at a1 a2 a3 a4 a5 ⊢
  refine ⟨by rw [a4, us_s]; omega, by rw [a4, us_n (by decide), sm_s], by rw [a4, us_n (by decide), sm_k, us_n (by decide)]; exact c3, ?_, by omega, by omega, fun a ha => ?_, fun k k1 k2 k3 k4 => ?_⟩
  · show skp f n (tkE f n p) = skp f n (nxT f n (j + 1))
    rw [e3]
  · rw [a1, a2, a3]
    by_cases ea : a = j
    · subst ea
      rw [us_s, us_s, us_s, e2]
      exact ⟨rfl, rfl, rfl, hp⟩
    · rw [us_n (by omega), us_n (by omega), us_n (by omega)]
      exact c7 a (by omega)
  · rw [a5 k k1 k2 k3 k4, sm_n k1]; exact c8 k k1 k2 k3 k4
theorem tk_lo {f : Int → Int} {n p : Int} (M : zM) (hp : p < n) (hl : 97 ≤ f p ∧ f p ≤ 122) : (if 6 < rnE (loF f) n p - p then adT (sm M 43 8 (rnE (loF f) n p)) 1 p 0 else if wnF9 (wvF f p (rnE (loF f) n p)) = -1 then adT (sm M 43 8 (rnE (loF f) n p)) 2 p (wvF f p (rnE (loF f) n p)) else adT (sm M 43 8 (rnE (loF f) n p)) 3 p (wnF9 (wvF f p (rnE (loF f) n p)))) = adT (sm M 43 8 (tkE f n p)) (tkS f n p) p (tkV f n p) := by
  have h1 : loF f p ≠ 0 := loF_1.mpr hl
  unfold tkE tkS tkV
  rw [if_neg (show ¬ n ≤ p by omega), if_neg (show ¬ n ≤ p by omega), if_neg (show ¬ n ≤ p by omega), if_pos h1, if_pos h1, if_pos h1]
  by_cases c1 : 6 < rnE (loF f) n p - p
  · rw [if_pos c1, if_pos c1, if_pos c1]
  · rw [if_neg c1, if_neg c1, if_neg c1]
    by_cases c2 : wnF9 (wvF f p (rnE (loF f) n p)) = -1
    · rw [if_pos c2, if_pos c2, if_pos c2]
    · rw [if_neg c2, if_neg c2, if_neg c2]
theorem tk_di {f : Int → Int} {n p : Int} (M : zM) (hp : p < n) (hl : ¬ (97 ≤ f p ∧ f p ≤ 122)) (hd : 48 ≤ f p ∧ f p ≤ 57) : adT (sm M 43 8 (rnE (diF f) n p)) 4 p (nvC f (rnE (diF f) n p - p).toNat p 0) = adT (sm M 43 8 (tkE f n p)) (tkS f n p) p (tkV f n p) := by
  have h1 : ¬ loF f p ≠ 0 := fun z => hl (loF_1.mp z)
  have h2 : diF f p ≠ 0 := diF_1.mpr hd
  unfold tkE tkS tkV
  rw [if_neg (show ¬ n ≤ p by omega), if_neg (show ¬ n ≤ p by omega), if_neg (show ¬ n ≤ p by omega), if_neg h1, if_neg h1, if_neg h1, if_pos h2, if_pos h2, if_pos h2]
theorem tk_sg {f : Int → Int} {n p v : Int} (M : zM) (hp : p < n) (hl : ¬ (97 ≤ f p ∧ f p ≤ 122)) (hd : ¬ (48 ≤ f p ∧ f p ≤ 57)) (hv : v = sgC (f p) (foll f n p)) : adT (sm M 43 8 (p + sgL v)) (if v = -1 then 1 else 5) p v = adT (sm M 43 8 (tkE f n p)) (tkS f n p) p (tkV f n p) := by
  have h1 : ¬ loF f p ≠ 0 := fun z => hl (loF_1.mp z)
  have h2 : ¬ diF f p ≠ 0 := fun z => hd (diF_1.mp z)
  unfold tkE tkS tkV
  rw [if_neg (show ¬ n ≤ p by omega), if_neg (show ¬ n ≤ p by omega), if_neg (show ¬ n ≤ p by omega), if_neg h1, if_neg h1, if_neg h1, if_neg h2, if_neg h2, if_neg h2, ← hv]
/-- a text is cut: its tokens, and the first one stands ready -/
def CuR (f : Int → Int) (n : Int) (N : Nat) (M0 M : zM) : Prop := (N : Int) ≤ n ∧ M 43 4 = N + 1 ∧ M 43 5 = 0 ∧ (M 43 9 = M 45 0 ∧ M 43 10 = M 46 0 ∧ M 43 11 = M 47 0) ∧ (∀ a : Nat, a ≤ N → M 45 (a : Int) = tkS f n (plT f n a) ∧ M 46 (a : Int) = plT f n a ∧ M 47 (a : Int) = tkV f n (plT f n a)) ∧ plT f n N = n ∧ (∀ a : Nat, a < N → plT f n a < n) ∧ ∀ k : Nat, k ≠ 43 → k ≠ 45 → k ≠ 46 → k ≠ 47 → M k = M0 k
theorem CuI.fin {f : Int → Int} {n : Int} {j : Nat} {M0 M : zM} (h : CuI f n j n M0 M) : CuR f n j M0 (stT (sm (adT M 0 n 0) 43 5 (-1))) := by
  obtain ⟨c1, c2, c3, c4, c5, c6, c7, c8⟩ := h
  have e1 : skp f n n = n := rn_stop (by omega)
  have e2 : plT f n j = n := by rw [← c4, e1]
  obtain ⟨A, eA⟩ : ∃ A, A = adT M 0 n 0 := ⟨_, rfl⟩
  have a4 : A 43 4 = (j : Int) + 1 := by rw [eA]; unfold adT; rw [sm_s, c1]
  have r45 : A 45 = us (M 45) j 0 := by rw [eA]; unfold adT; rw [sm_n (by decide), sm_n (by decide), sm_n (by decide), sm_k, c1]
  have r46 : A 46 = us (M 46) j n := by rw [eA]; unfold adT; rw [sm_n (by decide), sm_n (by decide), sm_k, sm_n (by decide), c1]
  have r47 : A 47 = us (M 47) j 0 := by rw [eA]; unfold adT; rw [sm_n (by decide), sm_k, sm_n (by decide), sm_n (by decide), c1]
  have rk : ∀ k : Nat, k ≠ 43 → k ≠ 45 → k ≠ 46 → k ≠ 47 → A k = M0 k := fun k k1 k2 k3 k4 => by rw [eA]; unfold adT; rw [sm_n k1, sm_n k4, sm_n k3, sm_n k2]; exact c8 k k1 k2 k3 k4
  rw [← eA]
  have b5 : sm A 43 5 (-1) 43 5 + 1 = 0 := by rw [sm_s]; rfl
  unfold stT
  rw [b5, sm_n (show 45 ≠ 43 by decide), sm_n (show 46 ≠ 43 by decide), sm_n (show 47 ≠ 43 by decide)]
  refine ⟨c5, ?_, ?_, ?_, fun a ha => ?_, e2, fun a ha => (c7 a ha).2.2.2, fun k k1 k2 k3 k4 => ?_⟩
  · rw [sm_k, us_n (by decide), sm_k, us_n (by decide), sm_k, us_n (by decide), sm_k, us_n (by decide), sm_k, us_n (by decide)]; exact a4
  · rw [sm_k, us_n (by decide), sm_k, us_n (by decide), sm_k, us_n (by decide), sm_s]
  · rw [sm_n (show 45 ≠ 43 by decide), sm_n (show 45 ≠ 43 by decide), sm_n (show 45 ≠ 43 by decide), sm_n (show 45 ≠ 43 by decide), sm_n (show 45 ≠ 43 by decide), sm_n (show 46 ≠ 43 by decide), sm_n (show 46 ≠ 43 by decide), sm_n (show 46 ≠ 43 by decide), sm_n (show 46 ≠ 43 by decide), sm_n (show 46 ≠ 43 by decide), sm_n (show 47 ≠ 43 by decide), sm_n (show 47 ≠ 43 by decide), sm_n (show 47 ≠ 43 by decide), sm_n (show 47 ≠ 43 by decide), sm_n (show 47 ≠ 43 by decide)]
    refine ⟨?_, ?_, ?_⟩
    · rw [sm_k, us_n (by decide), sm_k, us_n (by decide), sm_s]
    · rw [sm_k, us_n (by decide), sm_s]
    · rw [sm_s]
  · rw [sm_n (show 45 ≠ 43 by decide), sm_n (show 45 ≠ 43 by decide), sm_n (show 45 ≠ 43 by decide), sm_n (show 45 ≠ 43 by decide), sm_n (show 45 ≠ 43 by decide), sm_n (show 46 ≠ 43 by decide), sm_n (show 46 ≠ 43 by decide), sm_n (show 46 ≠ 43 by decide), sm_n (show 46 ≠ 43 by decide), sm_n (show 46 ≠ 43 by decide), sm_n (show 47 ≠ 43 by decide), sm_n (show 47 ≠ 43 by decide), sm_n (show 47 ≠ 43 by decide), sm_n (show 47 ≠ 43 by decide), sm_n (show 47 ≠ 43 by decide), r45, r46, r47]
    by_cases ea : a = j
    · subst ea
      rw [us_s, us_s, us_s, e2]
      unfold tkS tkV
      rw [if_pos (by omega), if_pos (by omega)]
      exact ⟨rfl, rfl, rfl⟩
    · have z := c7 a (by omega)
      rw [us_n (by omega), us_n (by omega), us_n (by omega)]
      exact ⟨z.1, z.2.1, z.2.2.1⟩
  · rw [sm_n k1, sm_n k1, sm_n k1, sm_n k1, sm_n k1]; exact rk k k1 k2 k3 k4
theorem PF_off {P : zP} (h : PFok P) {k : Nat} {j : Int} (hn : PFX.all (fun q => !(decide (q.1 = k) && decide (q.2.1 = j))) = true) (v : Option Nat) : PFok (sp P k j v) := by
  intro q hq
  have z := List.all_eq_true.mp hn q hq
  simp only [Bool.not_eq_true', Bool.and_eq_false_iff, decide_eq_false_iff_not] at z
  unfold sp
  by_cases e : q.1 = k
  · rcases z with z | z
    · exact absurd e z
    · rw [if_pos e]
      show (if q.2.1 = j then v else P k q.2.1) = _
      rw [if_neg z, ← e]; exact h q hq
  · rw [if_neg e]; exact h q hq
theorem sp_s (P : zP) (k : Nat) (j : Int) (v : Option Nat) : sp P k j v k j = v := by simp [sp]
theorem sp_k {P : zP} {k : Nat} {i j : Int} {v : Option Nat} (h : i ≠ j) : sp P k j v k i = P k i := by simp [sp, h]

set_option maxRecDepth 100000 in
set_option maxHeartbeats 4000000 in
theorem tlX7_cut {G : zG} {l : Launch} {L : Nat} {P : zP} {M0 M : zM} {nn : Int} {j : Nat} (hP : PFok P) (hn : 0 ≤ nn ∧ nn ≤ 700) (hc : CuI (M0 3) nn j nn M0 M) : AW G l mdX7_cut (zrel none (LAY L) P (fun M' => CuR (M0 3) nn j M0 M')) 143 [some (aR 43), some (aR 3), some (aI nn), none, none] [] (LAY L) P M 0 0 := by
  have c1 := hc.1
  have c3 := hc.2.2.1
  have c5 := hc.2.2.2.2.1
  refine a_aloadn dX7_cut_143 rfl ?_
  refine a_iconst dX7_cut_144 ?_
  refine a_aloadn dX7_cut_145 rfl ?_
  refine b_getI (j' := 7) dX7_cut_146 flX7_41 rfl rfl (L43 L) (fun hr146 => ?_)
  rw [c3] at hr146
  rw [c3]
  refine a_iconst dX7_cut_149 ?_
  refine a_callVv (as := [_, _, _]) (q := 43) dX7_cut_150 mvX7_61 ⟨by decide, by decide⟩ (L43 L) rfl rfl rfl (Nat.le_of_ble_eq_true rfl) ⟨rfl, rfl⟩ ⟨by decide, by decide⟩ (m_X7_add hP (by omega) ⟨by omega, by omega⟩ ⟨by omega, by omega⟩ ⟨by omega, by omega⟩) ?_
  refine a_aloadn dX7_cut_153 rfl ?_
  refine a_iconst dX7_cut_154 ?_
  refine a_putI (j' := 5) dX7_cut_155 flX7_65 rfl rfl (L43 L) (by decide) rfl ⟨by omega, by omega⟩ ?_
  refine a_aloadn dX7_cut_158 rfl ?_
  refine a_callVv (as := []) (q := 43) dX7_cut_159 mvX7_68 ⟨by decide, by decide⟩ (L43 L) rfl rfl rfl (Nat.le_of_ble_eq_true rfl) ⟨rfl, rfl⟩ ⟨by decide, by decide⟩ (m_X7_step hP (by rw [sm_s, sm_k, us_n (by decide)]; unfold adT; rw [sm_s]; omega)) ?_
  exact a_return dX7_cut_162 rfl rfl rfl (zrel_V hc.fin)

set_option maxRecDepth 100000 in
set_option maxHeartbeats 4000000 in
theorem lpX7_cut {G : zG} {l : Launch} {L : Nat} {P : zP} {M0 : zM} {nn : Int} (hP : PFok P) (hsg : P 43 6 = some 3) (hn : 0 ≤ nn ∧ nn ≤ 700) (hL : ∀ k : Int, 0 ≤ k → k < 21 → M0 44 k = lngF k) : ∀ (n : Nat) (i p : Int) (j : Nat) (M : zM) (g0 : 0 ≤ i) (g1 : i ≤ p) (g2 : nn ≤ p + n) (hc : CuI (M0 3) nn j p M0 M), AW G l mdX7_cut (zrel none (LAY L) P (fun M' => ∃ j : Nat, CuR (M0 3) nn j M0 M')) 33 [some (aR 43), some (aR 3), some (aI nn), some (aI i), none] [] (LAY L) P M 0 0 := by
  intro n
  induction n with
  | zero =>
    intro i p j M g0 g1 g2 hc
    obtain ⟨c1, c2, c3, c4, c5, c6, c7, c8⟩ := id hc
    have e3 : M 3 = M0 3 := c8 3 (by decide) (by decide) (by decide) (by decide)
    have hL1 : ∀ k : Int, 0 ≤ k → k < 21 → M 44 k = lngF k := fun k h1 h2 => by rw [c8 44 (by decide) (by decide) (by decide) (by decide)]; exact hL k h1 h2
    refine a_iloadn dX7_cut_33 rfl ?_
    refine a_sipush (w := 700) dX7_cut_34 (by decide) ?_
    refine a_icmp_ge (tgt := 143) dX7_cut_37 (by decide) ⟨by omega, by omega⟩ ⟨by omega, by omega⟩ (fun hb37 => ?_) (fun hb37 => ?_)
    · refine a_forget [3] (ls' := [_, _, _, none, none]) rfl ?_
      have ep : p = nn := by omega
      subst ep
      exact AW.mono2 (tlX7_cut hP hn hc) (fun r lay P' M' z => ⟨z.1, z.2.1, z.2.2.1, j, z.2.2.2⟩)
    · refine a_aloadn dX7_cut_40 rfl ?_
      refine b_getI (j' := 8) dX7_cut_41 flX7_45 rfl rfl (L43 L) (fun hr41 => ?_)
      rw [c2] at hr41
      rw [c2]
      refine a_aloadn dX7_cut_44 rfl ?_
      refine b_getI (j' := 7) dX7_cut_45 flX7_41 rfl rfl (L43 L) (fun hr45 => ?_)
      rw [c3] at hr45
      rw [c3]
      refine a_icmp_ge (tgt := 143) dX7_cut_48 (by decide) ⟨by omega, by omega⟩ ⟨by omega, by omega⟩ (fun hb48 => ?_) (fun hb48 => ?_)
      · refine a_forget [3] (ls' := [_, _, _, none, none]) rfl ?_
        have ep : p = nn := by omega
        subst ep
        exact AW.mono2 (tlX7_cut hP hn hc) (fun r lay P' M' z => ⟨z.1, z.2.1, z.2.2.1, j, z.2.2.2⟩)
      · exfalso; omega
  | succ n ih =>
    intro i p j M g0 g1 g2 hc
    obtain ⟨c1, c2, c3, c4, c5, c6, c7, c8⟩ := id hc
    have e3 : M 3 = M0 3 := c8 3 (by decide) (by decide) (by decide) (by decide)
    have hL1 : ∀ k : Int, 0 ≤ k → k < 21 → M 44 k = lngF k := fun k h1 h2 => by rw [c8 44 (by decide) (by decide) (by decide) (by decide)]; exact hL k h1 h2
    refine a_iloadn dX7_cut_33 rfl ?_
    refine a_sipush (w := 700) dX7_cut_34 (by decide) ?_
    refine a_icmp_ge (tgt := 143) dX7_cut_37 (by decide) ⟨by omega, by omega⟩ ⟨by omega, by omega⟩ (fun hb37 => ?_) (fun hb37 => ?_)
    · refine a_forget [3] (ls' := [_, _, _, none, none]) rfl ?_
      have ep : p = nn := by omega
      subst ep
      exact AW.mono2 (tlX7_cut hP hn hc) (fun r lay P' M' z => ⟨z.1, z.2.1, z.2.2.1, j, z.2.2.2⟩)
    · refine a_aloadn dX7_cut_40 rfl ?_
      refine b_getI (j' := 8) dX7_cut_41 flX7_45 rfl rfl (L43 L) (fun hr41 => ?_)
      rw [c2] at hr41
      rw [c2]
      refine a_aloadn dX7_cut_44 rfl ?_
      refine b_getI (j' := 7) dX7_cut_45 flX7_41 rfl rfl (L43 L) (fun hr45 => ?_)
      rw [c3] at hr45
      rw [c3]
      refine a_icmp_ge (tgt := 143) dX7_cut_48 (by decide) ⟨by omega, by omega⟩ ⟨by omega, by omega⟩ (fun hb48 => ?_) (fun hb48 => ?_)
      · refine a_forget [3] (ls' := [_, _, _, none, none]) rfl ?_
        have ep : p = nn := by omega
        subst ep
        exact AW.mono2 (tlX7_cut hP hn hc) (fun r lay P' M' z => ⟨z.1, z.2.1, z.2.2.1, j, z.2.2.2⟩)
      · refine a_aloadn dX7_cut_51 rfl ?_
        refine a_getR (j' := 6) (y := 3) dX7_cut_52 flX7_24 rfl rfl (L43 L) hsg ?_
        refine a_aloadn dX7_cut_55 rfl ?_
        refine b_getI (j' := 8) dX7_cut_56 flX7_45 rfl rfl (L43 L) (fun hr56 => ?_)
        rw [c2] at hr56
        rw [c2]
        refine b_iald (N := 700) dX7_cut_59 (L3 L) (by decide) (by omega) (by omega) (fun hr59 => ?_)
        rw [e3] at hr59
        rw [e3]
        refine c_istore (ls' := [_, _, _, _, _]) dX7_cut_60 (by decide) rfl rfl ?_
        refine a_iload dX7_cut_62 rfl ?_
        refine a_bipush (w := 32) dX7_cut_64 (by decide) ?_
        refine a_icmp_eq (tgt := 76) dX7_cut_66 (by decide) hr59 ⟨by omega, by omega⟩ (fun hb66 => ?_) (fun hb66 => ?_)
        · refine a_aloadn dX7_cut_76 rfl ?_
          refine a_dupR dX7_cut_77 ?_
          refine b_getI (j' := 8) dX7_cut_78 flX7_45 rfl rfl (L43 L) (fun hr78 => ?_)
          rw [c2] at hr78
          rw [c2]
          refine a_iconst dX7_cut_81 ?_
          refine a_iadd dX7_cut_82 ?_
          refine a_putI (j' := 8) dX7_cut_83 flX7_45 rfl rfl (L43 L) (by decide) rfl ⟨by omega, by omega⟩ ?_
          refine a_goto (tgt := 137) dX7_cut_86 (by decide) ?_
          refine c_iinc (ls' := [_, _, _, _, _]) dX7_cut_137 rfl (by decide) rfl rfl ?_
          refine a_goto (tgt := 33) dX7_cut_140 (by decide) ?_
          refine a_forget [4] (ls' := [_, _, _, _, none]) rfl ?_
          exact ih _ _ j _ (by omega) (by omega) (by omega) (hc.ws (by omega) (by omega))
        · refine a_iload dX7_cut_69 rfl ?_
          refine a_bipush (w := 10) dX7_cut_71 (by decide) ?_
          refine a_icmp_ne (tgt := 89) dX7_cut_73 (by decide) hr59 ⟨by omega, by omega⟩ (fun hb73 => ?_) (fun hb73 => ?_)
          · refine a_iload dX7_cut_89 rfl ?_
            refine a_bipush (w := 97) dX7_cut_91 (by decide) ?_
            refine a_icmp_lt (tgt := 110) dX7_cut_93 (by decide) hr59 ⟨by omega, by omega⟩ (fun hb93 => ?_) (fun hb93 => ?_)
            · refine a_iload dX7_cut_110 rfl ?_
              refine a_bipush (w := 48) dX7_cut_112 (by decide) ?_
              refine a_icmp_lt (tgt := 131) dX7_cut_114 (by decide) hr59 ⟨by omega, by omega⟩ (fun hb114 => ?_) (fun hb114 => ?_)
              · refine a_aloadn dX7_cut_131 rfl ?_
                refine a_iload dX7_cut_132 rfl ?_
                refine a_callVv (as := [_]) (q := 43) dX7_cut_134 mvX7_57 ⟨by decide, by decide⟩ (L43 L) rfl rfl rfl (Nat.le_of_ble_eq_true rfl) ⟨rfl, rfl⟩ ⟨by decide, by decide⟩ (m_X7_cutSign (v := sgC (M0 3 p) (foll (M0 3) nn p)) hP hsg (by omega) (by omega) (by rw [c2, e3]) (by rw [c2, c3, e3]) hr59) ?_
                rw [c2]
                have qe := tkE_in (M0 3) (n := nn) (q := p) (by omega)
                refine a_mem (tk_sg M (by omega) (by omega) (by omega) rfl) ?_
                refine c_iinc (ls' := [_, _, _, _, _]) dX7_cut_137 rfl (by decide) rfl rfl ?_
                refine a_goto (tgt := 33) dX7_cut_140 (by decide) ?_
                refine a_forget [4] (ls' := [_, _, _, _, none]) rfl ?_
                exact ih _ _ (j + 1) _ (by omega) (by omega) (by omega) (hc.tok (by omega) (by omega))
              · refine a_iload dX7_cut_117 rfl ?_
                refine a_bipush (w := 57) dX7_cut_119 (by decide) ?_
                refine a_icmp_gt (tgt := 131) dX7_cut_121 (by decide) hr59 ⟨by omega, by omega⟩ (fun hb121 => ?_) (fun hb121 => ?_)
                · refine a_aloadn dX7_cut_131 rfl ?_
                  refine a_iload dX7_cut_132 rfl ?_
                  refine a_callVv (as := [_]) (q := 43) dX7_cut_134 mvX7_57 ⟨by decide, by decide⟩ (L43 L) rfl rfl rfl (Nat.le_of_ble_eq_true rfl) ⟨rfl, rfl⟩ ⟨by decide, by decide⟩ (m_X7_cutSign (v := sgC (M0 3 p) (foll (M0 3) nn p)) hP hsg (by omega) (by omega) (by rw [c2, e3]) (by rw [c2, c3, e3]) hr59) ?_
                  rw [c2]
                  have qe := tkE_in (M0 3) (n := nn) (q := p) (by omega)
                  refine a_mem (tk_sg M (by omega) (by omega) (by omega) rfl) ?_
                  refine c_iinc (ls' := [_, _, _, _, _]) dX7_cut_137 rfl (by decide) rfl rfl ?_
                  refine a_goto (tgt := 33) dX7_cut_140 (by decide) ?_
                  refine a_forget [4] (ls' := [_, _, _, _, none]) rfl ?_
                  exact ih _ _ (j + 1) _ (by omega) (by omega) (by omega) (hc.tok (by omega) (by omega))
                · refine a_aloadn dX7_cut_124 rfl ?_
                  refine a_callVv (as := []) (q := 43) dX7_cut_125 mvX7_54 ⟨by decide, by decide⟩ (L43 L) rfl rfl rfl (Nat.le_of_ble_eq_true rfl) ⟨rfl, rfl⟩ ⟨by decide, by decide⟩ (m_X7_cutNumber hP hsg (by omega) (by omega) (by rw [c2, e3]; exact diF_1.mpr (by omega))) ?_
                  rw [e3, c2, c3]
                  have qe := tkE_in (M0 3) (n := nn) (q := p) (by omega)
                  refine a_mem (tk_di M (by omega) (by omega) (by omega)) ?_
                  refine a_goto (tgt := 137) dX7_cut_128 (by decide) ?_
                  refine c_iinc (ls' := [_, _, _, _, _]) dX7_cut_137 rfl (by decide) rfl rfl ?_
                  refine a_goto (tgt := 33) dX7_cut_140 (by decide) ?_
                  refine a_forget [4] (ls' := [_, _, _, _, none]) rfl ?_
                  exact ih _ _ (j + 1) _ (by omega) (by omega) (by omega) (hc.tok (by omega) (by omega))
            · refine a_iload dX7_cut_96 rfl ?_
              refine a_bipush (w := 122) dX7_cut_98 (by decide) ?_
              refine a_icmp_gt (tgt := 110) dX7_cut_100 (by decide) hr59 ⟨by omega, by omega⟩ (fun hb100 => ?_) (fun hb100 => ?_)
              · refine a_iload dX7_cut_110 rfl ?_
                refine a_bipush (w := 48) dX7_cut_112 (by decide) ?_
                refine a_icmp_lt (tgt := 131) dX7_cut_114 (by decide) hr59 ⟨by omega, by omega⟩ (fun hb114 => ?_) (fun hb114 => ?_)
                · refine a_aloadn dX7_cut_131 rfl ?_
                  refine a_iload dX7_cut_132 rfl ?_
                  refine a_callVv (as := [_]) (q := 43) dX7_cut_134 mvX7_57 ⟨by decide, by decide⟩ (L43 L) rfl rfl rfl (Nat.le_of_ble_eq_true rfl) ⟨rfl, rfl⟩ ⟨by decide, by decide⟩ (m_X7_cutSign (v := sgC (M0 3 p) (foll (M0 3) nn p)) hP hsg (by omega) (by omega) (by rw [c2, e3]) (by rw [c2, c3, e3]) hr59) ?_
                  rw [c2]
                  have qe := tkE_in (M0 3) (n := nn) (q := p) (by omega)
                  refine a_mem (tk_sg M (by omega) (by omega) (by omega) rfl) ?_
                  refine c_iinc (ls' := [_, _, _, _, _]) dX7_cut_137 rfl (by decide) rfl rfl ?_
                  refine a_goto (tgt := 33) dX7_cut_140 (by decide) ?_
                  refine a_forget [4] (ls' := [_, _, _, _, none]) rfl ?_
                  exact ih _ _ (j + 1) _ (by omega) (by omega) (by omega) (hc.tok (by omega) (by omega))
                · refine a_iload dX7_cut_117 rfl ?_
                  refine a_bipush (w := 57) dX7_cut_119 (by decide) ?_
                  refine a_icmp_gt (tgt := 131) dX7_cut_121 (by decide) hr59 ⟨by omega, by omega⟩ (fun hb121 => ?_) (fun hb121 => ?_)
                  · refine a_aloadn dX7_cut_131 rfl ?_
                    refine a_iload dX7_cut_132 rfl ?_
                    refine a_callVv (as := [_]) (q := 43) dX7_cut_134 mvX7_57 ⟨by decide, by decide⟩ (L43 L) rfl rfl rfl (Nat.le_of_ble_eq_true rfl) ⟨rfl, rfl⟩ ⟨by decide, by decide⟩ (m_X7_cutSign (v := sgC (M0 3 p) (foll (M0 3) nn p)) hP hsg (by omega) (by omega) (by rw [c2, e3]) (by rw [c2, c3, e3]) hr59) ?_
                    rw [c2]
                    have qe := tkE_in (M0 3) (n := nn) (q := p) (by omega)
                    refine a_mem (tk_sg M (by omega) (by omega) (by omega) rfl) ?_
                    refine c_iinc (ls' := [_, _, _, _, _]) dX7_cut_137 rfl (by decide) rfl rfl ?_
                    refine a_goto (tgt := 33) dX7_cut_140 (by decide) ?_
                    refine a_forget [4] (ls' := [_, _, _, _, none]) rfl ?_
                    exact ih _ _ (j + 1) _ (by omega) (by omega) (by omega) (hc.tok (by omega) (by omega))
                  · refine a_aloadn dX7_cut_124 rfl ?_
                    refine a_callVv (as := []) (q := 43) dX7_cut_125 mvX7_54 ⟨by decide, by decide⟩ (L43 L) rfl rfl rfl (Nat.le_of_ble_eq_true rfl) ⟨rfl, rfl⟩ ⟨by decide, by decide⟩ (m_X7_cutNumber hP hsg (by omega) (by omega) (by rw [c2, e3]; exact diF_1.mpr (by omega))) ?_
                    rw [e3, c2, c3]
                    have qe := tkE_in (M0 3) (n := nn) (q := p) (by omega)
                    refine a_mem (tk_di M (by omega) (by omega) (by omega)) ?_
                    refine a_goto (tgt := 137) dX7_cut_128 (by decide) ?_
                    refine c_iinc (ls' := [_, _, _, _, _]) dX7_cut_137 rfl (by decide) rfl rfl ?_
                    refine a_goto (tgt := 33) dX7_cut_140 (by decide) ?_
                    refine a_forget [4] (ls' := [_, _, _, _, none]) rfl ?_
                    exact ih _ _ (j + 1) _ (by omega) (by omega) (by omega) (hc.tok (by omega) (by omega))
              · refine a_aloadn dX7_cut_103 rfl ?_
                refine a_callVv (as := []) (q := 43) dX7_cut_104 mvX7_51 ⟨by decide, by decide⟩ (L43 L) rfl rfl rfl (Nat.le_of_ble_eq_true rfl) ⟨rfl, rfl⟩ ⟨by decide, by decide⟩ (m_X7_cutWord hP hsg (by omega) (by omega) hL1 (q := p) (e := rnE (loF (M 3)) nn p) c2.symm (by rw [c3])) ?_
                rw [e3]
                have qe := tkE_in (M0 3) (n := nn) (q := p) (by omega)
                refine a_mem (tk_lo M (by omega) (by omega)) ?_
                refine a_goto (tgt := 137) dX7_cut_107 (by decide) ?_
                refine c_iinc (ls' := [_, _, _, _, _]) dX7_cut_137 rfl (by decide) rfl rfl ?_
                refine a_goto (tgt := 33) dX7_cut_140 (by decide) ?_
                refine a_forget [4] (ls' := [_, _, _, _, none]) rfl ?_
                exact ih _ _ (j + 1) _ (by omega) (by omega) (by omega) (hc.tok (by omega) (by omega))
          · refine a_aloadn dX7_cut_76 rfl ?_
            refine a_dupR dX7_cut_77 ?_
            refine b_getI (j' := 8) dX7_cut_78 flX7_45 rfl rfl (L43 L) (fun hr78 => ?_)
            rw [c2] at hr78
            rw [c2]
            refine a_iconst dX7_cut_81 ?_
            refine a_iadd dX7_cut_82 ?_
            refine a_putI (j' := 8) dX7_cut_83 flX7_45 rfl rfl (L43 L) (by decide) rfl ⟨by omega, by omega⟩ ?_
            refine a_goto (tgt := 137) dX7_cut_86 (by decide) ?_
            refine c_iinc (ls' := [_, _, _, _, _]) dX7_cut_137 rfl (by decide) rfl rfl ?_
            refine a_goto (tgt := 33) dX7_cut_140 (by decide) ?_
            refine a_forget [4] (ls' := [_, _, _, _, none]) rfl ?_
            exact ih _ _ j _ (by omega) (by omega) (by omega) (hc.ws (by omega) (by omega))

set_option maxRecDepth 100000 in
set_option maxHeartbeats 4000000 in
theorem m_X7_cut {G : zG} {l : Launch} {L : Nat} {P : zP} {M : zM} {nn : Int} (hP : PFok P) (hn : 0 ≤ nn ∧ nn ≤ 700) (hL : ∀ k : Int, 0 ≤ k → k < 21 → M 44 k = lngF k) : AM G l yX7_cut mdX7_cut [aR 43, aR 3, aI nn] (LAY L) P M (zrel none (LAY L) (sp P 43 6 (some 3)) (fun M' => ∃ j : Nat, CuR (M 3) nn j M M')) := by
  refine AM.go [some (aR 43), some (aR 3), some (aI nn), none, none] rfl (Nat.le_of_ble_eq_true rfl) ?_ (by decide) rfl rfl
  refine a_aloadn dX7_cut_0 rfl ?_
  refine a_aloadn dX7_cut_1 rfl ?_
  refine a_putR (j' := 6) dX7_cut_2 flX7_24 rfl rfl (L43 L) (by decide) rfl ?_
  obtain ⟨P1, eP⟩ : ∃ P1, P1 = sp P 43 6 (some 3) := ⟨_, rfl⟩
  rw [← eP]
  have hP1 : PFok P1 := by rw [eP]; exact PF_off hP (by decide) _
  have hsg : P1 43 6 = some 3 := by rw [eP]; exact sp_s _ _ _ _
  refine a_aloadn dX7_cut_5 rfl ?_
  refine a_iloadn dX7_cut_6 rfl ?_
  refine a_aloadn dX7_cut_7 rfl ?_
  refine a_alen (w := 700) dX7_cut_8 (L3 L) (by decide) rfl ?_
  refine a_min dX7_cut_9 mmX7_35 (Nat.le_of_ble_eq_true rfl) ⟨by decide, by decide⟩ ⟨by decide, by decide⟩ ⟨by omega, by omega⟩ ⟨by omega, by omega⟩ ?_
  refine a_sipush (w := 700) dX7_cut_12 (by decide) ?_
  refine a_min dX7_cut_15 mmX7_35 (Nat.le_of_ble_eq_true rfl) ⟨by decide, by decide⟩ ⟨by decide, by decide⟩ ⟨by omega, by omega⟩ ⟨by omega, by omega⟩ ?_
  refine a_stk (st' := [aI nn, aR 43]) (by rw [if_neg (show ¬ (700 : Int) < nn by omega), if_neg (show ¬ (700 : Int) < nn by omega)]) ?_
  refine a_putI (j' := 7) dX7_cut_18 flX7_41 rfl rfl (L43 L) (by decide) rfl ⟨by omega, by omega⟩ ?_
  refine a_aloadn dX7_cut_21 rfl ?_
  refine a_iconst dX7_cut_22 ?_
  refine a_putI (j' := 8) dX7_cut_23 flX7_45 rfl rfl (L43 L) (by decide) rfl ⟨by omega, by omega⟩ ?_
  refine a_aloadn dX7_cut_26 rfl ?_
  refine a_iconst dX7_cut_27 ?_
  refine a_putI (j' := 4) dX7_cut_28 flX7_48 rfl rfl (L43 L) (by decide) rfl ⟨by omega, by omega⟩ ?_
  refine a_iconst dX7_cut_31 ?_
  refine c_istoren (ls' := [_, _, _, _, _]) dX7_cut_32 (by decide) rfl rfl ?_
  have hc : CuI (M 3) nn 0 0 M (sm (sm (sm M 43 7 nn) 43 8 0) 43 4 0) := by
    refine ⟨by rw [sm_s]; rfl, by rw [sm_k, us_n (by decide), sm_s], by rw [sm_k, us_n (by decide), sm_k, us_n (by decide), sm_s], rfl, by omega, by omega, fun a ha => by omega, fun k k1 k2 k3 k4 => by rw [sm_n k1, sm_n k1, sm_n k1]⟩
  exact lpX7_cut hP1 hsg hn hL nn.toNat 0 0 0 _ (by omega) (by omega) (by omega) hc
