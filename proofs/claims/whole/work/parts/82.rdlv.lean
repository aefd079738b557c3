section ZLV
/-- all but the law that is read -/
def PE (P P' : zP) : Prop := ∀ (k : Nat) (i : Int), ¬ (k = 42 ∧ i = 2) → P' k i = P k i
theorem PE.rf (P : zP) : PE P P := fun _ _ _ => rfl
theorem PE.tr {P P1 P2 : zP} (h : PE P P1) (h2 : PE P1 P2) : PE P P2 := fun k i a => (h2 k i a).trans (h k i a)
theorem PE.sp (P : zP) (v : Option Nat) : PE P (sp P 42 2 v) := fun k i h => by
  unfold _root_.Jvm.Pilot.@@N@@.sp
  by_cases e : k = 42
  · subst e
    show (if i = 2 then v else P 42 i) = _
    rw [if_neg (fun z => h ⟨rfl, z⟩)]
  · rw [if_neg e]
theorem PE.pf {P P' : zP} (h : PE P P') (hP : PFok P) : PFok P' := by
  have hn : PFX.all (fun q => !(decide (q.1 = 42) && decide (q.2.1 = 2))) = true := by decide +kernel
  intro q hq
  have z := List.all_eq_true.mp hn q hq
  simp only [Bool.not_eq_true', Bool.and_eq_false_iff, decide_eq_false_iff_not] at z
  rw [h q.1 q.2.1 (by omega)]
  exact hP q hq
theorem PE.lwa {P P' : zP} (h : PE P P') {L w : Nat} (hw : w ≠ 42) (hl : LwA L P w) : LwA L P' w := by
  unfold LwA at *
  rw [h w _ (by omega)]
  exact hl
theorem PE.toa {P P' : zP} (h : PE P P') {L t : Nat} (ht : t = 4 ∨ t = 23) (hT : ToA L P t) : ToA L P' t := by
  obtain ⟨h0, ⟨h1, l1⟩, ⟨h2, l2⟩, ⟨h3, l3⟩⟩ := hT
  refine ⟨?_, ⟨by rw [h _ _ (by omega)]; exact h1, h.lwa (by omega) l1⟩, ⟨by rw [h _ _ (by omega)]; exact h2, h.lwa (by omega) l2⟩, ⟨by rw [h _ _ (by omega)]; exact h3, h.lwa (by omega) l3⟩⟩
  unfold ToA0 at *
  rw [h t _ (by omega), h t _ (by omega), h t _ (by omega), h t _ (by omega), h t _ (by omega), h t _ (by omega), h t _ (by omega), h t _ (by omega), h t _ (by omega), h t _ (by omega), h t _ (by omega), h t _ (by omega)]
  exact h0
def zpe (lay : List zKd) (P : zP) (E : zM → Prop) : zZ := fun r lay' P' M' => r = none ∧ lay' = lay ∧ PE P P' ∧ E M'
theorem a_peVv {G : zG} {l : Launch} {md : zMd} {Z : zZ} {pc : Nat} {ls : List (Option av)} {st : List av} {lay : List zKd} {P : zP} {M : zM} {k n : Nat} {y : MethodName} {md2 : zMd} {idx nA : Nat} {C : String} {as : List av} {st0 : List av} {q ci : Nat} {T : u_T} {N : Nat} {E : zM → Prop} (d : decode md.2.2.1 pc = .ok (.invokevirtual idx, 3)) (hm : MV md.1 idx C y md2 nA) (hR : RM md md2) (hk : lay[q]? = some (.inr ci)) (hc : vwCl[ci]? = some (C, T, N)) (hn : as.length = nA) (hst : as.reverse ++ aR q :: st = st0) (hcat : (st.map zcat1).sum ≤ 8) (hz : md2.2.2.2.2.2.cells = 0 ∧ md2.2.2.2.2.2.slots = 0) (hkn : k ≤ md.2.2.2.2.2.cells ∧ n ≤ md.2.2.2.2.2.slots) (hM : AM G l y md2 (aR q :: as) lay P M (zpe lay P E))
    (kk : ∀ P' M', PE P P' → E M' → AW G l md Z (pc + 3) ls st lay P' M' k n) : AW G l md Z pc ls st0 lay P M k n := by
  refine a_invV d hm hR hk hc hn hst hcat (by rw [hz.1, hz.2]; exact hkn) hM ?_
  rintro r lay' P'' M'' ⟨rfl, rfl, hp, hE⟩
  rw [hz.1, hz.2]
  exact kk P'' M'' hp hE
theorem cn13_cong {f g : Int → Int} : ∀ n : Nat, (∀ j : Int, 0 ≤ j → j < n → f j = g j) → cn13 f n = cn13 g n
  | 0, _ => rfl
  | n + 1, h => by
    unfold cn13
    rw [cn13_cong n (fun j j0 j1 => h j j0 (by omega)), h n (by omega) (by omega)]
theorem cn13_nn (f : Int → Int) : ∀ n : Nat, 0 ≤ cn13 f n
  | 0 => by simp [cn13]
  | n + 1 => by
    have := cn13_nn f n
    unfold cn13
    split <;> omega
theorem cn13_us {f : Int → Int} {w s : Int} (h : 0 ≤ w) : cn13 (us f w s) (w.toNat + 1) = cn13 f w.toNat + if s = 13 then 1 else 0 := by
  show cn13 (us f w s) w.toNat + (if us f w s (w.toNat : Int) = 13 then 1 else 0) = _
  rw [show ((w.toNat : Nat) : Int) = w by omega, us_s, cn13_cong (f := us f w s) (g := f) w.toNat (fun j j0 j1 => us_n (by omega))]
/-- while a law is read -/
def LvI (t w : Nat) (M : zM) : Prop := TV M ∧ (0 ≤ M t 1 ∧ M t 1 ≤ 64) ∧ AsI M ∧ (0 ≤ M w 1 ∧ M w 1 ≤ 64) ∧ (M 42 6 = 0 → cn13 (M 49) (M 42 4).toNat = M 42 5 ∧ M 42 4 ≤ M t 1 + M 42 5)
theorem AsI.pa {M : zM} (h : AsI M) {s : Int} (hs : 0 ≤ s ∧ s ≤ 13) : AsI (paM s M) := by
  obtain ⟨h1, h2, h3⟩ := h
  unfold AsI
  rw [paM_42 s M (show (5 : Int) ≠ 4 by decide)]
  unfold paM
  by_cases c : M 42 4 < 72
  · rw [if_pos c, sm_s, sm_n (show 49 ≠ 42 by decide), sm_k]
    refine ⟨by omega, fun j j0 j1 => ?_, h3⟩
    by_cases e : j = M 42 4
    · rw [e, us_s]; exact hs
    · rw [us_n e]; exact h2 j j0 (by omega)
  · rw [if_neg c]; exact ⟨h1, h2, h3⟩
theorem pa_c {s : Int} {M : zM} (h : M 42 4 < 72) : paM s M 42 4 = M 42 4 + 1 ∧ paM s M 49 = us (M 49) (M 42 4) s := by
  unfold paM
  rw [if_pos h]
  exact ⟨by rw [sm_s], by rw [sm_n (by decide), sm_k]⟩
theorem lyA_all {w : Nat} {r : Int} (hw : w + 1 < 42) : ∀ (n : Nat) (M : zM), AsI M → M 42 4 ≤ n → (0 ≤ M w 1 ∧ M w 1 ≤ 64) → AsI (lyA w r n M) ∧ (0 ≤ lyA w r n M w 1 ∧ lyA w r n M w 1 ≤ 64) ∧ lyA w r n M 42 4 ≤ M 42 4 ∧ (∀ i : Int, i ≠ 4 → lyA w r n M 42 i = M 42 i) ∧ (∀ k : Nat, k ≠ 42 → k ≠ w → k ≠ w + 1 → lyA w r n M k = M k) ∧ (1 ≤ r → cn13 (M 49) (lyA w r n M 42 4).toNat = cn13 (M 49) (M 42 4).toNat) ∧ (0 < lyA w r n M 42 4 → rkA (lyA w r n M) < r)
  | 0, M, hA, hn, hl => by
    refine ⟨hA, hl, Int.le_refl _, fun _ _ => rfl, fun _ _ _ _ => rfl, fun _ => rfl, fun z => ?_⟩
    exfalso
    have z2 : 0 < M 42 4 := z
    omega
  | n + 1, M, hA, hn, hl => by
    rw [lyA_s]
    by_cases c : 0 < M 42 4 ∧ r ≤ rkA M
    · rw [if_pos c]
      have p := pop1_42 M hw
      obtain ⟨b1, b2, b3, b4, b5, b6, b7⟩ := lyA_all hw n (pop1 w M) (pop1_as hw hA c.1) (by rw [p.1]; omega) (pop1_s hw hl)
      have e49 : pop1 w M 49 = M 49 := pop1_n w M (by decide) (by omega) (by omega)
      refine ⟨b1, b2, by rw [p.1] at b3; omega, fun i hi => (b4 i hi).trans (p.2 i hi), fun k k1 k2 k3 => (b5 k k1 k2 k3).trans (pop1_n w M k1 k2 k3), fun hr => ?_, b7⟩
      have b6' := b6 hr
      rw [e49, p.1] at b6'
      rw [b6']
      have a := hA.2.1 (M 42 4 - 1) (by omega) (by omega)
      have q := rnk_in a
      have hk : rkA M = rnk (M 49 (M 42 4 - 1)) := by unfold rkA; rw [if_pos c.1]
      have hne : M 49 (M 42 4 - 1) ≠ 13 := fun z => by have := q.2.2.mpr z; omega
      rw [show (M 42 4).toNat = (M 42 4 - 1).toNat + 1 by omega]
      show _ = cn13 (M 49) (M 42 4 - 1).toNat + (if M 49 (((M 42 4 - 1).toNat : Nat) : Int) = 13 then 1 else 0)
      rw [show (((M 42 4 - 1).toNat : Nat) : Int) = M 42 4 - 1 by omega, if_neg hne]
      omega
    · rw [if_neg c]
      exact ⟨hA, hl, Int.le_refl _, fun _ _ => rfl, fun _ _ _ _ => rfl, fun _ => rfl, fun z => by omega⟩
theorem LvI.fl {t w : Nat} {M : zM} (ht : t < 42) (hw : w < 42) (h : LvI t w M) (c : Int) (hc : c ≠ 0) (h0 : M 42 6 = 0) : LvI t w (flM M c) := by
  obtain ⟨h1, h2, h3, h4, h5⟩ := h
  refine ⟨h1.fl c, by rw [flM_n M c (by omega)]; exact h2, h3.of (flM_42 M c (by decide)) (flM_42 M c (by decide)) (flM_n M c (by decide)), by rw [flM_n M c (by omega)]; exact h4, fun z => ?_⟩
  rw [(flM_6 c h0).1] at z
  exact absurd z hc
/-- a knot is counted -/
theorem tc_ok {t : Nat} {M : zM} (h : M t 1 < 64) : tcM t M = stT (sm M t 1 (M t 1 + 1)) := by unfold tcM; rw [if_pos h]
theorem LvI.tc {t w : Nat} {M : zM} (ht : t < 41) (hw : w < 42) (hne : w ≠ t) (h : LvI t w M) (h0 : M 42 6 = 0) (hs : M 43 9 ≠ 0) : TV (tcM t M) ∧ (0 ≤ tcM t M t 1 ∧ tcM t M t 1 ≤ 64) ∧ AsI (tcM t M) ∧ (0 ≤ tcM t M w 1 ∧ tcM t M w 1 ≤ 64) ∧ (tcM t M 42 6 = 0 → tcM t M t 1 = M t 1 + 1 ∧ M t 1 < 64) ∧ tcM t M 49 = M 49 ∧ tcM t M 42 4 = M 42 4 ∧ tcM t M 42 5 = M 42 5 := by
  obtain ⟨h1, h2, h3, h4, h5⟩ := h
  have e4 := tcM_42 (t := t) (by omega) M (i := 4) (by decide)
  have e5 := tcM_42 (t := t) (by omega) M (i := 5) (by decide)
  have e9 : tcM t M 49 = M 49 := tcM_n t M (by decide) (by decide) (by omega)
  refine ⟨h1.tc (by omega) hs, ?_, h3.of e4 e5 e9, by rw [tcM_n t M (by omega) (by omega) hne]; exact h4, fun z => ?_, e9, e4, e5⟩
  · unfold tcM
    by_cases c : M t 1 < 64
    · rw [if_pos c, stT_n _ (by omega), sm_s]; omega
    · rw [if_neg c, flM_n M 2 (by omega)]; exact h2
  · unfold tcM at z ⊢
    by_cases c : M t 1 < 64
    · rw [if_pos c, stT_n _ (by omega), sm_s]; exact ⟨rfl, c⟩
    · rw [if_neg c, (flM_6 2 h0).1] at z; omega
theorem LvI.rpB {t w : Nat} {M : zM} (ht : t < 41) (hw : w < 42) (hne : w ≠ t) (h : LvI t w M) (h0 : M 42 6 = 0) (hi : iaV M ≠ 0) : LvI t w (rpB t M) := by
  have hs : M 43 9 ≠ 0 := by
    unfold iaV at hi
    split at hi
    · omega
    · omega
  unfold _root_.Jvm.Pilot.@@N@@.rpB
  by_cases c : M 43 9 = 5 ∧ M 43 11 = 13
  · rw [if_pos c]
    unfold toM
    by_cases c5 : M 42 5 < 8
    · rw [if_pos c5]
      obtain ⟨h1, h2, h3, h4, h5⟩ := h
      have q := h5 h0
      obtain ⟨M1, e1⟩ : ∃ M1, M1 = sm M 42 5 (M 42 5 + 1) := ⟨_, rfl⟩
      rw [← e1]
      have a4 : M1 42 4 = M 42 4 := by rw [e1, sm_k, us_n (by decide)]
      have a5 : M1 42 5 = M 42 5 + 1 := by rw [e1, sm_s]
      have an : ∀ k : Nat, k ≠ 42 → M1 k = M k := fun k hk => by rw [e1, sm_n hk]
      have hA1 : AsI M1 := by
        unfold AsI
        rw [a4, a5, an 49 (by decide)]
        exact ⟨h3.1, h3.2.1, by have := h3.2.2; omega⟩
      have hV1 : TV M1 := by rw [e1]; exact h1.sm (by omega) _ _
      have p := pa_c (s := 13) (M := M1) (by rw [a4]; omega)
      refine ⟨(hV1.pa 13).st (by rw [paM_n _ _ (by decide) (by decide), an 43 (by decide)]; exact hs), ?_, ?_, ?_, fun _ => ?_⟩
      · rw [stT_n _ (by omega), paM_n _ _ (by omega) (by omega), an t (by omega)]; exact h2
      · exact (hA1.pa ⟨by omega, by omega⟩).of (by rw [stT_n _ (by decide)]) (by rw [stT_n _ (by decide)]) (stT_n _ (by decide))
      · rw [stT_n _ (by omega), paM_n _ _ (by omega) (by omega), an w (by omega)]; exact h4
      · rw [stT_n _ (by decide), stT_n _ (by decide), stT_n _ (by omega), p.1, p.2, paM_42 _ _ (by decide), paM_n _ _ (by omega) (by omega), a4, a5, an 49 (by decide), an t (by omega), show (M 42 4 + 1).toNat = (M 42 4).toNat + 1 by have := h3.1; omega, cn13_us h3.1.1, if_pos rfl]
        omega
    · rw [if_neg c5]
      exact h.fl (by omega) hw 2 (by decide) h0
  · rw [if_neg c]
    have q5 := h.2.2.2.2 h0
    obtain ⟨b1, b2, b3, b4, b5, b6, b7, b8⟩ := h.tc ht hw hne h0 hs
    have h3 := h.2.2.1
    refine ⟨b1.pa 2, by rw [paM_n _ _ (by omega) (by omega)]; exact b2, b3.pa ⟨by omega, by omega⟩, by rw [paM_n _ _ (by omega) (by omega)]; exact b4, fun z => ?_⟩
    rw [paM_42 _ _ (by decide)] at z
    have k := b5 z
    have p := pa_c (s := 2) (M := tcM t M) (by rw [b7]; have := h3.2.2; omega)
    rw [p.1, p.2, paM_42 _ _ (by decide), paM_n _ _ (by omega) (by omega), b6, b7, b8, show (M 42 4 + 1).toNat = (M 42 4).toNat + 1 by have := h3.1; omega, cn13_us h3.1.1, if_neg (by decide)]
    omega
theorem LvI.la {t w : Nat} {M : zM} (ht : t < 41) (hw : w + 1 < 42) (hne : w ≠ t ∧ w + 1 ≠ t) (x : Int) (h1 : TV M) (h2 : 0 ≤ M t 1 ∧ M t 1 ≤ 64) (h3 : AsI M) (h4 : 0 ≤ M w 1 ∧ M w 1 ≤ 64) (h5 : M 42 6 = 0 → cn13 (M 49) (M 42 4).toNat = M 42 5 ∧ M 42 4 ≤ M t 1 + M 42 5) : LvI t w (laM w x M) := by
  have n : ∀ k : Nat, k ≠ w → k ≠ w + 1 → laM w x M k = M k := fun k a b => laM_n w x M a b
  refine ⟨h1.of (n _ (by omega) (by omega)) (n _ (by omega) (by omega)) (n _ (by omega) (by omega)) (n _ (by omega) (by omega)), by rw [n t (by omega) (by omega)]; exact h2, h3.of (by rw [n 42 (by omega) (by omega)]) (by rw [n 42 (by omega) (by omega)]) (n 49 (by omega) (by omega)), laM_s h4, ?_⟩
  rw [n 42 (by omega) (by omega), n 49 (by omega) (by omega), n t (by omega) (by omega)]
  exact h5
theorem LvI.lf {t w : Nat} {M : zM} (ht : t < 41) (hw : w + 1 < 42) (hne : w ≠ t ∧ w + 1 ≠ t) (h : LvI t w M) : LvI t w (lfM t w M) := by
  unfold lfM
  by_cases c0 : M 42 6 ≠ 0
  · rw [if_pos c0]; exact h
  rw [if_neg c0]
  have h0 : M 42 6 = 0 := by omega
  have kn : ∀ x : Int, M 43 9 ≠ 0 → LvI t w (laM w x (tcM t M)) := fun x hs => by
    obtain ⟨b1, b2, b3, b4, b5, b6, b7, b8⟩ := h.tc ht (by omega) hne.1 h0 hs
    refine LvI.la ht hw hne x b1 b2 b3 b4 (fun z => ?_)
    have k := b5 z
    have q := h.2.2.2.2 h0
    rw [b6, b7, b8]
    omega
  by_cases c1 : M 43 9 = 3 ∧ 14 ≤ M 43 11
  · rw [if_pos c1]; exact kn _ (by omega)
  rw [if_neg c1]
  by_cases c2 : lnM 0 9999 M 42 6 = 0
  · rw [if_pos c2]
    have z := lnM_ok c2
    rw [z.1]; exact kn _ (by omega)
  · rw [if_neg c2]
    rw [lnM_bad h0 (fun z => c2 (by unfold lnM; rw [if_neg (by omega), if_neg (by omega), if_pos z.2]; exact h0))]
    exact h.fl (by omega) (by omega) _ (by split <;> decide) h0
theorem LvI.rp {t w : Nat} (ht : t < 41) (hw : w + 1 < 42) (hne : w ≠ t ∧ w + 1 ≠ t) : ∀ (n : Nat) (M : zM), LvI t w M → LvI t w (rpL t n M)
  | 0, M, h => h
  | n + 1, M, h => by
    unfold rpL
    split
    · rename_i c
      exact LvI.rp ht hw hne n _ (h.rpB ht (by omega) hne.1 c.1 c.2)
    · exact h
theorem LvI.rpm {t w : Nat} {M : zM} (ht : t < 41) (hw : w + 1 < 42) (hne : w ≠ t ∧ w + 1 ≠ t) (h : LvI t w M) : LvI t w (rpM t w M) := (LvI.rp ht hw hne 701 M h).lf ht hw hne
/-- behind the signs that are laid out -/
theorem LvI.ly {t w : Nat} {r : Int} {M : zM} (ht : t < 41) (hw : w + 1 < 42) (hne : w ≠ t ∧ w + 1 ≠ t) (hr : 1 ≤ r) (h : LvI t w M) : LvI t w (lyA w r (M 42 4).toNat M) := by
  obtain ⟨h1, h2, h3, h4, h5⟩ := h
  obtain ⟨b1, b2, b3, b4, b5, b6, b7⟩ := lyA_all (r := r) hw (M 42 4).toNat M h3 (by have := h3.1; omega) h4
  refine ⟨h1.of (b5 43 (by decide) (by omega) (by omega)) (b5 45 (by decide) (by omega) (by omega)) (b5 46 (by decide) (by omega) (by omega)) (b5 47 (by decide) (by omega) (by omega)), by rw [b5 t (by omega) (by omega) (by omega)]; exact h2, b1, b2, ?_⟩
  rw [b4 6 (by decide), b4 5 (by decide), b5 49 (by decide) (by omega) (by omega), b5 t (by omega) (by omega) (by omega), b6 hr]
  intro z
  have := h5 z
  omega
theorem cl_top {t w : Nat} {M : zM} (hw : w + 1 < 42) (h : LvI t w M) (h0 : M 42 6 = 0) (ho : 0 < M 42 5) : 0 < lyA w 1 (M 42 4).toNat M 42 4 ∧ M 49 (lyA w 1 (M 42 4).toNat M 42 4 - 1) = 13 := by
  obtain ⟨h1, h2, h3, h4, h5⟩ := h
  obtain ⟨b1, b2, b3, b4, b5, b6, b7⟩ := lyA_all (r := 1) hw (M 42 4).toNat M h3 (by have := h3.1; omega) h4
  have q := h5 h0
  have c := b6 (by decide)
  have p : 0 < lyA w 1 (M 42 4).toNat M 42 4 := by
    by_cases z : 0 < lyA w 1 (M 42 4).toNat M 42 4
    · exact z
    · exfalso
      have e : (lyA w 1 (M 42 4).toNat M 42 4).toNat = 0 := by omega
      rw [e] at c
      have : cn13 (M 49) 0 = 0 := rfl
      omega
  refine ⟨p, ?_⟩
  have k := b7 p
  have a := b1.2.1 (lyA w 1 (M 42 4).toNat M 42 4 - 1) (by omega) (by omega)
  rw [b5 49 (by decide) (by omega) (by omega)] at a
  have hk : rkA (lyA w 1 (M 42 4).toNat M) = rnk (M 49 (lyA w 1 (M 42 4).toNat M 42 4 - 1)) := by unfold rkA; rw [if_pos p, b5 49 (by decide) (by omega) (by omega)]
  rw [hk] at k
  exact (rnk_in a).2.2.mp k
theorem LvI.cl {t w : Nat} {M : zM} (ht : t < 41) (hw : w + 1 < 42) (hne : w ≠ t ∧ w + 1 ≠ t) (h : LvI t w M) (h0 : M 42 6 = 0) (ho : 0 < M 42 5) (hs : M 43 9 ≠ 0) : LvI t w (clM w M) := by
  have tp := cl_top hw h h0 ho
  have hy := h.ly (r := 1) ht hw hne (by decide)
  obtain ⟨b1, b2, b3, b4, b5, b6, b7⟩ := lyA_all (r := 1) hw (M 42 4).toNat M h.2.2.1 (by have := h.2.2.1.1; omega) h.2.2.2.1
  obtain ⟨M1, e1⟩ : ∃ M1, M1 = lyA w 1 (M 42 4).toNat M := ⟨_, rfl⟩
  rw [← e1] at tp hy b1 b2 b3 b4 b5 b6 b7
  unfold clM
  rw [← e1]
  show LvI t w (stT (sm (sm M1 42 4 (M1 42 4 - 1)) 42 5 (M1 42 5 - 1)))
  obtain ⟨h1, h2, h3, h4, h5⟩ := hy
  have q := h5 (by rw [b4 6 (by decide)]; exact h0)
  have s9 : M1 43 9 ≠ 0 := by rw [b5 43 (by decide) (by omega) (by omega)]; exact hs
  have o5 := b4 5 (by decide)
  refine ⟨((h1.sm (k := 42) (by omega) _ _).sm (k := 42) (by omega) _ _).st (by rw [sm_n (by decide), sm_n (by decide)]; exact s9), ?_, ?_, ?_, fun _ => ?_⟩
  · rw [stT_n _ (by omega), sm_n (by omega), sm_n (by omega)]; exact h2
  · unfold AsI
    rw [stT_n _ (show 42 ≠ 43 by decide), stT_n _ (show 49 ≠ 43 by decide), sm_n (show 49 ≠ 42 by decide), sm_n (show 49 ≠ 42 by decide), sm_s, sm_k, us_n (by decide), sm_s]
    exact ⟨by have := h3.1; omega, fun j j0 j1 => h3.2.1 j j0 (by omega), by have := h3.2.2; omega⟩
  · rw [stT_n _ (by omega), sm_n (by omega), sm_n (by omega)]; exact h4
  · rw [stT_n _ (show 42 ≠ 43 by decide), stT_n _ (show 49 ≠ 43 by decide), stT_n _ (show t ≠ 43 by omega), sm_n (show 49 ≠ 42 by decide), sm_n (show 49 ≠ 42 by decide), sm_n (show t ≠ 42 by omega), sm_n (show t ≠ 42 by omega), sm_s, sm_k, us_n (by decide), sm_s]
    have e : cn13 (M1 49) (M1 42 4).toNat = cn13 (M1 49) (M1 42 4 - 1).toNat + 1 := by
      rw [show (M1 42 4).toNat = (M1 42 4 - 1).toNat + 1 by omega]
      show cn13 (M1 49) (M1 42 4 - 1).toNat + (if M1 49 (((M1 42 4 - 1).toNat : Nat) : Int) = 13 then 1 else 0) = _
      rw [show (((M1 42 4 - 1).toNat : Nat) : Int) = M1 42 4 - 1 by omega, if_pos (by rw [b5 49 (by decide) (by omega) (by omega)]; exact tp.2)]
    omega
theorem cl_f {w : Nat} {M : zM} (hw : w + 1 < 42) (hA : AsI M) (hl : 0 ≤ M w 1 ∧ M w 1 ≤ 64) : clM w M 42 6 = M 42 6 := by
  obtain ⟨b1, b2, b3, b4, b5, b6, b7⟩ := lyA_all (r := 1) hw (M 42 4).toNat M hA (by have := hA.1; omega) hl
  unfold clM
  show stT (sm (sm (lyA w 1 (M 42 4).toNat M) 42 4 _) 42 5 _) 42 6 = _
  rw [stT_n _ (by decide), sm_k, us_n (by decide), sm_k, us_n (by decide), b4 6 (by decide)]
theorem LvI.rbl {t w : Nat} (ht : t < 41) (hw : w + 1 < 42) (hne : w ≠ t ∧ w + 1 ≠ t) : ∀ (n : Nat) (M : zM), LvI t w M → M 42 6 = 0 → LvI t w (rbL w n M) ∧ rbL w n M 42 6 = 0
  | 0, M, h, h0 => ⟨h, h0⟩
  | n + 1, M, h, h0 => by
    unfold rbL
    split
    · rename_i c
      exact LvI.rbl ht hw hne n _ (h.cl ht hw hne h0 c.1 (by omega)) (by rw [cl_f hw h.2.2.1 h.2.2.2.1]; exact h0)
    · exact ⟨h, h0⟩
theorem sgH_in (M : zM) : -1 ≤ sgH M ∧ sgH M ≤ 12 ∧ (sgH M ≠ -1 → M 43 9 ≠ 0) := by
  unfold sgH
  split
  · omega
  · split
    · omega
    · split <;> omega
theorem rnk_12 : ∀ x : Fin 13, 1 ≤ rnk ((x.val : Nat) : Int) := by decide +kernel
theorem LvI.sg {t w : Nat} {M : zM} (ht : t < 41) (hw : w + 1 < 42) (hne : w ≠ t ∧ w + 1 ≠ t) (h : LvI t w M) (h0 : M 42 6 = 0) (hs : sgH M ≠ -1) : LvI t w (sgM9 t w M) := by
  have q := sgH_in M
  have r1 : 1 ≤ rnk (sgH M) := by
    obtain ⟨k, hk⟩ : ∃ k : Nat, sgH M = (k : Int) := ⟨(sgH M).toNat, by omega⟩
    rw [hk]; exact rnk_12 ⟨k, by omega⟩
  unfold sgM9
  obtain ⟨r9, er⟩ : ∃ r9, r9 = (if rnk (sgH M) = 4 then rnk (sgH M) + 1 else rnk (sgH M)) := ⟨_, rfl⟩
  show LvI t w (if rnk (sgH M) = 4 ∧ rkA (lyA w (if rnk (sgH M) = 4 then rnk (sgH M) + 1 else rnk (sgH M)) (M 42 4).toNat M) = 4 then flM (lyA w (if rnk (sgH M) = 4 then rnk (sgH M) + 1 else rnk (sgH M)) (M 42 4).toNat M) 1 else paM (sgH M) (tcM t (lyA w (if rnk (sgH M) = 4 then rnk (sgH M) + 1 else rnk (sgH M)) (M 42 4).toNat M)))
  rw [← er]
  have hr9 : 1 ≤ r9 := by rw [er]; split <;> omega
  have hy := h.ly (r := r9) ht hw hne hr9
  obtain ⟨b1, b2, b3, b4, b5, b6, b7⟩ := lyA_all (r := r9) hw (M 42 4).toNat M h.2.2.1 (by have := h.2.2.1.1; omega) h.2.2.2.1
  obtain ⟨M1, e1⟩ : ∃ M1, M1 = lyA w r9 (M 42 4).toNat M := ⟨_, rfl⟩
  rw [← e1] at hy b1 b2 b3 b4 b5 b6 b7 ⊢
  have f1 : M1 42 6 = 0 := by rw [b4 6 (by decide)]; exact h0
  split
  · exact hy.fl (by omega) (by omega) 1 (by decide) f1
  · have s9 : M1 43 9 ≠ 0 := by rw [b5 43 (by decide) (by omega) (by omega)]; exact q.2.2 hs
    obtain ⟨c1, c2, c3, c4, c5, c6, c7, c8⟩ := hy.tc ht (by omega) hne.1 f1 s9
    have h3 := hy.2.2.1
    have q5 := hy.2.2.2.2 f1
    refine ⟨c1.pa _, by rw [paM_n _ _ (by omega) (by omega)]; exact c2, c3.pa ⟨by omega, by omega⟩, by rw [paM_n _ _ (by omega) (by omega)]; exact c4, fun z => ?_⟩
    rw [paM_42 _ _ (by decide)] at z
    have k := c5 z
    have p := pa_c (s := sgH M) (M := tcM t M1) (by rw [c7]; have := h3.2.2; omega)
    rw [p.1, p.2, paM_42 _ _ (by decide), paM_n _ _ (by omega) (by omega), c6, c7, c8, show (M1 42 4 + 1).toNat = (M1 42 4).toNat + 1 by have := h3.1; omega, cn13_us h3.1.1, if_neg (by omega)]
    omega
def rbT (t w : Nat) (M1 : zM) : zM × Int := if sgH M1 = -1 then (if 0 < M1 42 5 then flM M1 1 else M1, 0) else (sgM9 t w M1, if rnk (sgH M1) = 4 ∧ rkA (lyA w (if rnk (sgH M1) = 4 then rnk (sgH M1) + 1 else rnk (sgH M1)) (M1 42 4).toNat M1) = 4 then 0 else if sgM9 t w M1 42 6 = 0 then 1 else 0)
theorem rbM_e (t w : Nat) (M : zM) : rbM t w M = rbT t w (rbL w 9 M) := rfl
theorem LvI.rb {t w : Nat} {M : zM} (ht : t < 41) (hw : w + 1 < 42) (hne : w ≠ t ∧ w + 1 ≠ t) (h : LvI t w M) (h0 : M 42 6 = 0) : LvI t w (rbM t w M).1 := by
  rw [rbM_e]
  obtain ⟨z1, z2⟩ := LvI.rbl ht hw hne 9 M h h0
  unfold rbT
  split
  · show LvI t w (if 0 < rbL w 9 M 42 5 then flM (rbL w 9 M) 1 else rbL w 9 M)
    split
    · exact z1.fl (by omega) (by omega) 1 (by decide) z2
    · exact z1
  · rename_i c
    exact z1.sg ht hw hne z2 c
theorem LvI.lw {t w : Nat} (ht : t < 41) (hw : w + 1 < 42) (hne : w ≠ t ∧ w + 1 ≠ t) : ∀ (n : Nat) (g : Int) (M : zM), LvI t w M → LvI t w (lwL t w n g M)
  | 0, g, M, h => h
  | n + 1, g, M, h => by
    unfold lwL
    split
    · exact h
    · show LvI t w (if rpM t w M 42 6 ≠ 0 then lwL t w n 0 (rpM t w M) else lwL t w n (rbM t w (rpM t w M)).2 (rbM t w (rpM t w M)).1)
      have h1 := h.rpm ht hw hne
      split
      · exact LvI.lw ht hw hne n 0 _ h1
      · rename_i c
        exact LvI.lw ht hw hne n _ _ (h1.rb ht hw hne (by omega))
end ZLV
