section ZRQ
/-- no fault behind: none before, and the place as it was -/
def Q7 (M M' : zM) : Prop := M' 42 6 = 0 → M 42 6 = 0 ∧ M' 42 7 = M 42 7
theorem Q7.rf (M : zM) : Q7 M M := fun h => ⟨h, rfl⟩
theorem Q7.tr {M M1 M2 : zM} (h : Q7 M M1) (h2 : Q7 M1 M2) : Q7 M M2 := fun z => ⟨(h (h2 z).1).1, (h2 z).2.trans (h (h2 z).1).2⟩
theorem Q7.of {M M' : zM} (h6 : M' 42 6 = M 42 6) (h7 : M' 42 7 = M 42 7) : Q7 M M' := fun z => ⟨by rw [← h6]; exact z, h7⟩
theorem Q7.fl (M : zM) {c : Int} (hc : c ≠ 0) : Q7 M (flM M c) := fun z => by
  by_cases h : M 42 6 = 0
  · rw [(flM_6 c h).1] at z; exact absurd z hc
  · rw [flM_id c h] at z; exact absurd z h
theorem Q7.st (M : zM) : Q7 M (stT M) := Q7.of (by rw [stT_n _ (by decide)]) (by rw [stT_n _ (by decide)])
theorem Q7.lw (a m : Int) (M : zM) : Q7 M (lwM a m M) := by
  unfold lwM
  split
  · exact Q7.st M
  · exact Q7.fl M (by decide)
theorem Q7.ln (lo hi : Int) (M : zM) : Q7 M (lnM lo hi M) := by
  unfold lnM
  split
  · exact Q7.rf M
  · split
    · exact Q7.fl M (by decide)
    · split
      · exact Q7.rf M
      · exact Q7.fl M (by decide)
theorem Q7.tk (lo hi : Int) (M : zM) : Q7 M (tkM lo hi M) := by
  unfold tkM
  split
  · exact (Q7.ln lo hi M).tr (Q7.st _)
  · exact Q7.ln lo hi M
theorem Q7.nm (t : Nat) (b : Int) (M : zM) : Q7 M (nmM9 t b M) := by
  unfold nmM9
  split
  · exact Q7.rf M
  · split
    · exact Q7.fl M (by decide)
    · split
      · exact Q7.fl M (by decide)
      · split
        · exact Q7.fl M (by decide)
        · exact Q7.st M
theorem Q7.rh {t : Nat} (ht : t < 39) (M : zM) : Q7 M (rhM t M) := by
  unfold rhM
  have b := (((Q7.lw (M t 2) 6 M).tr (Q7.nm t 1 _)).tr (Q7.tk 0 99 _)).tr (Q7.tk 0 9 _)
  simp only []
  split
  · exact b
  · exact b.tr (Q7.of (by rw [sm_n (by omega), sm_n (by omega), sm_n (by omega), sm_n (by omega)]) (by rw [sm_n (by omega), sm_n (by omega), sm_n (by omega), sm_n (by omega)]))
theorem Q7.rt {t : Nat} (ht : t < 36) (M : zM) : Q7 M (rtM t M) := by
  unfold rtM
  have b := (((Q7.lw (M t 6) 10 M).tr (Q7.nm t 0 _)).tr (Q7.tk 0 99 _)).tr (Q7.tk 0 99 _)
  simp only []
  split
  · exact b
  · exact b.tr (Q7.of (by rw [sm_n (by omega), sm_n (by omega), sm_n (by omega), sm_n (by omega)]) (by rw [sm_n (by omega), sm_n (by omega), sm_n (by omega), sm_n (by omega)]))
theorem Q7.rd {t : Nat} (ht : t < 33) (M : zM) : Q7 M (rdM t M) := by
  rw [rdM_of rfl rfl rfl rfl rfl]
  have b := ((Q7.lw (M t 10) 12 M).tr (Q7.nm t 0 _)).tr (Q7.ln 0 99 _)
  obtain ⟨M3, e3⟩ : ∃ M3, M3 = lnM 0 99 (nmM9 t 0 (lwM (M t 10) 12 M)) := ⟨_, rfl⟩
  rw [← e3] at b ⊢
  obtain ⟨M4, e4⟩ : ∃ M4, M4 = if M3 42 6 = 0 ∧ sdT t M3 (hoT t (nmM9 t 0 (lwM (M t 10) 12 M)) (tnV (lwM (M t 10) 12 M))) (lnV 0 99 (nmM9 t 0 (lwM (M t 10) 12 M))) ≠ 0 then flM M3 3 else M3 := ⟨_, rfl⟩
  rw [← e4]
  have b4 : Q7 M M4 := by
    rw [e4]
    split
    · exact b.tr (Q7.fl _ (by decide))
    · exact b
  obtain ⟨M5, e5⟩ : ∃ M5, M5 = if M4 42 6 = 0 then stT M4 else M4 := ⟨_, rfl⟩
  rw [← e5]
  have b5 : Q7 M M5 := by
    rw [e5]
    split
    · exact b4.tr (Q7.st _)
    · exact b4
  have b6 := b5.tr (Q7.tk 1 9 M5)
  split
  · exact b6
  · exact b6.tr (Q7.of (by rw [sm_n (by omega), sm_n (by omega), sm_n (by omega), sm_n (by omega)]) (by rw [sm_n (by omega), sm_n (by omega), sm_n (by omega), sm_n (by omega)]))
theorem Q7.re {t : Nat} (ht : t < 30) (k lo hi : Int) (M : zM) : Q7 M (reM t k lo hi M) := by
  unfold reM
  split
  · exact Q7.fl M (by decide)
  · have b := (Q7.st M).tr (Q7.tk lo hi (stT M))
    simp only []
    split
    · exact b
    · exact b.tr (Q7.of (by rw [sm_n (by omega), sm_n (by omega)]) (by rw [sm_n (by omega), sm_n (by omega)]))
theorem Q7.pa (s : Int) (M : zM) : Q7 M (paM s M) := Q7.of (paM_42 s M (by decide)) (paM_42 s M (by decide))
theorem Q7.tc {t : Nat} (ht : t ≠ 42) (M : zM) : Q7 M (tcM t M) := by
  unfold tcM
  split
  · exact Q7.of (by rw [stT_n _ (by decide), sm_n (Ne.symm ht)]) (by rw [stT_n _ (by decide), sm_n (Ne.symm ht)])
  · exact Q7.fl M (by decide)
theorem Q7.to (M : zM) : Q7 M (toM M) := by
  unfold toM
  split
  · exact Q7.of (by rw [stT_n _ (by decide), paM_42 _ _ (by decide), sm_k, us_n (by decide)]) (by rw [stT_n _ (by decide), paM_42 _ _ (by decide), sm_k, us_n (by decide)])
  · exact Q7.fl M (by decide)
theorem Q7.la {w : Nat} (hw : w + 1 < 42) (x : Int) (M : zM) : Q7 M (laM w x M) := Q7.of (by rw [(la42 hw).1]) (by rw [(la42 hw).1])
theorem Q7.ly {w : Nat} (hw : w + 1 < 42) (r : Int) (n : Nat) (M : zM) : Q7 M (lyA w r n M) := Q7.of (lyA_4 hw (by decide) n M) (lyA_4 hw (by decide) n M)
theorem Q7.rpB {t : Nat} (ht : t ≠ 42) (M : zM) : Q7 M (rpB t M) := by
  unfold _root_.Jvm.Pilot.@@N@@.rpB
  split
  · exact Q7.to M
  · exact (Q7.tc ht M).tr (Q7.pa 2 _)
theorem Q7.rpL {t : Nat} (ht : t ≠ 42) : ∀ (n : Nat) (M : zM), Q7 M (rpL t n M)
  | 0, M => Q7.rf M
  | n + 1, M => by
    rw [rpL_s]
    split
    · exact (Q7.rpB ht M).tr (Q7.rpL ht n _)
    · exact Q7.rf M
theorem Q7.lf {t w : Nat} (ht : t ≠ 42) (hw : w + 1 < 42) (M : zM) : Q7 M (lfM t w M) := by
  unfold lfM
  split
  · exact Q7.rf M
  · split
    · exact (Q7.tc ht M).tr (Q7.la hw _ _)
    · split
      · exact ((Q7.ln 0 9999 M).tr (Q7.tc ht _)).tr (Q7.la hw _ _)
      · exact Q7.ln 0 9999 M
theorem Q7.cl {w : Nat} (hw : w + 1 < 42) (M : zM) : Q7 M (clM w M) := by
  obtain ⟨C, eC⟩ : ∃ C, C = lyA w 1 (M 42 4).toNat M := ⟨_, rfl⟩
  have e : clM w M = stT (sm (sm C 42 4 (C 42 4 - 1)) 42 5 (C 42 5 - 1)) := by rw [eC]; rfl
  have b : Q7 M C := by rw [eC]; exact Q7.ly hw 1 _ M
  rw [e]
  exact b.tr (Q7.of (by rw [stT_n _ (by decide), sm_k, us_n (by decide), sm_k, us_n (by decide)]) (by rw [stT_n _ (by decide), sm_k, us_n (by decide), sm_k, us_n (by decide)]))
theorem Q7.rbL {w : Nat} (hw : w + 1 < 42) : ∀ (n : Nat) (M : zM), Q7 M (rbL w n M)
  | 0, M => Q7.rf M
  | n + 1, M => by
    rw [rbL_s]
    split
    · exact (Q7.cl hw M).tr (Q7.rbL hw n _)
    · exact Q7.rf M
theorem Q7.sg {t w : Nat} (ht : t ≠ 42) (hw : w + 1 < 42) (M : zM) : Q7 M (sgM9 t w M) := by
  obtain ⟨C, eC⟩ : ∃ C, C = lyA w (if rnk (sgH M) = 4 then 5 else rnk (sgH M)) (M 42 4).toNat M := ⟨_, rfl⟩
  have s9 := sg9 t w M C _ rfl eC
  have b : Q7 M C := by rw [eC]; exact Q7.ly hw _ _ M
  rw [s9]
  split
  · exact b.tr (Q7.fl _ (by decide))
  · exact (b.tr (Q7.tc ht _)).tr (Q7.pa _ _)
theorem Q7.rb {t w : Nat} (ht : t ≠ 42) (hw : w + 1 < 42) (M : zM) : Q7 M (rbM t w M).1 := by
  show Q7 M (rbT t w (_root_.Jvm.Pilot.@@N@@.rbL w 9 M)).1
  unfold rbT
  split
  · show Q7 M (if _ then _ else _)
    split
    · exact (Q7.rbL hw 9 M).tr (Q7.fl _ (by decide))
    · exact Q7.rbL hw 9 M
  · exact (Q7.rbL hw 9 M).tr (Q7.sg ht hw _)
theorem Q7.lwl {t w : Nat} (ht : t ≠ 42) (hw : w + 1 < 42) : ∀ (n : Nat) (g : Int) (M : zM), Q7 M (lwL t w n g M)
  | 0, g, M => Q7.rf M
  | n + 1, g, M => by
    have p : Q7 M (rpM t w M) := (Q7.rpL ht 701 M).tr (Q7.lf ht hw _)
    rw [lwL_s]
    split
    · exact Q7.rf M
    · split
      · exact p.tr (Q7.lwl ht hw n 0 _)
      · exact (p.tr (Q7.rb ht hw _)).tr (Q7.lwl ht hw n _ _)
theorem Q7.rl {t : Nat} (ht : t = 4 ∨ t = 23) (M : zM) : Q7 M (rlM t M) := by
  unfold rlM
  split
  · exact (Q7.st M).tr (Q7.fl _ (by decide))
  · rename_i c
    split
    · exact (Q7.st M).tr (Q7.fl _ (by decide))
    · have hw : t + 13 + 2 * (lkM M).toNat + 1 < 42 := by omega
      refine (((Q7.st M).tr (Q7.st _)).tr (Q7.of (M' := sm (sm (stT (stT M)) 42 4 0) 42 5 0) (by rw [sm_k, us_n (by decide), sm_k, us_n (by decide)]) (by rw [sm_k, us_n (by decide), sm_k, us_n (by decide)]))).tr ?_
      exact (Q7.lwl (by omega) hw 701 1 _).tr (Q7.ly hw 1 _ _)
theorem Q7.rln {t : Nat} (ht : t = 4 ∨ t = 23) (M : zM) : Q7 M (rlnM t M) := by
  unfold rlnM
  repeat' split
  · exact Q7.rh (by omega) M
  · exact Q7.rt (by omega) M
  · exact Q7.rd (by omega) M
  · exact Q7.re (by omega) _ _ _ M
  · exact Q7.re (by omega) _ _ _ M
  · exact Q7.re (by omega) _ _ _ M
  · exact Q7.re (by omega) _ _ _ M
  · exact Q7.rl ht M
  · exact Q7.fl M (by decide)
theorem Q7.le {t : Nat} (ht : t ≠ 42) (M : zM) : Q7 M (leM t M) := by
  unfold leM
  split
  · exact Q7.rf M
  · split
    · exact (Q7.st M).tr (Q7.of (by rw [sm_n (Ne.symm ht)]) (by rw [sm_n (Ne.symm ht)]))
    · exact Q7.fl M (by decide)
theorem Q7.rdl {t : Nat} (ht : t = 4 ∨ t = 23) : ∀ (n : Nat) (M : zM), Q7 M (rdL t n M)
  | 0, M => Q7.rf M
  | n + 1, M => by
    rw [rdL_s]
    split
    · exact ((Q7.rln ht M).tr (Q7.le (by omega) _)).tr (Q7.rdl ht n _)
    · exact Q7.rf M
/-- the sounds told: of houses that there are, no two of one house in one hour -/
def SBU (t : Nat) (M : zM) : Prop := (∀ j : Int, 0 ≤ j → j < M t 10 → (0 ≤ M (t + 7) j ∧ M (t + 7) j < M t 2) ∧ 1 ≤ M (t + 9) j) ∧ SUq t M
theorem SBU.of {t : Nat} {M M' : zM} (h : SBU t M) (e10 : M' t 10 = M t 10) (e7 : M' (t + 7) = M (t + 7)) (e8 : M' (t + 8) = M (t + 8)) (e9 : M' (t + 9) = M (t + 9)) (e2 : M t 2 ≤ M' t 2) : SBU t M' := by
  unfold SBU SUq at *
  rw [e10, e7, e8, e9]
  exact ⟨fun j a b => ⟨⟨(h.1 j a b).1.1, by have := (h.1 j a b).1.2; omega⟩, (h.1 j a b).2⟩, h.2⟩
theorem zsnd_z {f g k : Int → Int} {h x : Int} : ∀ (n : Nat) (i : Int), (∀ j, i ≤ j → j < i + n → 1 ≤ k j) → zsnd f g k h x n i = 0 → ∀ j, i ≤ j → j < i + n → ¬ (f j = h ∧ g j = x)
  | 0, i, _, _, j, a, b => by omega
  | n + 1, i, e, z, j, a, b => by
    unfold zsnd at z
    by_cases c : f i = h ∧ g i = x
    · rw [if_pos c] at z
      have := e i (by omega) (by omega)
      omega
    · rw [if_neg c] at z
      by_cases ej : j = i
      · rw [ej]; exact c
      · exact zsnd_z n (i + 1) (fun j p q => e j (by omega) (by omega)) z j (by omega) (by omega)
theorem SBU.rd {t : Nat} {M : zM} (ht : t = 4 ∨ t = 23) (h : SBU t M) (i : ToI M t) (h0 : M 42 6 = 0) (hf : rdM t M 42 6 = 0) : SBU t (rdM t M) := by
  by_cases c : M t 10 < 12
  · obtain ⟨C, eC⟩ : ∃ C, C = nmM9 t 0 (stT M) := ⟨_, rfl⟩
    have cC : C 42 6 = 0 := by
      by_cases q : C 42 6 = 0
      · exact q
      · rw [rd_2 c eC q] at hf; exact absurd hf q
    have s0 : stT M 42 6 = 0 := by rw [stT_n _ (by decide)]; exact h0
    obtain ⟨n1, n2⟩ := nm_ok s0 (by rw [← eC]; exact cC)
    obtain ⟨D, eD⟩ : ∃ D, D = lnM 0 99 C := ⟨_, rfl⟩
    have cD : D 42 6 = 0 := by
      by_cases q : D 42 6 = 0
      · exact q
      · rw [rd_3 c eC eD q] at hf; exact absurd hf q
    have dC : lnM 0 99 C = C := by
      rw [← eD]
      have e2 := eD
      unfold lnM at e2
      rw [if_neg (fun z => z cC)] at e2
      by_cases q1 : C 43 9 ≠ 4
      · rw [if_pos q1] at e2; rw [e2, (flM_6 1 cC).1] at cD; exact absurd cD (by decide)
      · rw [if_neg q1] at e2
        by_cases q2 : 0 ≤ C 43 11 ∧ C 43 11 ≤ 99
        · rw [if_pos q2] at e2; exact e2
        · rw [if_neg q2] at e2; rw [e2, (flM_6 2 cC).1] at cD; exact absurd cD (by decide)
    have rC : ∀ k : Nat, k ≠ 42 → k ≠ 43 → C k = M k := fun k a b => by rw [eC, nmM9_n t 0 _ a b, stT_n _ b]
    have es : sdT t C (hoT t C (tnV (stT M))) (lnV 0 99 C) = 0 := by
      by_cases q : sdT t C (hoT t C (tnV (stT M))) (lnV 0 99 C) = 0
      · exact q
      · rw [rd_4 c eC cC dC q, (flM_6 3 cC).1] at hf; exact absurd hf (by decide)
    have r5 := rd_5 c eC cC dC es rfl
    have ck : tkM 1 9 (stT C) 42 6 = 0 := by
      by_cases q : tkM 1 9 (stT C) 42 6 = 0
      · exact q
      · rw [if_pos q] at r5; rw [r5] at hf; exact absurd hf q
    rw [if_neg (fun z => z ck)] at r5
    obtain ⟨E, eE⟩ : ∃ E, E = tkM 1 9 (stT C) := ⟨_, rfl⟩
    rw [← eE] at r5 ck
    have rE : ∀ k : Nat, k ≠ 42 → k ≠ 43 → E k = M k := fun k a b => by rw [eE, tkM_n _ _ _ a b, stT_n _ b, rC k a b]
    have k1 : 1 ≤ lnV 1 9 (stT C) := lnV_ge _
    obtain ⟨hh, ehh⟩ : ∃ hh, hh = hoT t C (tnV (stT M)) := ⟨_, rfl⟩
    obtain ⟨xx, exx⟩ : ∃ xx, xx = lnV 0 99 C := ⟨_, rfl⟩
    obtain ⟨kk, ekk⟩ : ∃ kk, kk = lnV 1 9 (stT C) := ⟨_, rfl⟩
    rw [← ehh, ← exx, ← ekk, rE t (by omega) (by omega)] at r5
    rw [← ehh, ← exx] at es
    rw [← ekk] at k1
    have hr : 0 ≤ hh ∧ hh < M t 2 := by
      have z1 : nmM9 t 0 (stT M) 42 6 = 0 := by rw [← eC]; exact cC
      rw [nm_c s0, if_neg (fun w => w n2), if_neg (fun w => absurd rfl w.1)] at z1
      have z2 : hoT t (stT M) (stT M 43 11) ≠ -1 := fun q => by
        rw [if_pos ⟨rfl, q⟩, (flM_6 4 s0).1] at z1; exact absurd z1 (by decide)
      have e1 : tnV (stT M) = stT M 43 11 := by unfold tnV; rw [if_neg (fun w => w s0)]
      have e2 : hoT t C (tnV (stT M)) = hoT t (stT M) (stT M 43 11) := by unfold hoT; rw [e1, rC (t + 1) (by omega) (by omega), rC t (by omega) (by omega), stT_n M (show t + 1 ≠ 43 by omega), stT_n M (show t ≠ 43 by omega)]
      rw [ehh, e2]
      have z3 := zfind_in (stT M (t + 1)) (stT M 43 11) (stT M t 2).toNat 0 (by omega)
      unfold hoT at z2 ⊢
      rw [stT_n M (show t ≠ 43 by omega)] at z2 z3 ⊢
      have := i.1
      omega
    have e10 : rdM t M t 10 = M t 10 + 1 := by rw [r5, sm_s]
    have e2 : rdM t M t 2 = M t 2 := by rw [r5, sm_k, us_n (by decide), sm_n (by omega), sm_n (by omega), sm_n (by omega), rE t (by omega) (by omega)]
    have e7 : rdM t M (t + 7) = us (M (t + 7)) (M t 10) hh := by rw [r5, sm_n (by omega), sm_n (by omega), sm_n (by omega), sm_k, rE (t + 7) (by omega) (by omega)]
    have e8 : rdM t M (t + 8) = us (M (t + 8)) (M t 10) xx := by rw [r5, sm_n (by omega), sm_n (by omega), sm_k, sm_n (by omega), rE (t + 8) (by omega) (by omega)]
    have e9 : rdM t M (t + 9) = us (M (t + 9)) (M t 10) kk := by rw [r5, sm_n (by omega), sm_k, sm_n (by omega), sm_n (by omega), rE (t + 9) (by omega) (by omega)]
    have i10 := i.2.2.1
    have nu : ∀ j : Int, 0 ≤ j → j < M t 10 → ¬ (M (t + 7) j = hh ∧ M (t + 8) j = xx) := fun j a b => by
      unfold sdT at es
      rw [rC (t + 7) (by omega) (by omega), rC (t + 8) (by omega) (by omega), rC (t + 9) (by omega) (by omega), rC t (by omega) (by omega)] at es
      exact zsnd_z _ _ (fun q x y => (h.1 q x (by omega)).2) es j a (by omega)
    unfold SBU SUq
    rw [e10, e2, e7, e8, e9]
    refine ⟨fun j a b => ?_, fun a b a0 ab bb => ?_⟩
    · by_cases e : j = M t 10
      · rw [e, us_s, us_s]; exact ⟨hr, k1⟩
      · rw [us_n e, us_n e]; exact h.1 j a (by omega)
    · by_cases e : b = M t 10
      · rw [e, us_s, us_s, us_n (by omega), us_n (by omega)]; exact nu a a0 (by omega)
      · rw [us_n e, us_n e, us_n (by omega), us_n (by omega)]; exact h.2 a b a0 ab (by omega)
  · rw [rd_1 h0 c, (flM_6 2 h0).1] at hf
    exact absurd hf (by decide)
end ZRQ
