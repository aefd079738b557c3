section ZH4
theorem AM.mono {G : zG} {l : Launch} {y : MethodName} {md : zMd} {ar : List av} {lay : List zKd} {P : zP} {M : zM} {Z Z' : zZ} (h : AM G l y md ar lay P M Z) (hz : ∀ r lay P M, Z r lay P M → Z' r lay P M) : AM G l y md ar lay P M Z' := by
  intro hG p e ha hc hk s m args below hf happ hP hK
  obtain ⟨n, o, h1, h2, h3, ⟨⟨r, lay', P', M', e1, e2, e3⟩, L, hL⟩⟩ := h hG p e ha hc hk s m args below hf happ hP hK
  exact ⟨n, o, h1, h2, h3, ⟨r, lay', P', M', e1, hz _ _ _ _ e2, e3⟩, L, hL⟩
def ct (x lo hi : Int) : Int := if x < lo then lo else if hi < x then hi else x
theorem ct_in {x lo hi : Int} (h : lo ≤ hi) : lo ≤ ct x lo hi ∧ ct x lo hi ≤ hi := by
  unfold ct
  split
  · omega
  · split <;> omega
theorem ct_id {x lo hi : Int} (h : lo ≤ x ∧ x ≤ hi) : ct x lo hi = x := by
  unfold ct
  rw [if_neg (by omega), if_neg (by omega)]
theorem sm_id {M : zM} {k : Nat} {i v : Int} (h : M k i = v) : sm M k i v = M := by
  funext q j
  by_cases e : q = k
  · subst e
    rw [sm_k]
    unfold us
    split
    · rename_i e; rw [e]; exact h.symm
    · rfl
  · rw [sm_n e]
/-- the turns of the hour -/
def tdM (t a : Nat) : Nat → Int → zM → zM
  | 0, _, M => M
  | n + 1, i, M => tdM t a n (i + 1) (if M (t + 5) i = M a 5 then sm M (a + 1) (M (t + 4) i) (M (t + 6) i) else M)
/-- the sounds of the hour -/
def srM (t a : Nat) : Nat → Int → zM → zM
  | 0, _, M => M
  | n + 1, i, M => srM t a n (i + 1) (if M (t + 8) i = M a 5 ∧ M (t + 7) i ≠ M 50 5 then (sdM t a (M (t + 7) i) (M (t + 9) i) (M t 2).toNat 0 M 0).1 else M)
def drv (M : zM) (t a : Nat) (i : Int) : Int := ct (M (a + 1) i + lawE (lwf M (t + 17) (nmf (M (a + 1) i) (M (a + 2) i) 0 0 0 (bcnt (M (a + 3) i)) (M a 5))) 0 (-9) 9) 0 99
/-- dials drift -/
def drM (t a : Nat) : Nat → Int → zM → zM
  | 0, _, M => M
  | n + 1, i, M => drM t a n (i + 1) (sm M (a + 1) i (drv M t a i))
def fdM (t a : Nat) (M : zM) : zM := if M 50 2 = 1 then M else sm M a 6 (nxt (M a 6))
abbrev fdf (t a : Nat) (M : zM) : Prop := M 50 2 = 1 ∨ ((nxt (M a 6)).tdiv 65536).tmod 100 < M (t + 10) 2
/-- valves fade -/
def fvM (t a : Nat) : Nat → Int → zM → zM
  | 0, _, M => M
  | n + 1, i, M => fvM t a n (i + 1) (if fdf t a M ∧ 0 < M (a + 2) i then sm (fdM t a M) (a + 2) i (M (a + 2) i - 1) else fdM t a M)
def hourM1 (t a : Nat) (M : zM) : zM := if M a 5 ≤ 99 then srM t a (M t 10).toNat 0 (if M 50 4 = 0 then M else tdM t a (M t 6).toNat 0 M) else M
def hourM2 (t a : Nat) (M : zM) : zM := if M 50 3 ≠ 0 ∧ 0 < M (t + 17) 1 then drM t a (M t 2).toNat 0 (hourM1 t a M) else hourM1 t a M
def hourM3 (t a : Nat) (M : zM) : zM := if M 50 2 ≠ 0 then fvM t a (M t 2).toNat 0 (hourM2 t a M) else hourM2 t a M
/-- an hour goes by -/
def hourM (t a : Nat) (M : zM) : zM := sm (hourM3 t a M) a 5 (M a 5 + 1)
def passM (t a : Nat) : Nat → zM → zM
  | 0, M => M
  | n + 1, M => passM t a n (hourM t a M)
theorem tdM_Fa (t a : Nat) : ∀ (n : Nat) (i : Int) (M : zM), Fa a M (tdM t a n i M)
  | 0, i, M => Fa.rf a M
  | n + 1, i, M => by
    unfold tdM
    split
    · exact ((Fa.rf a M).sm (by omega) _ _).tr (tdM_Fa t a n (i + 1) _)
    · exact tdM_Fa t a n (i + 1) M
theorem tdM_h (t a : Nat) : ∀ (n : Nat) (i : Int) (M : zM), tdM t a n i M a = M a
  | 0, i, M => rfl
  | n + 1, i, M => by
    unfold tdM
    split
    · rw [tdM_h t a n (i + 1) _, sm_n (by omega)]
    · exact tdM_h t a n (i + 1) M
theorem tdM_I (t a : Nat) (ht : t ≤ 25) (ha : 54 ≤ a) : ∀ (n : Nat) (i : Int) (M : zM), CI M t a → 0 ≤ i → i + n ≤ 10 → StI (tdM t a n i M) a
  | 0, i, M, h, _, _ => h.2.2.1
  | n + 1, i, M, h, h0, h1 => by
    unfold tdM
    split
    · have q := h.1.2.2.2.2.2.1 i h0 (by omega)
      have s1 := h.2.2.1.d (k := a + 1) (i := M (t + 4) i) rfl q.2.2
      exact tdM_I t a ht ha n (i + 1) _ (((Fa.rf a M).sm (by omega) _ _).ci ha ht h s1) (by omega) (by omega)
    · exact tdM_I t a ht ha n (i + 1) M h (by omega) (by omega)
theorem srM_Fa (t a : Nat) : ∀ (n : Nat) (i : Int) (M : zM), Fa a M (srM t a n i M)
  | 0, i, M => Fa.rf a M
  | n + 1, i, M => by
    unfold srM
    split
    · exact (sdM_Fa t a _ _ _ _ M 0).tr (srM_Fa t a n (i + 1) _)
    · exact srM_Fa t a n (i + 1) M
theorem srM_I (t a : Nat) (ht : t ≤ 25) (ha : 54 ≤ a) : ∀ (n : Nat) (i : Int) (M : zM), CI M t a → 0 ≤ i → i + n ≤ 12 → StI (srM t a n i M) a
  | 0, i, M, h, _, _ => h.2.2.1
  | n + 1, i, M, h, h0, h1 => by
    unfold srM
    split
    · have q := h.1.2.2.2.2.2.2.1 i h0 (by omega)
      have q1 := h.1.1
      have s1 := sdM_I t a (y := M (t + 7) i) (kd := M (t + 9) i) ⟨by omega, by omega⟩ ⟨by omega, by omega⟩ (M t 2).toNat 0 M 0 h.2.2.1 (by omega) (by omega)
      exact srM_I t a ht ha n (i + 1) _ ((sdM_Fa t a _ _ _ _ M 0).ci ha ht h s1) (by omega) (by omega)
    · exact srM_I t a ht ha n (i + 1) M h (by omega) (by omega)
theorem hearM_h (M : zM) (a : Nat) (x y kd : Int) : hearM M a x y kd a = M a := by unfold hearM; rw [sm_n (by omega), sm_n (by omega)]
theorem learnM_h (M : zM) (t a : Nat) (x y kd : Int) : learnM M t a x y kd a = M a := by
  unfold learnM
  split
  · rw [sm_n (by omega), hearM_h]
  · exact hearM_h M a x y kd
theorem sdM_h (t a : Nat) (y kd : Int) : ∀ (n : Nat) (i : Int) (M : zM) (acc : Int), (sdM t a y kd n i M acc).1 a = M a
  | 0, i, M, acc => rfl
  | n + 1, i, M, acc => by
    unfold sdM
    split
    · exact sdM_h t a y kd n (i + 1) M acc
    · rw [sdM_h t a y kd n (i + 1) _ _, learnM_h]
theorem srM_h (t a : Nat) : ∀ (n : Nat) (i : Int) (M : zM), srM t a n i M a = M a
  | 0, i, M => rfl
  | n + 1, i, M => by
    unfold srM
    split
    · rw [srM_h t a n (i + 1) _, sdM_h]
    · exact srM_h t a n (i + 1) M
theorem drM_Fa (t a : Nat) : ∀ (n : Nat) (i : Int) (M : zM), Fa a M (drM t a n i M)
  | 0, i, M => Fa.rf a M
  | n + 1, i, M => by
    unfold drM
    exact ((Fa.rf a M).sm (by omega) _ _).tr (drM_Fa t a n (i + 1) _)
theorem drM_h (t a : Nat) : ∀ (n : Nat) (i : Int) (M : zM), drM t a n i M a = M a
  | 0, i, M => rfl
  | n + 1, i, M => by
    unfold drM
    rw [drM_h t a n (i + 1) _, sm_n (by omega)]
theorem drM_I (t a : Nat) (ha : 54 ≤ a) : ∀ (n : Nat) (i : Int) (M : zM), StI M a → StI (drM t a n i M) a
  | 0, i, M, h => h
  | n + 1, i, M, h => by
    unfold drM
    exact drM_I t a ha n (i + 1) _ (h.d rfl (ct_in (by decide)))
theorem nxt_in (x : Int) : 0 ≤ nxt x ∧ nxt x ≤ 2147483647 := by
  unfold nxt b_iand
  have h1 := ir (Int32.ofInt (x * 1103515245 + 12345) &&& Int32.ofInt 2147483647)
  refine ⟨?_, by omega⟩
  have h2 : (Int32.ofInt (x * 1103515245 + 12345) &&& Int32.ofInt 2147483647).toInt = ((Int32.ofInt (x * 1103515245 + 12345) &&& Int32.ofInt 2147483647).toBitVec).toInt := rfl
  rw [h2, BitVec.toInt_eq_toNat_of_msb]
  · omega
  · show ((Int32.ofInt (x * 1103515245 + 12345)).toBitVec &&& (Int32.ofInt 2147483647).toBitVec).msb = false
    rw [BitVec.msb_and, show (Int32.ofInt 2147483647).toBitVec.msb = false from by decide, Bool.and_false]
theorem fdM_Fa (t a : Nat) (M : zM) : Fa a M (fdM t a M) := by
  unfold fdM
  split
  · exact Fa.rf a M
  · exact (Fa.rf a M).sm (by omega) _ _
theorem fdM_I {t a : Nat} {M : zM} (h : StI M a) : StI (fdM t a M) a := by
  unfold fdM
  split
  · exact h
  · exact h.n (nxt_in _)
theorem fvM_Fa (t a : Nat) : ∀ (n : Nat) (i : Int) (M : zM), Fa a M (fvM t a n i M)
  | 0, i, M => Fa.rf a M
  | n + 1, i, M => by
    unfold fvM
    split
    · exact ((fdM_Fa t a M).sm (by omega) _ _).tr (fvM_Fa t a n (i + 1) _)
    · exact (fdM_Fa t a M).tr (fvM_Fa t a n (i + 1) _)
theorem fvM_I (t a : Nat) : ∀ (n : Nat) (i : Int) (M : zM), StI M a → 0 ≤ i → i + n ≤ 6 → StI (fvM t a n i M) a
  | 0, i, M, h, _, _ => h
  | n + 1, i, M, h, h0, h1 => by
    unfold fvM
    split
    · rename_i c
      have q := h.2.1 i h0 (by omega)
      exact fvM_I t a n (i + 1) _ ((fdM_I h).g rfl ⟨by omega, by omega⟩) (by omega) (by omega)
    · exact fvM_I t a n (i + 1) _ (fdM_I h) (by omega) (by omega)
theorem fvM_h (t a : Nat) : ∀ (n : Nat) (i : Int) (M : zM), fvM t a n i M a 5 = M a 5
  | 0, i, M => rfl
  | n + 1, i, M => by
    have e : fdM t a M a 5 = M a 5 := by
      unfold fdM
      split
      · rfl
      · rw [sm_k, us_n (by decide)]
    unfold fvM
    split
    · rw [fvM_h t a n (i + 1) _, sm_n (by omega), e]
    · rw [fvM_h t a n (i + 1) _, e]
end ZH4
