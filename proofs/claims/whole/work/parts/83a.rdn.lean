section ZRN
theorem rpL_s (t n : Nat) (M : zM) : rpL t (n + 1) M = if M 42 6 = 0 ∧ iaV M ≠ 0 then rpL t n (rpB t M) else M := rfl
theorem rbL_s (w n : Nat) (M : zM) : rbL w (n + 1) M = if 0 < M 42 5 ∧ M 43 9 = 5 ∧ M 43 11 = 14 then rbL w n (clM w M) else M := rfl
theorem toM_n (M : zM) {k : Nat} (h : k ≠ 42) (h2 : k ≠ 43) (h3 : k ≠ 49) : toM M k = M k := by
  unfold toM
  split
  · rw [stT_n _ h2, paM_n _ _ h h3, sm_n h]
  · exact flM_n M 2 h
theorem rpB_n (t : Nat) (M : zM) {k : Nat} (h : k ≠ 42) (h2 : k ≠ 43) (h3 : k ≠ 49) (h4 : k ≠ t) : rpB t M k = M k := by
  unfold rpB
  split
  · exact toM_n M h h2 h3
  · rw [paM_n _ _ h h3, tcM_n _ _ h h2 h4]
theorem rpL_n (t : Nat) {k : Nat} (h : k ≠ 42) (h2 : k ≠ 43) (h3 : k ≠ 49) (h4 : k ≠ t) : ∀ (n : Nat) (M : zM), rpL t n M k = M k
  | 0, M => rfl
  | n + 1, M => by
    rw [rpL_s]
    split
    · rw [rpL_n t h h2 h3 h4 n, rpB_n t M h h2 h3 h4]
    · rfl
theorem lfM_n (t w : Nat) (M : zM) {k : Nat} (h : k ≠ 42) (h2 : k ≠ 43) (h4 : k ≠ t) (h5 : k ≠ w) (h6 : k ≠ w + 1) : lfM t w M k = M k := by
  unfold lfM
  split
  · rfl
  · split
    · rw [laM_n _ _ _ h5 h6, tcM_n _ _ h h2 h4]
    · split
      · rw [laM_n _ _ _ h5 h6, tcM_n _ _ h h2 h4, lnM_n _ _ _ h]
      · exact lnM_n _ _ _ h
theorem rpM_n (t w : Nat) (M : zM) {k : Nat} (h : k ≠ 42) (h2 : k ≠ 43) (h3 : k ≠ 49) (h4 : k ≠ t) (h5 : k ≠ w) (h6 : k ≠ w + 1) : rpM t w M k = M k := by
  unfold rpM
  rw [lfM_n t w _ h h2 h4 h5 h6, rpL_n t h h2 h3 h4]
theorem lyA_n (w : Nat) (r : Int) {k : Nat} (h : k ≠ 42) (h5 : k ≠ w) (h6 : k ≠ w + 1) : ∀ (n : Nat) (M : zM), lyA w r n M k = M k
  | 0, M => rfl
  | n + 1, M => by
    rw [lyA_s]
    split
    · rw [lyA_n w r h h5 h6 n, pop1_n w M h h5 h6]
    · rfl
theorem clM_n (w : Nat) (M : zM) {k : Nat} (h : k ≠ 42) (h2 : k ≠ 43) (h5 : k ≠ w) (h6 : k ≠ w + 1) : clM w M k = M k := by
  unfold clM
  show stT (sm (sm (lyA w 1 (M 42 4).toNat M) 42 4 _) 42 5 _) k = _
  rw [stT_n _ h2, sm_n h, sm_n h, lyA_n w 1 h h5 h6]
theorem rbL_n (w : Nat) {k : Nat} (h : k ≠ 42) (h2 : k ≠ 43) (h5 : k ≠ w) (h6 : k ≠ w + 1) : ∀ (n : Nat) (M : zM), rbL w n M k = M k
  | 0, M => rfl
  | n + 1, M => by
    rw [rbL_s]
    split
    · rw [rbL_n w h h2 h5 h6 n, clM_n w M h h2 h5 h6]
    · rfl
theorem sgM9_n (t w : Nat) (M : zM) {k : Nat} (h : k ≠ 42) (h2 : k ≠ 43) (h3 : k ≠ 49) (h4 : k ≠ t) (h5 : k ≠ w) (h6 : k ≠ w + 1) : sgM9 t w M k = M k := by
  unfold sgM9
  show (if rnk (sgH M) = 4 ∧ rkA (lyA w (if rnk (sgH M) = 4 then rnk (sgH M) + 1 else rnk (sgH M)) (M 42 4).toNat M) = 4 then flM (lyA w (if rnk (sgH M) = 4 then rnk (sgH M) + 1 else rnk (sgH M)) (M 42 4).toNat M) 1 else paM (sgH M) (tcM t (lyA w (if rnk (sgH M) = 4 then rnk (sgH M) + 1 else rnk (sgH M)) (M 42 4).toNat M))) k = _
  obtain ⟨r9, er⟩ : ∃ r9, r9 = (if rnk (sgH M) = 4 then rnk (sgH M) + 1 else rnk (sgH M)) := ⟨_, rfl⟩
  rw [← er]
  split
  · rw [flM_n _ _ h, lyA_n w _ h h5 h6]
  · rw [paM_n _ _ h h3, tcM_n _ _ h h2 h4, lyA_n w _ h h5 h6]
theorem rbM_n (t w : Nat) (M : zM) {k : Nat} (h : k ≠ 42) (h2 : k ≠ 43) (h3 : k ≠ 49) (h4 : k ≠ t) (h5 : k ≠ w) (h6 : k ≠ w + 1) : (rbM t w M).1 k = M k := by
  rw [rbM_e]
  unfold rbT
  by_cases c : sgH (rbL w 9 M) = -1
  · rw [if_pos c]
    show (if 0 < rbL w 9 M 42 5 then flM (rbL w 9 M) 1 else rbL w 9 M) k = _
    split
    · rw [flM_n _ _ h, rbL_n w h h2 h5 h6]
    · exact rbL_n w h h2 h5 h6 9 M
  · rw [if_neg c]
    show sgM9 t w (rbL w 9 M) k = _
    rw [sgM9_n t w _ h h2 h3 h4 h5 h6, rbL_n w h h2 h5 h6]
theorem lwL_s (t w n : Nat) (g : Int) (M : zM) : lwL t w (n + 1) g M = if g = 0 then M else if rpM t w M 42 6 ≠ 0 then lwL t w n 0 (rpM t w M) else lwL t w n (rbM t w (rpM t w M)).2 (rbM t w (rpM t w M)).1 := rfl
theorem lwL_0 (t w : Nat) (M : zM) : ∀ n : Nat, lwL t w n 0 M = M
  | 0 => rfl
  | n + 1 => by rw [lwL_s, if_pos rfl]
theorem lwL_n (t w : Nat) {k : Nat} (h : k ≠ 42) (h2 : k ≠ 43) (h3 : k ≠ 49) (h4 : k ≠ t) (h5 : k ≠ w) (h6 : k ≠ w + 1) : ∀ (n : Nat) (g : Int) (M : zM), lwL t w n g M k = M k
  | 0, g, M => rfl
  | n + 1, g, M => by
    rw [lwL_s]
    split
    · rfl
    · split
      · rw [lwL_n t w h h2 h3 h4 h5 h6 n, rpM_n t w M h h2 h3 h4 h5 h6]
      · rw [lwL_n t w h h2 h3 h4 h5 h6 n, rbM_n t w _ h h2 h3 h4 h5 h6, rpM_n t w M h h2 h3 h4 h5 h6]
theorem rbM_2 (t w : Nat) (M : zM) : (rbM t w M).2 = 0 ∨ (rbM t w M).2 = 1 := by
  rw [rbM_e]
  obtain ⟨M1, e1⟩ : ∃ M1, M1 = rbL w 9 M := ⟨_, rfl⟩
  rw [← e1]
  unfold rbT
  by_cases c : sgH M1 = -1
  · rw [if_pos c]; exact Or.inl rfl
  · rw [if_neg c]
    show (if rnk (sgH M1) = 4 ∧ rkA (lyA w (if rnk (sgH M1) = 4 then rnk (sgH M1) + 1 else rnk (sgH M1)) (M1 42 4).toNat M1) = 4 then (0 : Int) else if sgM9 t w M1 42 6 = 0 then 1 else 0) = 0 ∨ (if rnk (sgH M1) = 4 ∧ rkA (lyA w (if rnk (sgH M1) = 4 then rnk (sgH M1) + 1 else rnk (sgH M1)) (M1 42 4).toNat M1) = 4 then (0 : Int) else if sgM9 t w M1 42 6 = 0 then 1 else 0) = 1
    by_cases c2 : rnk (sgH M1) = 4 ∧ rkA (lyA w (if rnk (sgH M1) = 4 then rnk (sgH M1) + 1 else rnk (sgH M1)) (M1 42 4).toNat M1) = 4
    · rw [if_pos c2]; exact Or.inl rfl
    · rw [if_neg c2]
      by_cases c3 : sgM9 t w M1 42 6 = 0
      · rw [if_pos c3]; exact Or.inr rfl
      · rw [if_neg c3]; exact Or.inl rfl
end ZRN
