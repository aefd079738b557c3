section ZKT
theorem kt_213 (M : zM) {j : Int} (h : 0 ≤ j ∧ j < 4) : ktM M 213 j = M 213 (4 + j) := by
  unfold ktM ktB ktA
  try simp (disch := decide) only [cpP_n]
  rw [cpP_k, if_pos h]
  simp (disch := decide) only [cpP_n, sm_n]
theorem kt_214 (M : zM) {j : Int} (h : 0 ≤ j ∧ j < 6) : ktM M 214 j = M 214 (6 + j) := by
  unfold ktM ktB ktA
  try simp (disch := decide) only [cpP_n]
  rw [cpP_k, if_pos h]
  simp (disch := decide) only [cpP_n, sm_n]
theorem kt_215 (M : zM) {j : Int} (h : 0 ≤ j ∧ j < 6) : ktM M 215 j = M 215 (6 + j) := by
  unfold ktM ktB ktA
  try simp (disch := decide) only [cpP_n]
  rw [cpP_k, if_pos h]
  simp (disch := decide) only [cpP_n, sm_n]
theorem kt_216 (M : zM) {j : Int} (h : 0 ≤ j ∧ j < 6) : ktM M 216 j = M 216 (6 + j) := by
  unfold ktM ktB ktA
  try simp (disch := decide) only [cpP_n]
  rw [cpP_k, if_pos h]
  simp (disch := decide) only [cpP_n, sm_n]
theorem kt_217 (M : zM) {j : Int} (h : 0 ≤ j ∧ j < 10) : ktM M 217 j = M 217 (10 + j) := by
  unfold ktM ktB ktA
  try simp (disch := decide) only [cpP_n]
  rw [cpP_k, if_pos h]
  simp (disch := decide) only [cpP_n, sm_n]
theorem kt_218 (M : zM) {j : Int} (h : 0 ≤ j ∧ j < 10) : ktM M 218 j = M 218 (10 + j) := by
  unfold ktM ktB ktA
  try simp (disch := decide) only [cpP_n]
  rw [cpP_k, if_pos h]
  simp (disch := decide) only [cpP_n, sm_n]
theorem kt_219 (M : zM) {j : Int} (h : 0 ≤ j ∧ j < 10) : ktM M 219 j = M 219 (10 + j) := by
  unfold ktM ktB ktA
  try simp (disch := decide) only [cpP_n]
  rw [cpP_k, if_pos h]
  simp (disch := decide) only [cpP_n, sm_n]
theorem kt_220 (M : zM) {j : Int} (h : 0 ≤ j ∧ j < 12) : ktM M 220 j = M 220 (12 + j) := by
  unfold ktM ktB ktA
  try simp (disch := decide) only [cpP_n]
  rw [cpP_k, if_pos h]
  simp (disch := decide) only [cpP_n, sm_n]
theorem kt_221 (M : zM) {j : Int} (h : 0 ≤ j ∧ j < 12) : ktM M 221 j = M 221 (12 + j) := by
  unfold ktM ktB ktA
  try simp (disch := decide) only [cpP_n]
  rw [cpP_k, if_pos h]
  simp (disch := decide) only [cpP_n, sm_n]
theorem kt_222 (M : zM) {j : Int} (h : 0 ≤ j ∧ j < 12) : ktM M 222 j = M 222 (12 + j) := by
  unfold ktM ktB ktA
  try simp (disch := decide) only [cpP_n]
  rw [cpP_k, if_pos h]
  simp (disch := decide) only [cpP_n, sm_n]
theorem kt_223 (M : zM) {j : Int} (h : 0 ≤ j ∧ j < 3) : ktM M 223 j = M 223 (3 + j) := by
  unfold ktM ktB ktA
  try simp (disch := decide) only [cpP_n]
  rw [cpP_k, if_pos h]
  simp (disch := decide) only [cpP_n, sm_n]
theorem kt_224 (M : zM) {j : Int} (h : 0 ≤ j ∧ j < 3) : ktM M 224 j = M 224 (3 + j) := by
  unfold ktM ktB ktA
  try simp (disch := decide) only [cpP_n]
  rw [cpP_k, if_pos h]
  simp (disch := decide) only [cpP_n, sm_n]
theorem kt_225 (M : zM) {j : Int} (h : 0 ≤ j ∧ j < 3) : ktM M 225 j = M 225 (3 + j) := by
  unfold ktM ktB ktA
  try simp (disch := decide) only [cpP_n]
  rw [cpP_k, if_pos h]
  simp (disch := decide) only [cpP_n, sm_n]
theorem kt_226 (M : zM) {j : Int} (h : 0 ≤ j ∧ j < 64) : ktM M 226 j = M 226 (64 + j) := by
  unfold ktM ktB ktA
  try simp (disch := decide) only [cpP_n]
  rw [cpP_k, if_pos h]
  simp (disch := decide) only [cpP_n, sm_n]
theorem kt_227 (M : zM) {j : Int} (h : 0 ≤ j ∧ j < 64) : ktM M 227 j = M 227 (64 + j) := by
  unfold ktM ktB ktA
  try simp (disch := decide) only [cpP_n]
  rw [cpP_k, if_pos h]
  simp (disch := decide) only [cpP_n, sm_n]
theorem kt_228 (M : zM) {j : Int} (h : 0 ≤ j ∧ j < 64) : ktM M 228 j = M 228 (64 + j) := by
  unfold ktM ktB ktA
  try simp (disch := decide) only [cpP_n]
  rw [cpP_k, if_pos h]
  simp (disch := decide) only [cpP_n, sm_n]
theorem kt_9_12 (M : zM) : ktM M 209 12 = M 209 16 := by
  unfold ktM ktB ktA
  simp (disch := decide) only [cpP_n, sm_k, us_s, us_n]
theorem kt_9_13 (M : zM) : ktM M 209 13 = M 209 17 := by
  unfold ktM ktB ktA
  simp (disch := decide) only [cpP_n, sm_k, us_s, us_n]
theorem kt_9_14 (M : zM) : ktM M 209 14 = M 209 18 := by
  unfold ktM ktB ktA
  simp (disch := decide) only [cpP_n, sm_k, us_s, us_n]
theorem kt_9_15 (M : zM) : ktM M 209 15 = M 209 19 := by
  unfold ktM ktB ktA
  simp (disch := decide) only [cpP_n, sm_k, us_s, us_n]
theorem kt_n (M : zM) {k : Nat} (h : k < 209 ∨ (209 < k ∧ k < 213) ∨ 228 < k) : ktM M k = M k := by
  unfold ktM ktB ktA
  rw [cpP_n (by omega), cpP_n (by omega), cpP_n (by omega), cpP_n (by omega), cpP_n (by omega), cpP_n (by omega), cpP_n (by omega), cpP_n (by omega), cpP_n (by omega), cpP_n (by omega), cpP_n (by omega), cpP_n (by omega), cpP_n (by omega), cpP_n (by omega), cpP_n (by omega), cpP_n (by omega), sm_n (by omega), sm_n (by omega), sm_n (by omega), sm_n (by omega)]
theorem kt_9 (M : zM) {i : Int} (h : ¬ (12 ≤ i ∧ i ≤ 15)) : ktM M 209 i = M 209 i := by
  unfold ktM ktB ktA
  simp (disch := decide) only [cpP_n]
  rw [sm_k, us_n (by omega), sm_k, us_n (by omega), sm_k, us_n (by omega), sm_k, us_n (by omega)]
/-- what is told becomes what is kept -/
theorem kt_tk {t : Nat} {C M1 R : zM} (h : TxX t C M1) (i : ToI C t) (l : LwI C (t + 13) ∧ LwI C (t + 15) ∧ LwI C (t + 17)) (k1 : C t 1 ≤ 64) (b : SBU t C) (hr : ∀ k : Nat, 213 ≤ k → k ≤ 228 → R k = ktM M1 k) (h9 : ∀ j : Int, 12 ≤ j → j ≤ 15 → R 209 j = ktM M1 209 j) : TKp t C R := by
  obtain ⟨⟨⟨a1, a2, a3⟩, a4⟩, ⟨b1, b2, b3⟩, ⟨c1, c2, c3⟩, d, f, g1, g2⟩ := h
  refine ⟨⟨?_, ?_, ?_, ?_⟩, fun j x y => ?_, fun j x y => ?_, fun j x y => ?_, fun k x y => ?_, fun u hu => ?_⟩
  · rw [h9 12 (by omega) (by omega), kt_9_12]; exact a1
  · rw [h9 13 (by omega) (by omega), kt_9_13]; exact b1
  · rw [h9 14 (by omega) (by omega), kt_9_14]; exact c1
  · rw [h9 15 (by omega) (by omega), kt_9_15]; exact g2
  · rw [hr 214 (by omega) (by omega), hr 215 (by omega) (by omega), hr 216 (by omega) (by omega), kt_214 M1 ⟨x, by omega⟩, kt_215 M1 ⟨x, by omega⟩, kt_216 M1 ⟨x, by omega⟩]
    exact ⟨a3 j x y, a4 j x y⟩
  · rw [hr 217 (by omega) (by omega), hr 218 (by omega) (by omega), hr 219 (by omega) (by omega), kt_217 M1 ⟨x, by omega⟩, kt_218 M1 ⟨x, by omega⟩, kt_219 M1 ⟨x, by omega⟩]
    exact b3 j x y
  · rw [hr 220 (by omega) (by omega), hr 221 (by omega) (by omega), hr 222 (by omega) (by omega), kt_220 M1 ⟨x, by omega⟩, kt_221 M1 ⟨x, by omega⟩, kt_222 M1 ⟨x, by omega⟩]
    have z := c3 j x y
    exact ⟨z.1, z.2.1, z.2.2.1, (b.1 j x y).1, z.2.2.2⟩
  · rw [hr 213 (by omega) (by omega), kt_213 M1 ⟨x, y⟩]; exact (d k x y).1
  · have fu := f u hu
    have e3 : R 223 (u : Int) = M1 223 (3 + (u : Int)) := by rw [hr 223 (by omega) (by omega), kt_223 M1 ⟨by omega, by omega⟩]
    have e4 : R 224 (u : Int) = M1 224 (3 + (u : Int)) := by rw [hr 224 (by omega) (by omega), kt_224 M1 ⟨by omega, by omega⟩]
    have e5 : R 225 (u : Int) = M1 225 (3 + (u : Int)) := by rw [hr 225 (by omega) (by omega), kt_225 M1 ⟨by omega, by omega⟩]
    refine ⟨by rw [e3]; exact fu.1, ?_⟩
    have lw : LwI C (t + 13 + 2 * u) := by
      have : u = 0 ∨ u = 1 ∨ u = 2 := by omega
      rcases this with e | e | e <;> subst e
      · exact l.1
      · exact l.2.1
      · exact l.2.2
    funext nm
    unfold rlf
    rw [e3, e4, e5]
    by_cases c : M1 223 (3 + (u : Int)) = 0
    · rw [if_pos c]
      have z : ¬ 0 < C (t + 13 + 2 * u) 1 := fun q => fu.1.2 q c
      rw [lwf_0 (by omega)]
    · rw [if_neg c]
      obtain ⟨k2, k3, k4, k5, k6⟩ := fu.2 (fu.1.1 c)
      have z := fu.1.1 c
      have r1 := lw.1
      rw [k3, show M1 224 (3 + (u : Int)) + C (t + 13 + 2 * u) 1 - M1 224 (3 + (u : Int)) = C (t + 13 + 2 * u) 1 by omega]
      refine law_eq (fun q hq => ⟨lw.2 q (by omega) (by omega), ?_⟩) k6
      have w := k2 q hq
      have r64 : ∀ k : Nat, 226 ≤ k → k ≤ 228 → R k (64 + M1 224 (3 + (u : Int)) + (q : Int) - 64) = M1 k (64 + M1 224 (3 + (u : Int)) + (q : Int)) := fun k x y => by
        rw [hr k (by omega) y, show 64 + M1 224 (3 + (u : Int)) + (q : Int) - 64 = M1 224 (3 + (u : Int)) + (q : Int) by omega]
        have : k = 226 ∨ k = 227 ∨ k = 228 := by omega
        rcases this with e | e | e <;> subst e
        · rw [kt_226 M1 ⟨by omega, by omega⟩, Int.add_assoc]
        · rw [kt_227 M1 ⟨by omega, by omega⟩, Int.add_assoc]
        · rw [kt_228 M1 ⟨by omega, by omega⟩, Int.add_assoc]
      exact KnA_c (fun _ _ _ => rfl) (r64 226 (by omega) (by omega)) (r64 227 (by omega) (by omega)) (r64 228 (by omega) (by omega)) w
/-- both begin -/
theorem bg_sr {t : Nat} {C0 C R0 R : zM} (ht : t ≤ 25) (k : TKp t C0 R0) (n6 : 0 ≤ C0 t 2 ∧ C0 t 2 ≤ 6) (hc : BgR C0 61 t C) (hr : AfR 0 R0 R) : SRl t 61 0 C R := by
  obtain ⟨c1, c2, c3, c4, c5⟩ := hc
  obtain ⟨r1, r2, r3, r4⟩ := hr
  have et : C t 2 = C0 t 2 := by rw [c5 t (by omega)]
  refine ⟨fun j a b => ?_, fun j a b => ⟨?_, fun c => ?_⟩, fun j a b => ?_, fun x o x0 x1 o0 o1 => ?_, ?_⟩
  · rw [et] at b
    rw [(r1 j a (by omega)).1, (r1 j a (by omega)).2.1, (c1 j a (by omega)).1, (c1 j a (by omega)).2.1, if_pos b, if_pos b]
    exact ⟨(k.2.1 j a b).2.1, (k.2.1 j a b).2.2⟩
  · rw [(r1 j a b).2.2, (c1 j a b).2.2.2]
  · rw [et] at c
    rw [(c1 j a b).2.1, if_neg (by omega)]
  · rw [(r2 j a b).1, c2 j a b]
  · have d := (r2 (6 * x + o) (by omega) (by omega)).2
    rw [show 36 * (0 : Int) + 6 * x + o = 36 * 0 + (6 * x + o) by omega, d, (c1 x x0 x1).2.2.1]
    exact ⟨(kb0 ⟨o0, o1⟩).symm, fun _ => rfl⟩
  · rw [r3, c3]
theorem rh_m {t : Nat} (ht : t < 39) (M : zM) : M t 2 ≤ rhM t M t 2 := by
  obtain ⟨M4, e4⟩ : ∃ M4, M4 = tkM 0 9 (tkM 0 99 (nmM9 t 1 (lwM (M t 2) 6 M))) := ⟨_, rfl⟩
  have q : M4 t = M t := by rw [e4, tkM_n _ _ _ (by omega) (by omega), tkM_n _ _ _ (by omega) (by omega), nmM9_n _ _ _ (by omega) (by omega), lwM_n _ _ _ (by omega) (by omega)]
  unfold rhM
  try simp only []
  rw [← e4]
  split
  · rw [q]; exact Int.le_refl _
  · rw [sm_s, q]; omega
theorem SBU.rln {t : Nat} {M : zM} (tt : t = 4 ∨ t = 23) (h : SBU t M) (hI : RdI t M) (h0 : M 42 6 = 0) (hs : M 43 9 ≠ 0) (hf : rlnM t M 42 6 = 0) : SBU t (rlnM t M) := by
  have fl : ∀ (A : zM) (c : Int), A 42 6 = 0 → c ≠ 0 → flM A c 42 6 ≠ 0 := fun A c a b => by rw [(flM_6 c a).1]; exact b
  unfold rlnM at hf ⊢
  by_cases c0 : lvM M = 0
  · rw [if_pos c0] at hf ⊢
    have x := rhM_x (t := t) M
    exact h.of (x.2 (by omega) (by omega) 10 (by decide)) (x.1 _ (by omega) (by omega) (by omega) (by omega)) (x.1 _ (by omega) (by omega) (by omega) (by omega)) (x.1 _ (by omega) (by omega) (by omega) (by omega)) (rh_m (by omega) M)
  rw [if_neg c0] at hf ⊢
  by_cases c1 : lvM M = 1
  · rw [if_pos c1] at hf ⊢
    have x := rtM_x (t := t) M
    exact h.of (x.2 (by omega) (by omega) 10 (by decide)) (x.1 _ (by omega) (by omega) (by omega) (by omega)) (x.1 _ (by omega) (by omega) (by omega) (by omega)) (x.1 _ (by omega) (by omega) (by omega) (by omega)) (by rw [x.2 (by omega) (by omega) 2 (by decide)]; exact Int.le_refl _)
  rw [if_neg c1] at hf ⊢
  by_cases c2 : lvM M = 2
  · rw [if_pos c2] at hf ⊢
    exact h.rd tt hI.2.1 h0 hf
  rw [if_neg c2] at hf ⊢
  have re : ∀ k lo hi : Int, SBU t (reM t k lo hi M) := fun k lo hi => by
    have x := reM_x (t := t) k lo hi M
    exact h.of (by rw [x t (by omega) (by omega) (by omega) (by omega)]) (x _ (by omega) (by omega) (by omega) (by omega)) (x _ (by omega) (by omega) (by omega) (by omega)) (x _ (by omega) (by omega) (by omega) (by omega)) (by rw [x t (by omega) (by omega) (by omega) (by omega)]; exact Int.le_refl _)
  by_cases c3 : lvM M = 3
  · rw [if_pos c3]; exact re _ _ _
  rw [if_neg c3] at hf ⊢
  by_cases c4 : lvM M = 4
  · rw [if_pos c4]; exact re _ _ _
  rw [if_neg c4] at hf ⊢
  by_cases c5 : lvM M = 5
  · rw [if_pos c5]; exact re _ _ _
  rw [if_neg c5] at hf ⊢
  by_cases c6 : lvM M = 6
  · rw [if_pos c6]; exact re _ _ _
  rw [if_neg c6] at hf ⊢
  by_cases c7 : lvM M = 7
  · rw [if_pos c7] at hf ⊢
    have s0 : stT M 42 6 = 0 := by rw [stT_n _ (by decide)]; exact h0
    obtain ⟨i1, i2, i3, i4, i5, i6, i7, i8⟩ := hI
    unfold rlM at hf ⊢
    by_cases k1 : 0 ≤ lkM M ∧ lkM M ≤ 2
    · rw [if_neg (fun z => z k1)] at hf ⊢
      obtain ⟨w, ew⟩ : ∃ w : Nat, w = t + 13 + 2 * (lkM M).toNat := ⟨_, rfl⟩
      rw [← ew] at hf ⊢
      by_cases k2 : 0 < stT M w 1
      · rw [if_pos k2] at hf; exact absurd hf (fl _ 3 s0 (by decide))
      · rw [if_neg k2] at hf ⊢
        have sk : stT M 43 9 = 3 := by
          have : lkM M = if stT M 43 9 = 3 then stT M 43 11 - 8 else -1 := rfl
          by_cases q : stT M 43 9 = 3
          · exact q
          · rw [if_neg q] at this; omega
        have w0 : stT (stT M) w 1 = 0 := by
          rw [stT_n M (show w ≠ 43 by omega)] at k2
          rw [stT_n (stT M) (show w ≠ 43 by omega), stT_n M (show w ≠ 43 by omega)]
          have lw0 : 0 ≤ M w 1 := by
            have : w = t + 13 ∨ w = t + 15 ∨ w = t + 17 := by omega
            rcases this with e | e | e
            · rw [e]; exact i4.1.1.1
            · rw [e]; exact i4.2.1.1.1
            · rw [e]; exact i4.2.2.1.1
          omega
        have tv := (i1.st hs).st (by omega)
        have dd : WdI (stT (stT M)) := i8.of (by rw [(stT_4 _).1, (stT_4 M).1]) (by rw [stT_n _ (by decide), stT_n _ (by decide)]) (by rw [stT_n _ (by decide), stT_n _ (by decide)])
        obtain ⟨r1, r2, r3⟩ := rl_x (t := t) (w := w) (Mc := M) (by omega) tv dd (by rw [stT_n _ (by omega), stT_n _ (by omega)]; exact i3) w0 (fun k hk => by rw [stT_n _ hk, stT_n _ hk]) (X := lyA w 1 (lsM t w (stT M) 42 4).toNat (lsM t w (stT M))) rfl
        exact h.of (r2 10 (by decide)) (r1 _ (by omega) (by omega) (by omega) (by omega) (by omega) (by omega)) (r1 _ (by omega) (by omega) (by omega) (by omega) (by omega) (by omega)) (r1 _ (by omega) (by omega) (by omega) (by omega) (by omega) (by omega)) (by rw [r2 2 (by decide)]; exact Int.le_refl _)
    · rw [if_pos k1] at hf; exact absurd hf (fl _ 1 s0 (by decide))
  rw [if_neg c7] at hf
  exact absurd hf (fl M 1 h0 (by decide))
theorem SBU.rdl {t : Nat} (tt : t = 4 ∨ t = 23) : ∀ (n : Nat) (M : zM), RdI t M → SBU t M → rdL t n M 42 6 = 0 → SBU t (rdL t n M)
  | 0, M, _, h, _ => h
  | n + 1, M, hI, h, hf => by
    rw [rdL_s] at hf ⊢
    by_cases c : M 42 6 = 0 ∧ M 43 9 ≠ 0
    · rw [if_pos c] at hf ⊢
      have l := hI.line tt c.1 c.2
      have q := (Q7.rdl tt n (leM t (rlnM t M)) hf).1
      obtain ⟨e1, e2⟩ := le_ok q
      have s := h.rln tt hI c.1 c.2 e2
      have s2 : SBU t (leM t (rlnM t M)) := by
        rw [e1]
        exact s.of (by rw [sm_k, us_n (by decide), stT_n _ (by omega)]) (by rw [sm_n (by omega), stT_n _ (by omega)]) (by rw [sm_n (by omega), stT_n _ (by omega)]) (by rw [sm_n (by omega), stT_n _ (by omega)]) (by rw [sm_k, us_n (by decide), stT_n _ (by omega)]; exact Int.le_refl _)
      exact SBU.rdl tt n _ l.1 s2 hf
    · rw [if_neg c]; exact h
end ZKT
