section ZEQD
theorem tde {a : Int} (h : 0 ≤ a) : a.tdiv 10 = a / 10 ∧ a.tmod 10 = a % 10 := ⟨Int.tdiv_eq_ediv_of_nonneg h, Int.tmod_eq_emod_of_nonneg h⟩
theorem sp_st {fr : Int → Int} : ∀ (k : Nat) (lf st : Int) (M : zM), 0 ≤ lf → k ≤ 6 → (∀ j : Int, 0 ≤ j → j < k → M 233 j = fr j) → (spI k lf st M).2 = st + dgC fr k lf
  | 0, lf, st, M, _, _, _ => by show st = st + 0; omega
  | k + 1, lf, st, M, h, h6, hf => by
    have t := tde h
    show (spI k (lf.tdiv 10) (st + iabs (11 * lf.tmod 10 - M 233 (k : Int))) (sm M 233 (6 + (k : Int)) (11 * lf.tmod 10))).2 = _
    rw [t.1, t.2, sp_st (fr := fr) k (lf / 10) _ _ (by omega) (by omega) (fun j a b => by rw [sm_k, us_n (by omega)]; exact hf j a (by omega)), dgC_s, hf k (by omega) (by omega)]
    omega
theorem sp_rh {t : Nat} : ∀ (k : Nat) (lf st : Int) (C M : zM), RH t 67 1 C M → 0 ≤ lf → k ≤ 6 → ∃ C' : zM, RH t 67 1 C' (spI k lf st M).1 ∧ (∀ q : Nat, q ≠ 68 → C' q = C q) ∧ ∀ j : Int, C' 68 j = if 0 ≤ j ∧ j < k then 11 * dgV k lf j else C 68 j
  | 0, lf, st, C, M, h, _, _ => ⟨C, h, fun _ _ => rfl, fun j => by rw [if_neg (by omega)]⟩
  | k + 1, lf, st, C, M, h, h0, h6 => by
    have t1 := tde h0
    have g := h.dl (Or.inr rfl) (x := (k : Int)) (v := 11 * (lf % 10)) (by omega) (by omega)
    rw [show 6 * (1 : Int) + (k : Int) = 6 + (k : Int) by omega] at g
    obtain ⟨C', r, e1, e2⟩ := sp_rh (t := t) k (lf / 10) (st + iabs (11 * (lf % 10) - M 233 (k : Int))) _ _ g (by omega) (by omega)
    refine ⟨C', ?_, fun q hq => by rw [e1 q hq, sm_n hq], fun j => ?_⟩
    · show RH t 67 1 C' (spI k (lf.tdiv 10) (st + iabs (11 * lf.tmod 10 - M 233 (k : Int))) (sm M 233 (6 + (k : Int)) (11 * lf.tmod 10))).1
      rw [t1.1, t1.2]; exact r
    · rw [e2 j, dgV_s]
      by_cases c : 0 ≤ j ∧ j < k
      · rw [if_pos c, if_pos (by omega), us_n (by omega)]
      · rw [if_neg c]
        show us (C (67 + 1)) (k : Int) (11 * (lf % 10)) j = _
        by_cases e : j = k
        · rw [e, us_s, if_pos (by omega), us_s]
        · rw [us_n e, if_neg (by omega)]
theorem hr_68 {C C' : zM} {t : Nat} {p q : Int} (ht : t ≤ 25) (e : ∀ k : Nat, k ≠ 68 → C' k = C k) : hrM C' t 67 p q = hd C t p q (C' 68 p) (C' 68 q) := by
  unfold hrM hd
  rw [lwf_of (C := C) (e _ (by omega)) (e _ (by omega)), e 50 (by decide), e (67 + 2) (by decide), e (67 + 5) (by decide), e (67 + 3) (by decide), e 67 (by decide)]
theorem spG_cg {ok ok' : Int → Prop} [DecidablePred ok] [DecidablePred ok'] {cs cs' : Int → Int} : ∀ (n : Nat) (c : Int) (p : Int × Int), (∀ k : Int, c ≤ k → k < c + n → (ok k ↔ ok' k) ∧ cs k = cs' k) → spG ok cs n c p = spG ok' cs' n c p
  | 0, c, p, _ => rfl
  | n + 1, c, p, h => by
    have z := h c (by omega) (by omega)
    show spG ok cs n (c + 1) (if 0 ≤ p.1 ∧ p.2 ≤ cs c then p else if ok c then (c, cs c) else p) = spG ok' cs' n (c + 1) (if 0 ≤ p.1 ∧ p.2 ≤ cs' c then p else if ok' c then (c, cs' c) else p)
    have e : (if ok c then (c, cs c) else p) = if ok' c then (c, cs' c) else p := by
      rw [z.2]
      by_cases q : ok c
      · rw [if_pos q, if_pos (z.1.1 q)]
      · rw [if_neg q, if_neg (fun w => q (z.1.2 w))]
    rw [e, z.2]
    exact spG_cg n (c + 1) _ (fun k a b => h k (by omega) (by omega))
theorem spO_G {Mb : zM} {nn : Nat} : ∀ (n : Nat) (c : Int) (p : Int × Int), spO Mb nn n c p = spG (fun c => apR (spI nn c 0 Mb).1 nn ≠ 0) (fun c => (spI nn c 0 Mb).2) n c p
  | 0, c, p => rfl
  | n + 1, c, p => by
    show spO Mb nn n (c + 1) (if 0 ≤ p.1 ∧ p.2 ≤ (spI nn c 0 Mb).2 then p else if apR (spI nn c 0 Mb).1 nn = 0 then p else (c, (spI nn c 0 Mb).2)) = spG _ _ n (c + 1) (if 0 ≤ p.1 ∧ p.2 ≤ (spI nn c 0 Mb).2 then p else if apR (spI nn c 0 Mb).1 nn ≠ 0 then (c, (spI nn c 0 Mb).2) else p)
    have e : (if apR (spI nn c 0 Mb).1 nn = 0 then p else (c, (spI nn c 0 Mb).2)) = if apR (spI nn c 0 Mb).1 nn ≠ 0 then (c, (spI nn c 0 Mb).2) else p := by
      by_cases q : apR (spI nn c 0 Mb).1 nn = 0
      · rw [if_pos q, if_neg (fun w => w q)]
      · rw [if_neg q, if_pos q]
    rw [e]
    exact spO_G n (c + 1) _
theorem p10_e : ∀ (n : Nat) (x : Int), p10 n x = x * (pw n : Int)
  | 0, x => by show x = x * 1; omega
  | n + 1, x => by
    show p10 n (x * 10) = _
    rw [p10_e n, pw_s, Int.mul_assoc, Int.mul_comm 10]
theorem sdV_e : ∀ (N : Nat) (c w : Int), 0 ≤ c → 0 ≤ w → w < N → (sdV ((N : Int) - 1 - w).toNat c).tmod 10 = dgV N c w
  | 0, c, w, _, _, b => by omega
  | N + 1, c, w, hc, a, b => by
    have t := tde hc
    rw [dgV_s]
    by_cases e : w = N
    · rw [e, us_s, show (((N + 1 : Nat) : Int) - 1 - (N : Int)).toNat = 0 by omega]
      show c.tmod 10 = _
      exact t.2
    · rw [us_n e, ← sdV_e N (c / 10) w (by omega) a (by omega), show (((N + 1 : Nat) : Int) - 1 - w).toNat = ((N : Int) - 1 - w).toNat + 1 by omega]
      show (sdV ((N : Int) - 1 - w).toNat (c.tdiv 10)).tmod 10 = _
      rw [t.1]
theorem q_spread {t : Nat} {w : Int} {C R C1 G Mb : zM} (h : RN t C R) (hc : CyR C 67 61 C1) (hs : SpR t C1 G) (hb : LtR R Mb) (hw : 0 ≤ w ∧ w ≤ 4) (hw2 : w < 4 → w < C t 2) : svP w (n4R R) (spO Mb (n4R R).toNat (p10 (n4R R).toNat 1).toNat 0 (-1, 0)) = spV w (plF (G 57) (G 58) (n4 C1 t) (n4 C1 t).toNat 0 0 (2147483647, G 59, G 60)) := by
  have rh := h.cy hc hb
  have ht := h.2.2.2.2.1
  have n6 := h.2.2.2.1.1.1
  have eC : C1 t 2 = C t 2 := by rw [hc.2.2.2.2 t (by omega)]
  obtain ⟨N, eN⟩ : ∃ N : Nat, n4 C1 t = (N : Int) ∧ n4R R = (N : Int) ∧ N ≤ 4 ∧ (N : Int) ≤ C t 2 ∧ (w < 4 → w < N) := by
    refine ⟨(n4 C1 t).toNat, ?_⟩
    have e : n4R R = n4 C1 t := by unfold n4R n4; rw [h.1.1.1, eC]
    have r : (0 ≤ n4 C1 t ∧ n4 C1 t ≤ 4 ∧ n4 C1 t ≤ C t 2) ∧ (n4 C1 t = 4 ∨ n4 C1 t = C t 2) := by unfold n4; rw [eC]; split <;> omega
    rw [e]
    refine ⟨by omega, by omega, by omega, by omega, fun q => ?_⟩
    have := hw2 q
    omega
  obtain ⟨e1, e2, N4, Nn, Nw⟩ := eN
  obtain ⟨s1, s2, s3⟩ := hs
  rw [e1] at s2 s3 ⊢
  rw [e2]
  have frE : ∀ j : Int, 0 ≤ j → j < N → Mb 233 j = G 58 j := fun j a b => by
    rw [s2 j a b, hb.2.2.2.2 233 j (by omega)]
    have z := (h.2.1.1 j a (by omega)).1
    rw [show 6 * (0 : Int) + j = j by omega] at z
    rw [z]
    exact ((hc.1 j a (by omega)).1).symm
  have frR : ∀ j : Int, 0 ≤ j → j < N → 0 ≤ G 58 j ∧ G 58 j ≤ 99 := fun j a b => by
    rw [s2 j a b]
    exact rh.2.2.2.1.2.1 j a (by omega)
  have ok2 : ∀ c : Int, 0 ≤ c → (apR (spI N c 0 Mb).1 N ≠ 0 ↔ ∀ a b : Int, 0 ≤ a → a < b → b < N → apV C1 t a b (dgV N c a) (dgV N c b) ≠ 0) := fun c c0 => by
    obtain ⟨C', r, q1, q2⟩ := sp_rh (t := t) N c 0 C1 Mb rh c0 (by omega)
    have t2 : C' t 2 = C t 2 := by rw [q1 t (by omega), eC]
    have hr : ∀ a b : Int, 0 ≤ a → a < N → 0 ≤ b → b < N → a ≠ b → hrR (spI N c 0 Mb).1 1 a b = hd C1 t a b (dgV N c a * 11) (dgV N c b * 11) := fun a b a0 a1 b0 b1 ne => by
      have z := r.hr (x := a) (y := b) (by rw [t2]; omega) (by rw [t2]; omega)
      rw [if_neg ne, hr_68 ht q1, q2 a, q2 b, if_pos ⟨a0, a1⟩, if_pos ⟨b0, b1⟩, Int.mul_comm 11, Int.mul_comm 11] at z
      exact z
    have av : ∀ a b i k : Int, (apV C1 t a b i k ≠ 0 ↔ hd C1 t a b (i * 11) (k * 11) = 0 ∧ hd C1 t b a (k * 11) (i * 11) = 0) := fun a b i k => by
      unfold apV
      by_cases q : hd C1 t a b (i * 11) (k * 11) = 0 ∧ hd C1 t b a (k * 11) (i * 11) = 0
      · rw [if_pos q]; exact ⟨fun _ => q, fun _ => by decide⟩
      · rw [if_neg q]; exact ⟨fun w => absurd rfl w, fun w => absurd w q⟩
    unfold apR
    rw [zall_1]
    constructor
    · intro v a b a0 ab bN
      have z : ∀ x y : Int, 0 ≤ x → x < N → 0 ≤ y → y < N → hrR (spI N c 0 Mb).1 1 x y = 0 := fun x y x0 x1 y0 y1 => by
        have u := (zall_1 _ _).1 (v x x0 (by omega)) y y0 (by omega)
        by_cases q : hrR (spI N c 0 Mb).1 1 x y = 0
        · exact q
        · rw [if_neg q] at u; exact absurd rfl u
      refine (av a b _ _).2 ⟨?_, ?_⟩
      · rw [← hr a b a0 (by omega) (by omega) bN (by omega)]; exact z a b a0 (by omega) (by omega) bN
      · rw [← hr b a (by omega) bN a0 (by omega) (by omega)]; exact z b a (by omega) bN a0 (by omega)
    · intro v a a0 a1
      rw [zall_1]
      intro b b0 b1
      have q : hrR (spI N c 0 Mb).1 1 a b = 0 := by
        by_cases e : a = b
        · unfold hrR; rw [if_pos e]
        · rw [hr a b a0 (by omega) b0 (by omega) e]
          by_cases lt : a < b
          · exact ((av a b _ _).1 (v a b a0 lt (by omega))).1
          · exact ((av b a _ _).1 (v b a b0 (by omega) (by omega))).2
      rw [if_pos q]; decide
  have dec : DecidablePred (fun c : Int => ∀ a b : Int, 0 ≤ a → a < b → b < N → apV C1 t a b (dgV N c a) (dgV N c b) ≠ 0) := fun c => Classical.propDecidable _
  have PE := pl_eq (ap := G 57) (fr := G 58) (hs := N) (ok := fun c => ∀ a b : Int, 0 ≤ a → a < b → b < N → apV C1 t a b (dgV N c a) (dgV N c b) ≠ 0) (A := fun a b i k => apV C1 t a b i k ≠ 0) N4 frR (fun a b i k a0 ab bN i0 i1 k0 k1 => by rw [s3 a b a0 ab bN i k i0 (by omega) k0 (by omega)]) (fun c _ => Iff.rfl) N 0 0 (2147483647, G 59, G 60) (-1, 0) (by omega) (by omega) (fun k a b => by omega) (fun a b a0 ab bh => by omega) (Or.inl ⟨rfl, rfl⟩)
  have J := PE.1
  rw [Int.zero_mul] at J
  have eS : spO Mb (N : Int).toNat (p10 (N : Int).toNat 1).toNat 0 (-1, 0) = spG (fun c => ∀ a b : Int, 0 ≤ a → a < b → b < N → apV C1 t a b (dgV N c a) (dgV N c b) ≠ 0) (dgC (G 58) N) (pw N) 0 (-1, 0) := by
    rw [show (N : Int).toNat = N by omega, p10_e, Int.one_mul, show ((pw N : Nat) : Int).toNat = pw N by omega, spO_G]
    refine spG_cg _ _ _ (fun k a b => ⟨ok2 k a, ?_⟩)
    have z := sp_st (fr := G 58) N k 0 Mb a (by omega) frE
    rw [Int.zero_add] at z
    exact z
  rw [eS]
  have eP : plF (G 57) (G 58) (N : Int) (N : Int).toNat 0 0 (2147483647, G 59, G 60) = plF (G 57) (G 58) (N : Int) N ((0 : Nat) : Int) (dgC (G 58) 0 0) (2147483647, G 59, G 60) := by rw [show (N : Int).toNat = N by omega]; rfl
  rw [eP]
  obtain ⟨p, ep⟩ : ∃ p, p = spG (fun c => ∀ a b : Int, 0 ≤ a → a < b → b < N → apV C1 t a b (dgV N c a) (dgV N c b) ≠ 0) (dgC (G 58) N) (pw N) 0 (-1, 0) := ⟨_, rfl⟩
  obtain ⟨S, eS2⟩ : ∃ S, S = plF (G 57) (G 58) (N : Int) N ((0 : Nat) : Int) (dgC (G 58) 0 0) (2147483647, G 59, G 60) := ⟨_, rfl⟩
  rw [← ep, ← eS2] at J ⊢
  unfold svP spV
  rcases J with ⟨j1, j2⟩ | ⟨j1, j2, j3, j4⟩
  · rw [if_pos (by omega), if_pos j2]
  · rw [if_neg (show ¬ p.1 < 0 by omega), if_neg (show ¬ S.1 = 2147483647 by omega)]
    by_cases w4 : w = 4
    · rw [if_pos w4, if_pos w4, j2]
    · rw [if_neg w4, if_neg w4, j4 w hw.1 (Nw (by omega)), sdV_e N p.1 w j1 hw.1 (Nw (by omega))]
end ZEQD
