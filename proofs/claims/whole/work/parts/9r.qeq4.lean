section ZEQ7
/-- the notes, class against reference -/
def NT (C R : zM) : Prop := (R 209 61 = C 201 6 ∧ R 209 62 = C 201 7) ∧ ∀ i : Int, 0 ≤ i → i < C 201 6 → R 239 (4 * i) = C 202 i ∧ R 239 (4 * i + 1) = C 203 i ∧ (C 202 i = 0 → R 239 (4 * i + 2) = C 204 i) ∧ (C 202 i = 1 → R 239 (4 * i + 2) = 6 * C 204 i + C 205 i ∧ 1 ≤ C 203 i ∧ C 203 i ≤ 60) ∧ (C 202 i ≠ 2 → R 239 (4 * i + 3) = C 206 i) ∧ (C 206 i = 0 ∨ C 206 i = 1)
theorem cn_eq {C R : zM} (h : NT C R) (n : NI C) : knb R = cnd C ∧ 0 ≤ cnd C ∧ cnd C ≤ C 201 6 := by
  have a := n.1
  have b := n.2.1
  unfold knb cnd
  rw [h.1.1, h.1.2]
  by_cases c : C 201 7 = -1
  · rw [if_pos (by omega), if_pos c]; omega
  · rw [if_neg (by omega), if_neg c]; omega
theorem stl_eq {so so' at9 at9' : Int → Int} {K : Int} : ∀ (n : Nat) (f g : Int → Int), (n : Int) ≤ K → (∀ j : Int, 0 ≤ j → j < n → so j = so' j ∧ at9 j = at9' j) → (∀ j : Int, 0 ≤ j → j < K → f j = g j) → ∀ j : Int, 0 ≤ j → j < K → stl so at9 n f j = stl so' at9' n g j
  | 0, f, g, _, _, h => h
  | n + 1, f, g, hn, hs, h => by
    have e := hs n (by omega) (by omega)
    have e2 := h n (by omega) (by omega)
    unfold stl
    refine stl_eq n _ _ (by omega) (fun j a b => hs j a (by omega)) (fun j a b => ?_)
    rw [e.1, e.2, e2]
    split
    · by_cases q : j = at9' n
      · rw [q, us_s, us_s]
      · rw [us_n q, us_n q]; exact h j a b
    · exact h j a b
theorem stl_0 {so at9 : Int → Int} {K : Int} : ∀ (n : Nat) (f : Int → Int), (∀ j : Int, K ≤ j → f j = 0) → ∀ j : Int, K ≤ j → stl so at9 n f j = 0
  | 0, f, h => h
  | n + 1, f, h => by
    unfold stl
    refine stl_0 n _ (fun j hj => ?_)
    split
    · by_cases q : j = at9 n
      · rw [q, us_s]
      · rw [us_n q]; exact h j hj
    · exact h j hj
theorem ct_eq {C R : zM} (h : NT C R) (n : NI C) : (∀ j : Int, 0 ≤ j → j < cnd C → cntR R j = cntF C j) ∧ ∀ j : Int, cnd C ≤ j → cntF C j = 0 := by
  have c := cn_eq h n
  unfold cntR cntF
  rw [c.1]
  refine ⟨fun j a b => ?_, fun j a => stl_0 (K := cnd C) _ _ (fun q hq => by show ite _ _ _ = _; rw [if_neg (by omega)]) j a⟩
  exact stl_eq (K := cnd C) _ _ _ (by omega) (fun q x y => ⟨(h.2 q x (by omega)).1, (h.2 q x (by omega)).2.1⟩) (fun q x y => by show (1 : Int) = ite _ _ _; rw [if_pos y]) j a b
theorem zall_ext {f : Int → Int} {m : Nat} : ∀ (n : Nat) (i : Int), (∀ j : Int, i + n ≤ j → j < i + n + m → f j ≠ 0) → zall f (n + m) i = zall f n i
  | 0, i, h => by
    rw [Nat.zero_add]
    show zall f m i = 1
    have : ∀ (m : Nat) (i : Int), (∀ j : Int, i ≤ j → j < i + m → f j ≠ 0) → zall f m i = 1 := by
      intro m
      induction m with
      | zero => intro i _; rfl
      | succ m ih =>
        intro i h
        unfold zall
        rw [if_neg (h i (by omega) (by omega))]
        exact ih (i + 1) (fun j a b => h j (by omega) (by omega))
    exact this m i (fun j a b => h j (by omega) (by omega))
  | n + 1, i, h => by
    rw [show n + 1 + m = (n + m) + 1 by omega]
    show (if f i = 0 then 0 else zall f (n + m) (i + 1)) = if f i = 0 then 0 else zall f n (i + 1)
    rw [zall_ext n (i + 1) (fun j a b => h j (by omega) (by omega))]
theorem za_eq {C R : zM} (h : NT C R) (n : NI C) {f g : Int → Int} (hf : ∀ j : Int, 0 ≤ j → j < cnd C → (f j = 0 ↔ g j = 0)) (hg : ∀ j : Int, cnd C ≤ j → g j ≠ 0) : zall f (knb R).toNat 0 = zall g (C 201 6).toNat 0 := by
  have c := cn_eq h n
  rw [c.1, show (C 201 6).toNat = (cnd C).toNat + (C 201 6 - cnd C).toNat by omega, zall_ext _ _ (fun j a b => hg j (by omega))]
  exact zall_cong _ _ (fun j a b => hf j a (by omega))
/-- whose room it is -/
theorem q_whose {t : Nat} {C R : zM} (h : RN t C R) (hn : NT C R) (n : NI C) : whR R = whC C t := by
  have c := cn_eq hn n
  have ct := ct_eq hn n
  unfold whR whC
  rw [h.1.1.1]
  refine zbits_cong _ _ _ (fun x a b => ?_)
  rw [za_eq hn n (g := nokF (cntF C) C t x) (fun j p q => ?_) (fun j p => ?_)]
  · have z := hn.2 j p (by omega)
    unfold nokR nokF
    rw [ct.1 j p q, z.1, z.2.1, h.1.snd h.2.2.2.1.1.2.2.1.1]
    by_cases k : cntF C j ≠ 0 ∧ C 202 j = 0
    · rw [z.2.2.1 k.2, z.2.2.2.2.1 (by omega)]
      have b6 := z.2.2.2.2.2
      by_cases e : zsnd (C (t + 7)) (C (t + 8)) (C (t + 9)) x (C 203 j) (C t 10).toNat 0 = C 204 j
      · rw [if_pos e]
        by_cases e6 : C 206 j = 1
        · rw [if_neg (fun w => w.2.2 ⟨fun _ => e6, fun _ => e⟩), if_neg (fun w => w.2.2 e6.symm)]
        · rw [if_pos ⟨k.1, k.2, fun w => e6 (w.1 e)⟩, if_pos ⟨k.1, k.2, fun w => e6 w.symm⟩]
      · rw [if_neg e]
        by_cases e6 : C 206 j = 1
        · rw [if_pos ⟨k.1, k.2, fun w => e (w.2 e6)⟩, if_pos ⟨k.1, k.2, by omega⟩]
        · rw [if_neg (fun w => w.2.2 ⟨fun q => absurd q e, fun q => absurd q e6⟩), if_neg (fun w => w.2.2 (by omega))]
    · rw [if_neg (fun w => k ⟨w.1, w.2.1⟩), if_neg (fun w => k ⟨w.1, w.2.1⟩)]
  · unfold nokF
    rw [if_neg (fun w => w.1 (ct.2 j p))]
    decide
/-- which hour tells most -/
theorem zmx_cg {f g : Int → Int} (h : ∀ j, f j = g j) : ∀ (n : Nat) (i acc : Int), zmx f n i acc = zmx g n i acc
  | 0, i, acc => rfl
  | n + 1, i, acc => by unfold zmx; rw [h i, zmx_cg h n]
theorem ma_eq {t : Nat} {C R : zM} (h : RN t C R) (s x : Int) : maR R s x = maC C t s x := by
  unfold maR maC
  refine zmx_cg (fun kd => ?_) _ _ _
  rw [h.1.1.1]
  refine zsm_cong _ _ _ (fun j a b => ?_)
  rw [h.1.snd h.2.2.2.1.1.2.2.1.1]
theorem ak_eq {f : Int → Int} : ∀ (n : Nat) (x best : Int), akF f n x best (f best) = (akR f n x best, f (akR f n x best))
  | 0, x, best => rfl
  | n + 1, x, best => by
    unfold akF akR
    by_cases c : f x < f best
    · rw [if_pos c, if_pos c]; exact ak_eq n (x + 1) x
    · rw [if_neg c, if_neg c]; exact ak_eq n (x + 1) best
theorem q_ask {t : Nat} {C R : zM} (h : RN t C R) (hn : NT C R) (n : NI C) (w : Int) : (if w = 0 then akR (maR R (whR R)) 23 1 0 else maR R (whR R) (akR (maR R (whR R)) 23 1 0)) = if w = 0 then (akF (maC C t (whC C t)) 23 1 0 (maC C t (whC C t) 0)).1 else (akF (maC C t (whC C t)) 23 1 0 (maC C t (whC C t) 0)).2 := by
  have e : maR R (whR R) = maC C t (whC C t) := by funext x; rw [ma_eq h, q_whose h hn n]
  rw [e, ak_eq]
/-- how near one must be -/
theorem RN.nb {t : Nat} {k : Int} {C R G H : zM} (h : RN t C R) (hk : 0 ≤ k ∧ k ≤ 20) (hg : NbR t C k G) (hb : NbH R k H) : RB False t 67 1 G H := by
  obtain ⟨kp, s, n, ⟨i1, i2⟩, ht, h5⟩ := h
  obtain ⟨g1, g2, g3, cq, m1, m2, m3, m4, m5, m6⟩ := hg
  obtain ⟨b1, b2, b3, ⟨p5, p6, p7, p8, p9, p0⟩, rq⟩ := hb
  have n6 := i1.1
  have kc : ∀ q : Nat, t ≤ q → q ≤ t + 18 → G q = C q := fun q a b => cq q (by omega)
  have tk : TKp t G H := kp.rq kc (fun k a b i => rq k i (by omega)) (fun i a b => rq 209 i (by omega))
  have e213 : H 213 2 = C (t + 10) 2 := by rw [rq 213 2 (by omega)]; exact kp.2.2.2.2.1 2 (by decide) (by decide)
  have z0 : ∀ o : Int, kbit 0 o = 0 ∨ True := fun _ => Or.inr trivial
  have kb : ∀ o : Int, 0 ≤ o → o < 6 → kbit 0 o = 0 := by
    intro o o0 o1
    have : o = 0 ∨ o = 1 ∨ o = 2 ∨ o = 3 ∨ o = 4 ∨ o = 5 := by omega
    rcases this with e | e | e | e | e | e <;> subst e <;> decide +kernel
  refine ⟨tk, ⟨fun j a b => ?_, fun j a b => ⟨?_, fun c => ?_⟩, fun j a b => ?_, fun x o x0 x1 o0 o1 => ?_, ?_⟩, ⟨?_, ?_, ?_, ?_, ?_⟩, ⟨i1.eq kc, ?_⟩, fun z => z.elim, fun z => ?_, ht, by decide, Or.inr rfl⟩
  · rw [kc t (by omega) (by omega)] at b
    have q := kp.2.1 j a b
    have c := g1 j a (by omega)
    have d := b1 j a (by omega)
    rw [show G (67 + 1) j = G 68 j from rfl, show G (67 + 2) j = G 69 j from rfl, c.1, c.2.1, d.1, d.2.1, if_pos b, if_pos b]
    exact ⟨q.2.1, q.2.2⟩
  · rw [show G (67 + 4) j = G 71 j from rfl, (g1 j a b).2.2.2, (b1 j a b).2.2]
  · rw [kc t (by omega) (by omega)] at c
    rw [show G (67 + 2) j = G 69 j from rfl, (g1 j a b).2.1, if_neg (by omega)]
  · rw [show G (67 + 5) j = G 72 j from rfl, g2 j a b, (b2 j a b).1]
  · have d := (b2 (6 * x + o) (by omega) (by omega)).2
    rw [show 36 * (1 : Int) + 6 * x + o = 36 * 1 + (6 * x + o) by omega, d, show G (67 + 3) x = G 70 x from rfl, (g1 x x0 x1).2.2.1]
    exact ⟨(kb o o0 o1).symm, fun _ => rfl⟩
  · rw [b3, g3]
  · rw [p0, m1]
  · rw [p9, m5]
  · rw [p8, m4]; decide
  · rw [p7, m3]; decide
  · rw [m2, p5, p6, e213]
    by_cases c : 50 ≤ C (t + 10) 2
    · rw [if_pos c]; exact Or.inr (Or.inl ⟨rfl, rfl, Or.inr ⟨rfl, c⟩⟩)
    · rw [if_neg c]; exact Or.inl ⟨rfl, Or.inr (Or.inr ⟨rfl, by omega⟩)⟩
  · refine ⟨fun i x y => ?_, fun i x y => ?_, fun i x y => ?_, fun i x y => ?_, fun i x y => ?_, by rw [g3]; omega, ?_⟩
    · rw [show G (67 + 1) i = G 68 i from rfl, (g1 i x y).1]
      have := i1.2.2.2.1 i x y
      split <;> omega
    · rw [show G (67 + 2) i = G 69 i from rfl, (g1 i x y).2.1]
      have := i1.2.2.2.2.1 i x y
      split <;> omega
    · rw [show G (67 + 3) i = G 70 i from rfl, (g1 i x y).2.2.1]; omega
    · rw [show G (67 + 4) i = G 71 i from rfl, (g1 i x y).2.2.2]; omega
    · rw [show G (67 + 5) i = G 72 i from rfl, g2 i x y]; omega
    · rw [m6]
      have := i1.2.2.2.2.2.2.2.2.2.2
      omega
  · rw [m2] at z
    exfalso
    split at z <;> omega
end ZEQ7
