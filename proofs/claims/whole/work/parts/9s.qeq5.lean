section ZEQ8
theorem so_eq {t : Nat} {C R G H : zM} (hn : NT C R) (n : NI C) (s : SRl t 67 1 G H) (x j : Int) (j0 : 0 ≤ j) (j1 : j < cnd C) : (sokR (cntR R) R H x j = 0 ↔ sokF (cntF C) C G 67 x j = 0) := by
  have c := cn_eq hn n
  have ct := ct_eq hn n
  have z := hn.2 j j0 (by omega)
  unfold sokR sokF
  rw [ct.1 j j0 j1, z.1, z.2.1]
  by_cases k : cntF C j ≠ 0 ∧ C 202 j = 1 ∧ C 203 j = x
  · have b := (n.2.2 j j0 (by omega)).2.2.2 k.2.1
    have e2 := (z.2.2.2.1 k.2.1).1
    have e3 := z.2.2.2.2.1 (by omega)
    have w := (s.2.2.2.1 (C 204 j) (C 205 j) b.1.1 b.1.2 b.2.1 b.2.2).1
    rw [show 36 * (1 : Int) + 6 * C 204 j + C 205 j = 36 + (6 * C 204 j + C 205 j) by omega] at w
    rw [e2, e3, w]
    have b6 := z.2.2.2.2.2
    have kb := kbit01 (G (67 + 3) (C 204 j)) (C 205 j)
    by_cases e : kbit (G (67 + 3) (C 204 j)) (C 205 j) = C 206 j
    · rw [if_neg (fun q => q.2.2.2 ⟨fun y => by omega, fun y => by omega⟩), if_neg (fun q => q.2.2.2 e)]
    · rw [if_pos ⟨k.1, k.2.1, k.2.2, fun q => e (by omega)⟩, if_pos ⟨k.1, k.2.1, k.2.2, e⟩]
  · rw [if_neg (fun q => k ⟨q.1, q.2.1, q.2.2.1⟩), if_neg (fun q => k ⟨q.1, q.2.1, q.2.2.1⟩)]
theorem so_za {t : Nat} {C R G H : zM} (hn : NT C R) (n : NI C) (s : SRl t 67 1 G H) (x : Int) : zall (sokR (cntR R) R H x) (knb R).toNat 0 = zall (sokF (cntF C) C G 67 x) (C 201 6).toNat 0 := za_eq hn n (fun j a b => so_eq hn n s x j a b) (fun j a => by
  unfold sokF
  rw [if_neg (fun w => w.1 ((ct_eq hn n).2 j a))]
  decide)
theorem ni_0 {c : Int → Int} {M0 : zM} {t : Nat} : ∀ (n : Nat) (i : Int) (Mp : zM), niF c M0 t n i 0 Mp = 0
  | 0, i, Mp => rfl
  | n + 1, i, Mp => by unfold niF; rw [if_pos rfl]
theorem ni_eq {t : Nat} {C R : zM} (hn : NT C R) (n : NI C) : ∀ (m : Nat) (i : Int) (G H : zM), RB False t 67 1 G H → G 67 5 + m ≤ 9999 → ftG (cntR R) R m i H = niF (cntF C) C t m i 1 G := by
  intro m
  induction m with
  | zero => intro i G H _ _; rfl
  | succ m ih =>
    intro i G H h h5
    have g := h.hour (by omega)
    have f5 : hourM t 67 G 67 5 = G 67 5 + 1 := by unfold hourM; rw [sm_s]
    have z := so_za hn n g.2.1 i
    have q := ih (i + 1) _ _ g (by rw [f5]; omega)
    show (if zall (sokR (cntR R) R (hourR 1 H) i) (knb R).toNat 0 = 0 then 0 else ftG (cntR R) R m (i + 1) (hourR 1 H)) = if (1 : Int) = 0 then 1 else niF (cntF C) C t m (i + 1) (zall (sokF (cntF C) C (hourM t 67 G) 67 i) (C 201 6).toNat 0) (hourM t 67 G)
    rw [if_neg (show ¬ (1 : Int) = 0 by decide), z]
    have a01 := zall01 (sokF (cntF C) C (hourM t 67 G) 67 i) (C 201 6).toNat 0
    rcases a01 with e | e
    · rw [e, if_pos rfl, ni_0]
    · rw [e, if_neg (by decide)]; exact q
theorem ft_1 {M : zM} {last : Int} (hl : ∀ j : Int, 0 ≤ j → j < knb M → cntR M j ≠ 0 → M 239 (4 * j) = 1 → M 239 (4 * j + 1) ≤ last) : ∀ (m : Nat) (i : Int) (R : zM), last < i → ftG (cntR M) M m i R = 1
  | 0, i, R, _ => rfl
  | m + 1, i, R, h => by
    have z : zall (sokR (cntR M) M (hourR 1 R) i) (knb M).toNat 0 = 1 := by
      have := zall_ext (f := sokR (cntR M) M (hourR 1 R) i) (m := (knb M).toNat) 0 0 (fun j a b => by
        unfold sokR
        rw [if_neg]
        · decide
        · rintro ⟨q1, q2, q3, q4⟩
          have := hl j (by omega) (by omega) q1 q2
          omega)
      rw [Nat.zero_add] at this
      exact this
    show (if zall (sokR (cntR M) M (hourR 1 R) i) (knb M).toNat 0 = 0 then 0 else ftG (cntR M) M m (i + 1) (hourR 1 R)) = 1
    rw [z, if_neg (by decide)]
    exact ft_1 hl m (i + 1) _ (by omega)
theorem ft_x {M : zM} {last : Int} (hl : ∀ j : Int, 0 ≤ j → j < knb M → cntR M j ≠ 0 → M 239 (4 * j) = 1 → M 239 (4 * j + 1) ≤ last) {k : Nat} : ∀ (m : Nat) (i : Int) (R : zM), last < i + m → ftG (cntR M) M (m + k) i R = ftG (cntR M) M m i R
  | 0, i, R, h => by
    rw [Nat.zero_add]
    exact ft_1 hl k i R (by omega)
  | m + 1, i, R, h => by
    rw [show m + 1 + k = (m + k) + 1 by omega]
    show (if zall (sokR (cntR M) M (hourR 1 R) i) (knb M).toNat 0 = 0 then 0 else ftG (cntR M) M (m + k) (i + 1) (hourR 1 R)) = if zall (sokR (cntR M) M (hourR 1 R) i) (knb M).toNat 0 = 0 then 0 else ftG (cntR M) M m (i + 1) (hourR 1 R)
    rw [ft_x hl m (i + 1) _ (by omega)]
theorem ls_in {c : Int → Int} {M : zM} : ∀ (n : Nat) (i acc : Int), acc ≤ lsG c M n i acc ∧ ∀ j : Int, i ≤ j → j < i + n → c j ≠ 0 → M 202 j = 1 → M 203 j ≤ lsG c M n i acc
  | 0, i, acc => ⟨Int.le_refl _, fun j a b => by omega⟩
  | n + 1, i, acc => by
    have z := ls_in (c := c) (M := M) n (i + 1) (if c i ≠ 0 ∧ M 202 i = 1 then (if acc < M 203 i then M 203 i else acc) else acc)
    unfold lsG
    have e : acc ≤ (if c i ≠ 0 ∧ M 202 i = 1 then (if acc < M 203 i then M 203 i else acc) else acc) := by
      split
      · split <;> omega
      · exact Int.le_refl _
    refine ⟨Int.le_trans e z.1, fun j a b p q => ?_⟩
    by_cases ej : j = i
    · subst ej
      rw [if_pos ⟨p, q⟩] at z
      rw [if_pos ⟨p, q⟩]
      have : M 203 j ≤ (if acc < M 203 j then M 203 j else acc) := by split <;> omega
      exact Int.le_trans this z.1
    · exact z.2 j (by omega) (by omega) p q
theorem ls_60 {c : Int → Int} {M : zM} : ∀ (n : Nat) (i acc : Int), acc ≤ 60 → (∀ j : Int, i ≤ j → j < i + n → M 202 j = 1 → M 203 j ≤ 60) → lsG c M n i acc ≤ 60
  | 0, i, acc, h, _ => h
  | n + 1, i, acc, h, e => by
    unfold lsG
    refine ls_60 n (i + 1) _ ?_ (fun j a b => e j (by omega) (by omega))
    split
    · rename_i q
      have := e i (by omega) (by omega) q.2
      split <;> omega
    · exact h
theorem q_nears {t : Nat} {C R : zM} (h : RN t C R) (hn : NT C R) (n : NI C) : ∀ (m : Nat) (k acc r r' : Int), 0 ≤ k → k + m = 10 → nrP (cntF C) t C (lsG (cntF C) C (C 201 6).toNat 0 0) m k acc r → nrG (cntR R) R m k acc r' → r' = r := by
  have c := cn_eq hn n
  have ct := ct_eq hn n
  obtain ⟨last, el⟩ : ∃ last, last = lsG (cntF C) C (C 201 6).toNat 0 0 := ⟨_, rfl⟩
  have li := ls_in (c := cntF C) (M := C) (C 201 6).toNat 0 0
  have l6 : last ≤ 60 := by rw [el]; exact ls_60 _ _ _ (by decide) (fun j a b q => ((hn.2 j a (by omega)).2.2.2.1 q).2.2)
  rw [← el] at li
  have l0 := li.1
  have hl : ∀ j : Int, 0 ≤ j → j < knb R → cntR R j ≠ 0 → R 239 (4 * j) = 1 → R 239 (4 * j + 1) ≤ last := fun j a b q w => by
    rw [c.1] at b
    have z := hn.2 j a (by omega)
    rw [ct.1 j a b] at q
    rw [z.1] at w
    rw [z.2.1]
    exact li.2 j a (by omega) q w
  rw [← el]
  intro m
  induction m with
  | zero =>
    intro k acc r r' _ _ h1 h2
    unfold nrP at h1
    unfold nrG at h2
    rw [h1, h2]
  | succ m ih =>
    intro k acc r r' k0 k1 h1 h2
    unfold nrP at h1
    unfold nrG at h2
    obtain ⟨G, c1, c2⟩ := h1
    obtain ⟨H, r1, r2⟩ := h2
    have rb := h.nb ⟨k0, by omega⟩ c1 r1
    have e : ftG (cntR R) R 60 1 H = niF (cntF C) C t last.toNat 1 1 G := by
      rw [show (60 : Nat) = last.toNat + (60 - last).toNat by omega, ft_x hl last.toNat 1 H (by omega)]
      exact ni_eq hn n last.toNat 1 G H rb (by rw [c1.2.2.1]; omega)
    rw [e] at r2
    exact ih (k + 1) _ r r' (by omega) (by omega) c2 r2
/-- who laughs before whom: no two sounds of one house in one hour -/
def SUq (t : Nat) (M : zM) : Prop := ∀ i j : Int, 0 ≤ i → i < j → j < M t 10 → ¬ (M (t + 7) i = M (t + 7) j ∧ M (t + 8) i = M (t + 8) j)
theorem zsm_us {f g : Int → Int} {x : Int} : ∀ (n : Nat) (i acc : Int), i ≤ x → x < i + n → (∀ j, i ≤ j → j < i + n → j ≠ x → f j = g j) → zsm f n i acc = zsm g n i acc + (f x - g x)
  | 0, i, acc, a, b, _ => by omega
  | n + 1, i, acc, a, b, h => by
    rw [zsm_s, zsm_s]
    by_cases e : i = x
    · subst e
      have z : zsm f n (i + 1) (acc + f i) = zsm g n (i + 1) (acc + f i) := zsm_cong _ _ _ (fun j p q => h j (by omega) (by omega) (by omega))
      rw [z, zsm_acc n (i + 1) (acc + f i), zsm_acc n (i + 1) (acc + g i)]; omega
    · rw [h i (by omega) (by omega) e]
      exact zsm_us n (i + 1) _ (by omega) (by omega) (fun j p q => h j (by omega) (by omega))
theorem al_go {hs ts ks : Int → Int} {h : Int} {Q : Int → Int → Prop} [∀ a b, Decidable (Q a b)] : ∀ (n : Nat) (i : Int), (∀ j, i ≤ j → j < i + n → (0 ≤ ts j ∧ ts j ≤ 99) ∧ 1 ≤ ks j) → (∀ a b : Int, i ≤ a → a < b → b < i + n → ¬ (hs a = hs b ∧ ts a = ts b)) → zsm (fun x => if 0 < zsnd hs ts ks h x n i ∧ Q x (zsnd hs ts ks h x n i) then 1 else 0) 100 0 0 = zsm (fun j => if hs j = h ∧ Q (ts j) (ks j) then 1 else 0) n i 0
  | 0, i, _, _ => by
    show zsm (fun x => if (0 : Int) < 0 ∧ Q x 0 then 1 else 0) 100 0 0 = 0
    have : ∀ (m : Nat) (i acc : Int), zsm (fun x => if (0 : Int) < 0 ∧ Q x 0 then 1 else 0) m i acc = acc := by
      intro m
      induction m with
      | zero => intro i acc; rfl
      | succ m ih => intro i acc; rw [zsm_s, if_neg (fun z => by have := z.1; omega), ih]; omega
    exact this _ _ _
  | n + 1, i, hr, hu => by
    have ih := al_go (Q := Q) (h := h) n (i + 1) (fun j a b => hr j (by omega) (by omega)) (fun a b p q w => hu a b (by omega) q (by omega))
    have zs : ∀ x, zsnd hs ts ks h x (n + 1) i = if hs i = h ∧ ts i = x then ks i else zsnd hs ts ks h x n (i + 1) := fun _ => rfl
    have er : zsm (fun j => if hs j = h ∧ Q (ts j) (ks j) then (1 : Int) else 0) (n + 1) i 0 = 0 + (if hs i = h ∧ Q (ts i) (ks i) then 1 else 0) + zsm (fun x => if 0 < zsnd hs ts ks h x n (i + 1) ∧ Q x (zsnd hs ts ks h x n (i + 1)) then 1 else 0) 100 0 0 := by rw [ih, zsm_s, zsm_acc n (i + 1)]
    rw [er]
    have zn : ∀ x, ¬ (hs i = h ∧ ts i = x) → zsnd hs ts ks h x (n + 1) i = zsnd hs ts ks h x n (i + 1) := fun x q => by rw [zs x, if_neg q]
    by_cases c : hs i = h
    · have r := hr i (by omega) (by omega)
      have nz : zsnd hs ts ks h (ts i) n (i + 1) = 0 := zsnd_no _ _ (fun j a b z => hu i j (by omega) (by omega) (by omega) ⟨c.trans z.1.symm, z.2.symm⟩)
      have zp : zsnd hs ts ks h (ts i) (n + 1) i = ks i := by rw [zs (ts i), if_pos ⟨c, rfl⟩]
      rw [zsm_us (f := fun x => if 0 < zsnd hs ts ks h x (n + 1) i ∧ Q x (zsnd hs ts ks h x (n + 1) i) then 1 else 0) (g := fun x => if 0 < zsnd hs ts ks h x n (i + 1) ∧ Q x (zsnd hs ts ks h x n (i + 1)) then 1 else 0) (x := ts i) 100 0 0 r.1.1 (by omega) (fun j a b ne => by
        show ite _ _ _ = ite _ _ _
        rw [zn j (fun z => ne z.2.symm)])]
      have v1 : (if 0 < zsnd hs ts ks h (ts i) (n + 1) i ∧ Q (ts i) (zsnd hs ts ks h (ts i) (n + 1) i) then (1 : Int) else 0) = if hs i = h ∧ Q (ts i) (ks i) then 1 else 0 := by
        rw [zp]
        by_cases d : Q (ts i) (ks i)
        · rw [if_pos ⟨by omega, d⟩, if_pos ⟨c, d⟩]
        · rw [if_neg (fun z => d z.2), if_neg (fun z => d z.2)]
      have v2 : (if 0 < zsnd hs ts ks h (ts i) n (i + 1) ∧ Q (ts i) (zsnd hs ts ks h (ts i) n (i + 1)) then (1 : Int) else 0) = 0 := by
        rw [nz]
        exact if_neg (fun z => absurd z.1 (by decide))
      show _ + ((if 0 < zsnd hs ts ks h (ts i) (n + 1) i ∧ Q (ts i) (zsnd hs ts ks h (ts i) (n + 1) i) then (1 : Int) else 0) - (if 0 < zsnd hs ts ks h (ts i) n (i + 1) ∧ Q (ts i) (zsnd hs ts ks h (ts i) n (i + 1)) then (1 : Int) else 0)) = _
      rw [v1, v2]
      omega
    · rw [if_neg (fun z => c z.1), Int.zero_add, Int.zero_add]
      exact zsm_cong _ _ _ (fun j a b => by
        show ite _ _ _ = ite _ _ _
        rw [zn j (fun z => c z.1)])
theorem al_eq {t : Nat} {C R : zM} (h : RN t C R) (u : SUq t C) (x g z : Int) : alR R x g z = alC C t x g z := by
  have i := h.2.2.2.1.1
  unfold alR alC
  have e : (fun q => if 0 < zsnd (R 220) (R 221) (R 222) x q (R 209 14).toNat 0 ∧ (0 ≤ q + z ∧ q + z ≤ 99) ∧ zsnd (R 220) (R 221) (R 222) g (q + z) (R 209 14).toNat 0 = zsnd (R 220) (R 221) (R 222) x q (R 209 14).toNat 0 then (1 : Int) else 0) = fun q => if 0 < sdC C t x q ∧ ((0 ≤ q + z ∧ q + z ≤ 99) ∧ sdC C t g (q + z) = sdC C t x q) then 1 else 0 := by
    funext q
    rw [h.1.snd i.2.2.1.1, h.1.snd i.2.2.1.1]
  rw [e]
  have r := al_go (hs := C (t + 7)) (ts := C (t + 8)) (ks := C (t + 9)) (h := x) (Q := fun q kd => (0 ≤ q + z ∧ q + z ≤ 99) ∧ sdC C t g (q + z) = kd) (C t 10).toNat 0 (fun j a b => ⟨(i.2.2.2.2.2.2.1 j a (by have := i.2.2.1; omega)).2.1, (h.1.2.2.2.1 j a (by omega)).2.2.2.2⟩) (fun a b p q w => u a b p q (by omega))
  rw [r]
  refine zsm_cong _ _ _ (fun j a b => ?_)
  have k1 := (h.1.2.2.2.1 j a (by omega)).2.2.2.2
  by_cases c : C (t + 7) j = x ∧ zsnd (C (t + 7)) (C (t + 8)) (C (t + 9)) g (C (t + 8) j + z) (C t 10).toNat 0 = C (t + 9) j
  · have d : 0 ≤ C (t + 8) j + z ∧ C (t + 8) j + z ≤ 99 := by
      by_cases d : 0 ≤ C (t + 8) j + z ∧ C (t + 8) j + z ≤ 99
      · exact d
      · have := sdC_hi i (h := g) (x := C (t + 8) j + z) (by omega)
        have c2 : sdC C t g (C (t + 8) j + z) = C (t + 9) j := c.2
        omega
    exact (if_pos ⟨c.1, d, c.2⟩).trans (if_pos c).symm
  · exact (if_neg (fun q => c ⟨q.1, q.2.2⟩)).trans (if_neg c).symm
theorem lt_eq {k : Int} (hk : 0 ≤ k) : ltr (2 * k) = -k ∧ ltr (2 * k + 1) = k := by
  unfold ltr
  rw [Int.tmod_eq_emod_of_nonneg (by omega), Int.tdiv_eq_ediv_of_nonneg (by omega), Int.tmod_eq_emod_of_nonneg (by omega), Int.tdiv_eq_ediv_of_nonneg (by omega), if_pos (by omega), if_neg (by omega)]
  omega
theorem bf_eq {f : Int → Int} : ∀ (n : Nat) (k best : Int), 0 ≤ k → bfF f (2 * n) (2 * k) best (f best) = (bfR f n k best, f (bfR f n k best))
  | 0, k, best, _ => rfl
  | n + 1, k, best, hk => by
    have l := lt_eq hk
    have s : ∀ (m : Nat) (i b w : Int), bfF f (m + 1) i b w = if w < f (ltr i) then bfF f m (i + 1) (ltr i) (f (ltr i)) else bfF f m (i + 1) b w := fun _ _ _ _ => rfl
    have ih := fun b => bf_eq (f := f) n (k + 1) b (by omega)
    rw [show 2 * (n + 1) = (2 * n + 1) + 1 by omega, s, l.1]
    have e2 : ∀ b : Int, bfF f (2 * n + 1) (2 * k + 1) b (f b) = if f b < f k then (bfR f n (k + 1) k, f (bfR f n (k + 1) k)) else (bfR f n (k + 1) b, f (bfR f n (k + 1) b)) := fun b => by
      rw [s, l.2, show 2 * k + 1 + 1 = 2 * (k + 1) by omega, ih k, ih b]
    rw [e2 (-k), e2 best]
    have sR : bfR f (n + 1) k best = if f best < f (-k) then (if f (-k) < f k then bfR f n (k + 1) k else bfR f n (k + 1) (-k)) else if f best < f k then bfR f n (k + 1) k else bfR f n (k + 1) best := rfl
    rw [sR]
    by_cases c : f best < f (-k)
    · rw [if_pos c, if_pos c]
      by_cases d : f (-k) < f k
      · rw [if_pos d, if_pos d]
      · rw [if_neg d, if_neg d]
    · rw [if_neg c, if_neg c]
      by_cases d : f best < f k
      · rw [if_pos d, if_pos d]
      · rw [if_neg d, if_neg d]
theorem q_before {t : Nat} {C R : zM} (h : RN t C R) (u : SUq t C) (x g w : Int) : (if w = 0 then bfR (alR R x g) 9 1 0 else alR R x g (bfR (alR R x g) 9 1 0)) = if w = 0 then (bfF (alC C t x g) 18 2 0 (alC C t x g 0)).1 else (bfF (alC C t x g) 18 2 0 (alC C t x g 0)).2 := by
  have e : alR R x g = alC C t x g := funext fun z => al_eq h u x g z
  have b := bf_eq (f := alC C t x g) 9 1 0 (by decide)
  rw [show 2 * (1 : Int) = 2 from rfl, show 2 * 9 = 18 from rfl] at b
  rw [e, b]
end ZEQ8
