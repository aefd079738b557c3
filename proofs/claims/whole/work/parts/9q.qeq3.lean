section ZEQ6
theorem zsnd_p {f g k : Int → Int} {h x : Int} : ∀ (n : Nat) (i : Int), (∀ j, i ≤ j → j < i + n → 1 ≤ k j) → 0 ≤ zsnd f g k h x n i
  | 0, i, _ => Int.le_refl _
  | n + 1, i, e => by
    unfold zsnd
    split
    · have := e i (by omega) (by omega); omega
    · exact zsnd_p n (i + 1) (fun j a b => e j (by omega) (by omega))
theorem zsnd_no {f g k : Int → Int} {h x : Int} : ∀ (n : Nat) (i : Int), (∀ j, i ≤ j → j < i + n → ¬ (f j = h ∧ g j = x)) → zsnd f g k h x n i = 0
  | 0, i, _ => rfl
  | n + 1, i, e => by
    unfold zsnd
    rw [if_neg (e i (by omega) (by omega))]
    exact zsnd_no n (i + 1) (fun j a b => e j (by omega) (by omega))
abbrev sdC (M : zM) (t : Nat) (h x : Int) : Int := zsnd (M (t + 7)) (M (t + 8)) (M (t + 9)) h x (M t 10).toNat 0
theorem sdC_in {t : Nat} {C R : zM} (k : TKp t C R) (i : ToI C t) (h x : Int) : 0 ≤ sdC C t h x := zsnd_p _ _ (fun j a b => (k.2.2.2.1 j a (by have := i.2.2.1; omega)).2.2.2.2)
theorem sdC_hi {t : Nat} {C : zM} (i : ToI C t) {h x : Int} (hx : x < 0 ∨ 99 < x) : sdC C t h x = 0 := zsnd_no _ _ (fun j a b z => by have := i.2.2.1; have := (i.2.2.2.2.2.2.1 j a (by omega)).2.1; omega)
/-- where both rest -/
theorem sn_eq {t : Nat} {C R : zM} (h : RN t C R) (x k : Int) : (snR R x k = 0 ↔ sdC C t x (C 61 5 + k) = 0) := by
  have i := h.2.2.2.1.1
  have e5 := h.2.1.2.2.2.2
  have z := sdC_in h.1 i x (C 61 5 + k)
  unfold snR
  rw [e5, h.1.snd i.2.2.1.1]
  by_cases c : C 61 5 + k < 100 ∧ 0 < sdC C t x (C 61 5 + k)
  · rw [if_pos c]
    constructor
    · intro q; exact absurd q (by decide)
    · intro q; omega
  · rw [if_neg c]
    constructor
    · intro _
      by_cases d : C 61 5 + k < 100
      · omega
      · exact sdC_hi i (by omega)
    · intro _; rfl
theorem bg_eq {t : Nat} {C R : zM} (h : RN t C R) (x b l : Int) : bgR R x b l = bgC C t x b l := by
  have z := sn_eq h x b
  have e : (if snR R x b = 0 then (0 : Int) else 2) = if zsnd (C (t + 7)) (C (t + 8)) (C (t + 9)) x (C 61 5 + b) (C t 10).toNat 0 ≠ 0 then 2 else 0 := by
    by_cases c : snR R x b = 0
    · rw [if_pos c, if_neg (fun q => q (z.1 c))]
    · rw [if_neg c, if_pos (fun q => c (z.2 q))]
  unfold bgR bgC
  rw [e]
theorem hs_eq {t : Nat} {C R : zM} (h : RN t C R) (x b l : Int) : hsR9 R x b l = hsC C t x b l := by
  have z := sn_eq h x l
  have e : (if snR R x l = 0 then (0 : Int) else 6) = if zsnd (C (t + 7)) (C (t + 8)) (C (t + 9)) x (C 61 5 + l) (C t 10).toNat 0 ≠ 0 then 6 else 0 := by
    by_cases c : snR R x l = 0
    · rw [if_pos c, if_neg (fun q => q (z.1 c))]
    · rw [if_neg c, if_pos (fun q => c (z.2 q))]
  unfold hsR9 hsC
  rw [e]
theorem rs_eq {t : Nat} {C R : zM} (h : RN t C R) (x g : Int) : rsR R x g = rsC C t x (g.tdiv 4) (g.tmod 4) := by
  unfold rsR rsC
  refine zall_cong _ _ (fun k _ _ => ?_)
  unfold rsR1
  rw [bg_eq h, bg_eq h, hs_eq h, hs_eq h]
  by_cases c : bgC C t x (g.tdiv 4) (g.tmod 4) < bgC C t x k (g.tmod 4) ∨ hsC C t x (g.tdiv 4) (g.tmod 4) < hsC C t x (g.tdiv 4) k
  · rw [if_pos c, if_neg (by omega)]
  · rw [if_neg c, if_pos (by omega)]
theorem rtI_2 {F : Int → Int} {b : Int} : ∀ (n : Nat) (i lf : Int), 0 ≤ lf → 0 ≤ (rtI F b n i lf).2
  | 0, i, lf, h => h
  | n + 1, i, lf, h => by
    unfold rtI
    split
    · exact rtI_2 n (i + 1) lf h
    · split
      · exact h
      · exact rtI_2 n (i + 1) (lf - 1) (by omega)
theorem td4 {b i : Int} (hb : 0 ≤ b) (hi : 0 ≤ i ∧ i < 4) : (4 * b + i).tdiv 4 = b ∧ (4 * b + i).tmod 4 = i := by
  rw [Int.tdiv_eq_ediv_of_nonneg (by omega), Int.tmod_eq_emod_of_nonneg (by omega)]
  omega
theorem raR_s (f : Int → Int) (wd : Int) (n : Nat) (g acc : Int) : raR f wd (n + 1) g acc = if f g = 0 then raR f wd n (g + 1) acc else if acc = wd then 10 * g.tdiv 4 + g.tmod 4 else raR f wd n (g + 1) (acc + 1) := rfl
theorem rtI_s (f : Int → Int) (b : Int) (n : Nat) (i lf : Int) : rtI f b (n + 1) i lf = if f i = 0 then rtI f b n (i + 1) lf else if lf = 0 then (some (10 * b + i), lf) else rtI f b n (i + 1) (lf - 1) := rfl
theorem ra_i {F : Int → Int → Int} {f : Int → Int} {b k : Int} {m : Nat} (hb : 0 ≤ b) (hf : ∀ i : Int, 0 ≤ i → i < 4 → f (4 * b + i) = F b i) : ∀ (n : Nat) (i acc : Int), i + n = 4 → 0 ≤ i → acc ≤ k → raR f k (n + m) (4 * b + i) acc = match rtI (F b) b n i (k - acc) with | (some r, _) => r | (none, lf) => raR f k m (4 * b + 4) (k - lf)
  | 0, i, acc, h, _, _ => by
    have e : i = 4 := by omega
    rw [Nat.zero_add, e]
    show raR f k m (4 * b + 4) acc = raR f k m (4 * b + 4) (k - (k - acc))
    rw [show k - (k - acc) = acc by omega]
  | n + 1, i, acc, h, i0, ha => by
    have t4 := td4 hb (i := i) ⟨i0, by omega⟩
    rw [show n + 1 + m = (n + m) + 1 by omega, raR_s, rtI_s, hf i i0 (by omega), t4.1, t4.2]
    by_cases c : F b i = 0
    · rw [if_pos c, if_pos c]
      have z := ra_i (k := k) (m := m) hb hf n (i + 1) acc (by omega) (by omega) ha
      rw [show 4 * b + (i + 1) = 4 * b + i + 1 by omega] at z
      exact z
    · rw [if_neg c, if_neg c]
      by_cases d : acc = k
      · rw [if_pos d, if_pos (by omega)]
      · rw [if_neg d, if_neg (by omega)]
        have z := ra_i (k := k) (m := m) hb hf n (i + 1) (acc + 1) (by omega) (by omega) (by omega)
        rw [show 4 * b + (i + 1) = 4 * b + i + 1 by omega, show k - (acc + 1) = k - acc - 1 by omega] at z
        exact z
theorem ra_o {F : Int → Int → Int} {f : Int → Int} {k : Int} (hk : 0 ≤ k) (hf : ∀ b i : Int, 0 ≤ b → 0 ≤ i → i < 4 → f (4 * b + i) = F b i) : ∀ (n : Nat) (b lf : Int), 0 ≤ b → 0 ≤ lf → lf ≤ k → raR f k (4 * n) (4 * b) (k - lf) = rtO F n b lf
  | 0, b, lf, _, _, _ => by
    show (if k < 0 then k - lf else -2) = -2
    rw [if_neg (by omega)]
  | n + 1, b, lf, hb, h0, h1 => by
    have z := ra_i (k := k) (m := 4 * n) hb (fun i => hf b i hb) 4 0 (k - lf) (by omega) (by omega) (by omega)
    rw [show 4 * (n + 1) = 4 + 4 * n by omega, show 4 * b = 4 * b + 0 by omega, z, show k - (k - lf) = lf by omega]
    unfold rtO
    have q := rtI_2 (F := F b) (b := b) 4 0 lf h0
    have q1 : (rtI (F b) b 4 0 lf).2 ≤ lf := by
      have : ∀ (n : Nat) (i lf : Int), 0 ≤ lf → (rtI (F b) b n i lf).2 ≤ lf := by
        intro n
        induction n with
        | zero => intro i lf _; exact Int.le_refl _
        | succ n ih =>
          intro i lf h
          unfold rtI
          split
          · exact ih _ _ h
          · split
            · exact Int.le_refl _
            · have := ih (i + 1) (lf - 1) (by omega); omega
      exact this 4 0 lf h0
    cases e : rtI (F b) b 4 0 lf with
    | mk o l =>
      rw [e] at q q1
      cases o with
      | some r => rfl
      | none =>
        show raR f k (4 * n) (4 * b + 4) (k - l) = rtO F n (b + 1) l
        rw [show 4 * b + 4 = 4 * (b + 1) by omega]
        exact ra_o hk hf n (b + 1) l (by omega) q (by have : l ≤ lf := q1; omega)
theorem q_rest {t : Nat} {C R : zM} (h : RN t C R) (x : Int) {k : Int} (hk : 0 ≤ k) : raR (rsR R x) k 16 0 0 = rtO (rsC C t x) 4 0 k := by
  have z := ra_o (F := rsC C t x) (f := rsR R x) hk (fun b i hb h0 h1 => by rw [rs_eq h, (td4 hb ⟨h0, h1⟩).1, (td4 hb ⟨h0, h1⟩).2]) 4 0 k (by omega) hk (Int.le_refl _)
  rw [show k - k = 0 by omega, show 4 * (0 : Int) = 0 from rfl] at z
  exact z
theorem ra_n {f : Int → Int} : ∀ (n : Nat) (g acc : Int), 0 ≤ acc → raR f (-1) n g acc = zsm (fun j => if f j = 0 then 0 else 1) n g acc
  | 0, g, acc, _ => by
    show (if (-1 : Int) < 0 then acc else -2) = acc
    rw [if_pos (by decide)]
  | n + 1, g, acc, h => by
    rw [raR_s]
    unfold zsm
    by_cases c : f g = 0
    · rw [if_pos c, if_pos c, Int.add_zero]; exact ra_n n (g + 1) acc h
    · rw [if_neg c, if_neg c, if_neg (by omega)]; exact ra_n n (g + 1) (acc + 1) (by omega)
theorem zsm_acc {f : Int → Int} : ∀ (n : Nat) (i acc : Int), zsm f n i acc = acc + zsm f n i 0
  | 0, i, acc => by show acc = acc + 0; omega
  | n + 1, i, acc => by
    unfold zsm
    rw [zsm_acc n (i + 1) (acc + f i), zsm_acc n (i + 1) (0 + f i)]; omega
theorem zsm_sh {f g : Int → Int} {d : Int} : ∀ (n : Nat) (i acc : Int), (∀ j, i ≤ j → j < i + n → f (d + j) = g j) → zsm f n (d + i) acc = zsm g n i acc
  | 0, i, acc, _ => rfl
  | n + 1, i, acc, h => by
    unfold zsm
    rw [h i (by omega) (by omega), show d + i + 1 = d + (i + 1) by omega]
    exact zsm_sh n (i + 1) _ (fun j a b => h j (by omega) (by omega))
theorem zsm_s (f : Int → Int) (n : Nat) (i acc : Int) : zsm f (n + 1) i acc = zsm f n (i + 1) (acc + f i) := rfl
theorem zsm_ap {f : Int → Int} {m : Nat} : ∀ (n : Nat) (i acc : Int), zsm f (n + m) i acc = zsm f m (i + n) (zsm f n i acc)
  | 0, i, acc => by rw [Nat.zero_add, show i + ((0 : Nat) : Int) = i by omega]; rfl
  | n + 1, i, acc => by
    rw [show n + 1 + m = (n + m) + 1 by omega, zsm_s, zsm_ap n (i + 1), zsm_s, show i + 1 + (n : Int) = i + ((n + 1 : Nat) : Int) by omega]
theorem rs_o {F : Int → Int → Int} {f : Int → Int} (hf : ∀ b i : Int, 0 ≤ b → 0 ≤ i → i < 4 → (if f (4 * b + i) = 0 then (0 : Int) else 1) = F b i) : ∀ (n : Nat) (b acc : Int), 0 ≤ b → zsm (fun j => if f j = 0 then 0 else 1) (4 * n) (4 * b) acc = rsO F n b acc
  | 0, b, acc, _ => rfl
  | n + 1, b, acc, hb => by
    rw [show 4 * (n + 1) = 4 + 4 * n by omega, zsm_ap]
    unfold rsO
    rw [show 4 * b + ((4 : Nat) : Int) = 4 * (b + 1) by omega, ← rs_o hf n (b + 1) _ (by omega)]
    congr 1
    have z := zsm_sh (f := fun j => if f j = 0 then (0 : Int) else 1) (g := F b) (d := 4 * b) 4 0 acc (fun j a c => hf b j hb a (by omega))
    rw [show 4 * b + 0 = 4 * b by omega] at z
    exact z
theorem q_rests {t : Nat} {C R : zM} (h : RN t C R) (x : Int) : raR (rsR R x) (-1) 16 0 0 = rsO (rsC C t x) 4 0 0 := by
  rw [ra_n 16 0 0 (by decide)]
  have z := rs_o (F := rsC C t x) (f := rsR R x) (fun b i hb h0 h1 => by
    rw [rs_eq h, (td4 hb ⟨h0, h1⟩).1, (td4 hb ⟨h0, h1⟩).2]
    have q := zall01 (fun k => if bgC C t x b i < bgC C t x k i ∨ hsC C t x b i < hsC C t x b k then 0 else 1) 4 0
    have e : rsC C t x b i = 0 ∨ rsC C t x b i = 1 := q
    rcases e with e | e <;> rw [e] <;> rfl) 4 0 0 (by omega)
  exact z
/-- the fewest who warn all -/
theorem my_dec : ∀ x : Fin 64, myR ((x.val : Nat) : Int) = bcnt ((x.val : Nat) : Int) := by decide +kernel
theorem my_eq {x : Int} (h : 0 ≤ x ∧ x ≤ 63) : myR x = bcnt x := by
  have z := my_dec ⟨x.toNat, by omega⟩
  rw [show ((x.toNat : Nat) : Int) = x by omega] at z
  exact z
theorem wd_dec : ∀ (x : Fin 64) (s : Fin 64) (j : Fin 6), ((kbit ((s.val : Nat) : Int) ((j.val : Nat) : Int) = 1 ∨ b_iand ((x.val : Nat) : Int) ((s.val : Nat) : Int) ≠ 0) ↔ b_iand (kset ((x.val : Nat) : Int) ((j.val : Nat) : Int)) ((s.val : Nat) : Int) ≠ 0) := by decide +kernel
theorem wd_eq {x s j : Int} (hx : 0 ≤ x ∧ x ≤ 63) (hs : 0 ≤ s ∧ s ≤ 63) (hj : 0 ≤ j ∧ j < 6) : ((kbit s j = 1 ∨ b_iand x s ≠ 0) ↔ b_iand (kset x j) s ≠ 0) := by
  have z := wd_dec ⟨x.toNat, by omega⟩ ⟨s.toNat, by omega⟩ ⟨j.toNat, by omega⟩
  rw [show ((x.toNat : Nat) : Int) = x by omega, show ((s.toNat : Nat) : Int) = s by omega, show ((j.toNat : Nat) : Int) = j by omega] at z
  exact z
theorem fu_dec : ∀ n : Fin 7, (0 ≤ b_ishl 1 ((n.val : Nat) : Int) - 1 ∧ b_ishl 1 ((n.val : Nat) : Int) - 1 ≤ 63) ∧ (∀ s : Fin 64, ((s.val : Nat) : Int) < b_ishl 1 ((n.val : Nat) : Int) - 1 → bcnt ((s.val : Nat) : Int) < bcnt (b_ishl 1 ((n.val : Nat) : Int) - 1)) ∧ (∀ h : Fin 6, h.val < n.val → kbit (b_ishl 1 ((n.val : Nat) : Int) - 1) ((h.val : Nat) : Int) = 1) := by decide +kernel
theorem fu_eq {n : Int} (hn : 0 ≤ n ∧ n ≤ 6) : (0 ≤ b_ishl 1 n - 1 ∧ b_ishl 1 n - 1 ≤ 63) ∧ (∀ s : Int, 0 ≤ s → s < b_ishl 1 n - 1 → bcnt s < bcnt (b_ishl 1 n - 1)) ∧ (∀ h : Int, 0 ≤ h → h < n → kbit (b_ishl 1 n - 1) h = 1) := by
  have z := fu_dec ⟨n.toNat, by omega⟩
  rw [show ((n.toNat : Nat) : Int) = n by omega] at z
  refine ⟨z.1, fun s s0 s1 => ?_, fun h h0 h1 => ?_⟩
  · have q := z.2.1 ⟨s.toNat, by have := z.1; omega⟩
    rw [show ((s.toNat : Nat) : Int) = s by omega] at q
    exact q s1
  · have q := z.2.2 ⟨h.toNat, by omega⟩ (show h.toNat < n.toNat by omega)
    rw [show ((h.toNat : Nat) : Int) = h by omega] at q
    exact q
theorem wn_eq {b : Int → Int} {n : Int} (hn : 0 ≤ n ∧ n ≤ 6) (hb : ∀ j : Int, 0 ≤ j → j < n → 0 ≤ b j ∧ b j ≤ 63) : ∀ (k : Nat) (s bC bR : Int), 0 ≤ s → s + k = b_ishl 1 n - 1 → ((bR = -1 ∧ bC = b_ishl 1 n - 1) ∨ (bR = bC ∧ 0 ≤ bC ∧ bC < b_ishl 1 n - 1)) → wnR b n.toNat (k + 1) s bR = wnF (fun j => kset (b j) j) n.toNat k s bC := by
  have fu := fu_eq hn
  have V : ∀ s : Int, 0 ≤ s ∧ s ≤ 63 → zall (wdR b s) n.toNat 0 = zall (fun i => b_iand (kset (b i) i) s) n.toNat 0 := fun s hs => zall_cong _ _ (fun j j0 j1 => by
    have z := wd_eq (hb j j0 (by omega)) hs (j := j) ⟨j0, by omega⟩
    unfold wdR
    by_cases c : kbit s j = 1 ∨ b_iand (b j) s ≠ 0
    · rw [if_pos c]
      have := z.1 c
      constructor
      · intro q; exact absurd q (by decide)
      · intro q; exact absurd q this
    · rw [if_neg c]
      have : ¬ b_iand (kset (b j) j) s ≠ 0 := fun q => c (z.2 q)
      constructor
      · intro _; omega
      · intro _; rfl)
  have wR : ∀ (m : Nat) (s best : Int), wnR b n.toNat (m + 1) s best = wnR b n.toNat m (s + 1) (if 0 ≤ best ∧ myR best ≤ myR s then best else if zall (wdR b s) n.toNat 0 = 0 then best else s) := fun _ _ _ => rfl
  have wF : ∀ (m : Nat) (s best : Int), wnF (fun j => kset (b j) j) n.toNat (m + 1) s best = wnF (fun j => kset (b j) j) n.toNat m (s + 1) (if bcnt s < bcnt best ∧ zall (fun i => b_iand (kset (b i) i) s) n.toNat 0 ≠ 0 then s else best) := fun _ _ _ => rfl
  intro k
  induction k with
  | zero =>
    intro s bC bR s0 s1 J
    have es : s = b_ishl 1 n - 1 := by omega
    rw [wR]
    show (if 0 ≤ bR ∧ myR bR ≤ myR s then bR else if zall (wdR b s) n.toNat 0 = 0 then bR else s) = bC
    rcases J with ⟨j1, j2⟩ | ⟨j1, j2, j3⟩
    · rw [if_neg (by omega), if_neg, es, j2]
      have : zall (wdR b s) n.toNat 0 = 1 := by
        have q : zall (wdR b s) n.toNat 0 = zall (fun _ => 1) n.toNat 0 := zall_cong _ _ (fun j j0 j1 => by
          unfold wdR
          rw [es, if_pos (Or.inl (fu.2.2 j j0 (by omega)))])
        rw [q]
        have : ∀ (m : Nat) (i : Int), zall (fun _ => 1) m i = 1 := by
          intro m
          induction m with
          | zero => intro i; rfl
          | succ m ih => intro i; unfold zall; rw [if_neg (by decide)]; exact ih _
        exact this _ _
      rw [this]; decide
    · have f9 := fu.2.1 bC j2 j3
      rw [my_eq (x := s) (by omega), my_eq (x := bR) (by omega), if_pos ⟨by omega, by rw [j1, es]; omega⟩, j1]
  | succ k ih =>
    intro s bC bR s0 s1 J
    rw [wR, wF]
    refine ih (s + 1) _ _ (by omega) (by omega) ?_
    have f2 := fu.2.1 s s0 (by omega)
    rw [V s (by omega)]
    rcases J with ⟨j1, j2⟩ | ⟨j1, j2, j3⟩
    · rw [if_neg (by omega), j2]
      by_cases c : zall (fun i => b_iand (kset (b i) i) s) n.toNat 0 = 0
      · rw [if_pos c, if_neg (fun z => z.2 c)]
        exact Or.inl ⟨j1, rfl⟩
      · rw [if_neg c, if_pos ⟨f2, c⟩]
        exact Or.inr ⟨rfl, s0, by omega⟩
    · rw [my_eq (x := s) (by omega), my_eq (x := bR) (by omega), j1]
      by_cases d : bcnt bC ≤ bcnt s
      · rw [if_pos ⟨j2, d⟩, if_neg (fun z => by have := z.1; omega)]
        exact Or.inr ⟨rfl, j2, j3⟩
      · rw [if_neg (fun z => d z.2)]
        by_cases c : zall (fun i => b_iand (kset (b i) i) s) n.toNat 0 = 0
        · rw [if_pos c, if_neg (fun z => z.2 c)]
          exact Or.inr ⟨rfl, j2, j3⟩
        · rw [if_neg c, if_pos ⟨by omega, c⟩]
          exact Or.inr ⟨rfl, s0, by omega⟩
theorem wnF_cg {b b' : Int → Int} {hs : Nat} (h : ∀ j : Int, 0 ≤ j → j < hs → b j = b' j) : ∀ (n : Nat) (s best : Int), wnF b hs n s best = wnF b' hs n s best
  | 0, s, best => rfl
  | n + 1, s, best => by
    unfold wnF
    rw [zall_cong (f := fun i => b_iand (b i) s) (g := fun i => b_iand (b' i) s) hs 0 (fun j a c => by show _ ↔ _; rw [h j a (by omega)]), wnF_cg h n]
theorem q_warn {t : Nat} {C R Mb : zM} (h : RN t C R) (hb : Pb R Mb) : wnR (hbR Mb 0) (R 209 12).toNat (b_ishl 1 (R 209 12)).toNat 0 (-1) = wnF (fun j => kset (hbC C t j) j) (C t 2).toNat (b_ishl 1 (C t 2) - 1).toNat 0 (b_ishl 1 (C t 2) - 1) := by
  have n6 := h.2.2.2.1.1.1
  have rh := h.pb hb
  rw [h.1.1.1]
  have fu := fu_eq n6
  have e : ∀ j : Int, 0 ≤ j → j < C t 2 → hbR Mb 0 j = hbC C t j := fun j a b => rh.hb ⟨a, b⟩
  have z := wn_eq (b := hbR Mb 0) n6 (fun j a b => by rw [e j a b]; exact zbits_in _ _ _ _ (by omega) (by omega) (by omega)) (b_ishl 1 (C t 2) - 1).toNat 0 (b_ishl 1 (C t 2) - 1) (-1) (by omega) (by omega) (Or.inl ⟨rfl, rfl⟩)
  rw [show (b_ishl 1 (C t 2)).toNat = (b_ishl 1 (C t 2) - 1).toNat + 1 by omega, z]
  exact wnF_cg (fun j a b => by show kset _ _ = kset _ _; rw [e j a (by omega)]) _ _ _
end ZEQ6
