section ZEQ3
theorem RB.pass {N : Prop} {t a : Nat} {b : Int} : ∀ (n : Nat) (C R : zM), RB N t a b C R → C a 5 + n ≤ 9999 → RB N t a b (passM t a n C) (goR b n R)
  | 0, C, R, h, _ => h
  | n + 1, C, R, h, h5 => by
    unfold passM goR
    refine RB.pass n _ _ (h.hour (by omega)) ?_
    unfold hourM
    rw [sm_s]; omega
/-- from one place to another, cell by cell -/
theorem SRl.mk {t a a' : Nat} {b b' : Int} {C C' R R' : zM} (h : SRl t a b C R) (hn : C t 2 ≤ 6) (ht : C' t 2 = C t 2) (hc : ∀ j : Int, 0 ≤ j → j < 6 → C' (a' + 1) j = C (a + 1) j ∧ C' (a' + 2) j = C (a + 2) j ∧ C' (a' + 3) j = C (a + 3) j ∧ C' (a' + 4) j = C (a + 4) j) (hc5 : ∀ j : Int, 0 ≤ j → j < 36 → C' (a' + 5) j = C (a + 5) j) (h5 : C' a' 5 = C a 5) (hr : ∀ j : Int, 0 ≤ j → j < 6 → R' 233 (6 * b' + j) = R 233 (6 * b + j) ∧ R' 234 (6 * b' + j) = R 234 (6 * b + j) ∧ R' 235 (6 * b' + j) = R 235 (6 * b + j)) (hr6 : ∀ j : Int, 0 ≤ j → j < 36 → R' 236 (36 * b' + j) = R 236 (36 * b + j) ∧ R' 237 (36 * b' + j) = R 237 (36 * b + j)) (h8 : R' 238 b' = R 238 b) : SRl t a' b' C' R' := by
  obtain ⟨d, k, tm, w, hh⟩ := h
  unfold SRl
  rw [ht]
  refine ⟨fun j x y => ?_, fun j x y => ?_, fun j x y => ?_, fun p o p0 p1 o0 o1 => ?_, by rw [h8, h5]; exact hh⟩
  · rw [(hr j x (by omega)).1, (hr j x (by omega)).2.1, (hc j x (by omega)).1, (hc j x (by omega)).2.1]; exact d j x y
  · rw [(hr j x y).2.2, (hc j x y).2.2.2, (hc j x y).2.1]; exact k j x y
  · rw [(hr6 j x y).1, hc5 j x y]; exact tm j x y
  · have e : ∀ q : Int, 36 * q + 6 * p + o = 36 * q + (6 * p + o) := fun q => by omega
    have z := w p o p0 p1 o0 o1
    rw [e] at z
    rw [e, (hr6 (6 * p + o) (by omega) (by omega)).2, (hc p p0 p1).2.2.1]; exact z
/-- what is now -/
def RN (t : Nat) (C R : zM) : Prop := TKp t C R ∧ SRl t 61 0 C R ∧ R 209 54 = C 61 6 ∧ (ToI C t ∧ StI C 61) ∧ t ≤ 25 ∧ C 50 1 = C (t + 10) 0
/-- enough for who hears whom -/
def RH (t a : Nat) (b : Int) (C R : zM) : Prop := TKp t C R ∧ SRl t a b C R ∧ R 209 60 = C 50 1 ∧ (ToI C t ∧ StI C a) ∧ t ≤ 25 ∧ 54 ≤ a
theorem RB.rh {N : Prop} {t a : Nat} {b : Int} {C R : zM} (h : RB N t a b C R) : RH t a b C R := ⟨h.1, h.2.1, h.2.2.1.1, h.2.2.2.1, h.2.2.2.2.2.2.1, h.2.2.2.2.2.2.2.1⟩
theorem RH.n {t a : Nat} {b : Int} {C R : zM} (h : RH t a b C R) : (0 ≤ C t 2 ∧ C t 2 ≤ 6) ∧ R 209 12 = C t 2 := ⟨h.2.2.2.1.1.1, h.1.1.1⟩
theorem RH.km {t a : Nat} {b x : Int} {C R : zM} (h : RH t a b C R) (hx : 0 ≤ x ∧ x < 6) : kmM R b x = bcnt (C (a + 3) x) := km_eq h.2.1 h.n.1 h.n.2 hx (h.2.2.2.1.2.2.2.1 x hx.1 hx.2)
theorem RH.hr {t a : Nat} {b x y : Int} {C R : zM} (h : RH t a b C R) (hx : 0 ≤ x ∧ x < C t 2) (hy : 0 ≤ y ∧ y < C t 2) : hrR R b x y = if x = y then 0 else hrM C t a x y := by
  have n := h.n.1
  unfold hrR hrM
  by_cases e : x = y
  · rw [if_pos e, if_pos e]
  · rw [if_neg e, if_neg e, h.km ⟨hx.1, by omega⟩]
    have l0 := (h.1.2.2.2.2.2 0 (by decide)).2
    rw [show ((0 : Nat) : Int) = 0 from rfl, show t + 13 + 2 * 0 = t + 13 by omega] at l0
    rw [l0, h.2.2.1, (h.2.1.1 x hx.1 hx.2).1, (h.2.1.1 y hy.1 hy.2).1, (h.2.1.1 x hx.1 hx.2).2, ix, h.2.1.2.2.1 _ (by omega) (by omega), h.2.1.2.2.2.2]
theorem RH.hb {t a : Nat} {b x : Int} {C R : zM} (h : RH t a b C R) (hx : 0 ≤ x ∧ x < C t 2) : hbR R b x = zbits (fun i => if i = x then 0 else hrM C t a x i) (C t 2).toNat 0 0 := by
  have n := h.n
  unfold hbR
  rw [n.2]
  refine zbits_cong _ _ _ (fun j j0 j1 => ?_)
  rw [h.hr hx ⟨j0, by omega⟩]
  by_cases e : x = j
  · rw [if_pos e, if_pos e.symm]
  · rw [if_neg e, if_neg (Ne.symm e)]
theorem RH.ho {t a : Nat} {b x : Int} {C R : zM} (h : RH t a b C R) (hx : 0 ≤ x ∧ x < C t 2) : hoR R b x = zbits (fun i => if i = x then 0 else hrM C t a i x) (C t 2).toNat 0 0 := by
  have n := h.n
  unfold hoR
  rw [n.2]
  refine zbits_cong _ _ _ (fun j j0 j1 => ?_)
  rw [h.hr ⟨j0, by omega⟩ hx]
/-- what waits in the guess, in both -/
theorem TKp.rq {t : Nat} {C0 R0 C R : zM} (h : TKp t C0 R0) (hc : ∀ k : Nat, t ≤ k → k ≤ t + 18 → C k = C0 k) (hr : ∀ k : Nat, 213 ≤ k → k ≤ 228 → ∀ i : Int, R k i = R0 k i) (h9 : ∀ i : Int, 12 ≤ i → i ≤ 15 → R 209 i = R0 209 i) : TKp t C R := h.of hc (fun k a b => funext (hr k a b)) h9
theorem RN.pb {t : Nat} {C R Mb : zM} (h : RN t C R) (hb : Pb R Mb) : RH t 61 0 C Mb := by
  obtain ⟨k, s, n, i, ht, h5⟩ := h
  obtain ⟨p, q⟩ := hb
  refine ⟨k.rq (fun _ _ _ => rfl) (fun k a b i => q k i (by omega)) (fun i a b => q 209 i (by omega)), ?_, ?_, i, ht, by decide⟩
  · exact s.mk i.1.1.2 rfl (fun j a b => ⟨rfl, rfl, rfl, rfl⟩) (fun j a b => rfl) rfl (fun j a b => ⟨q 233 _ (by omega), q 234 _ (by omega), q 235 _ (by omega)⟩) (fun j a b => ⟨q 236 _ (by omega), q 237 _ (by omega)⟩) (q 238 0 (by omega))
  · rw [p.2.2.2.2.2, h5, k.2.2.2.2.1 0 (by decide) (by decide)]
theorem cy_c {C M1 : zM} {t : Nat} (ht : t ≤ 25) (h : CyR C 67 61 M1) : (∀ k : Nat, k ≤ 60 → M1 k = C k) ∧ (∀ j : Int, 0 ≤ j → j < 6 → M1 (67 + 1) j = C (61 + 1) j ∧ M1 (67 + 2) j = C (61 + 2) j ∧ M1 (67 + 3) j = C (61 + 3) j ∧ M1 (67 + 4) j = C (61 + 4) j) ∧ (∀ j : Int, 0 ≤ j → j < 36 → M1 (67 + 5) j = C (61 + 5) j) ∧ M1 67 5 = C 61 5 ∧ M1 67 6 = C 61 6 := ⟨fun k hk => h.2.2.2.2 k (by omega), h.1, h.2.1, h.2.2.1, h.2.2.2.1⟩
/-- a guess as it goes, from the same now -/
theorem RN.gs {t : Nat} {C R Mg Mb : zM} (h : RN t C R) (hg : GsR t C Mg) (hb : LtR R Mb) : RB False t 67 1 Mg Mb := by
  obtain ⟨k, s, n, ⟨i1, i2⟩, ht, h5⟩ := h
  obtain ⟨M1, cy, rfl⟩ := hg
  obtain ⟨l1, l2, l3, p, q⟩ := hb
  obtain ⟨c0, c1, c2, c3, c4⟩ := cy_c ht cy
  have an : ∀ k : Nat, k ≠ 50 → agM t M1 k = M1 k := fun k hk => agM_n t M1 hk
  have kc : ∀ k : Nat, t ≤ k → k ≤ t + 18 → agM t M1 k = C k := fun k a b => by rw [an k (by omega), c0 k (by omega)]
  have af := agM_f t M1
  have e10 : M1 (t + 10) = C (t + 10) := c0 _ (by omega)
  have tk : TKp t (agM t M1) Mb := k.rq kc (fun k a b i => q k i (by omega)) (fun i a b => q 209 i (by omega))
  have e213 : Mb 213 2 = C (t + 10) 2 := by rw [q 213 2 (by omega)]; exact k.2.2.2.2.1 2 (by decide) (by decide)
  have fr := i1.2.2.2.2.2.2.2.2.2.1
  refine ⟨tk, ?_, ⟨?_, ?_, ?_, ?_, ?_⟩, ⟨i1.eq kc, ?_⟩, fun z => z.elim, fun z => ?_, ht, by decide, Or.inr rfl⟩
  · refine s.mk i1.1.2 (by rw [kc t (by omega) (by omega)]) (fun j a b => ?_) (fun j a b => ?_) ?_ (fun j a b => ?_) (fun j a b => ?_) ?_
    · rw [an (67 + 1) (by decide), an (67 + 2) (by decide), an (67 + 3) (by decide), an (67 + 4) (by decide)]; exact c1 j a b
    · rw [an (67 + 5) (by decide)]; exact c2 j a b
    · rw [an 67 (by decide)]; exact c3
    · have z := l1 j a b
      rw [show 6 * (0 : Int) + j = j by omega]; exact z
    · have z := l2 j a b
      rw [show 36 * (0 : Int) + j = j by omega]; exact z
    · exact l3
  · rw [p.2.2.2.2.2, af.1, e10]; exact k.2.2.2.2.1 0 (by decide) (by decide)
  · rw [p.2.2.2.2.1, af.2.2.2.2]
  · rw [p.2.2.2.1, af.2.2.2.1]; decide
  · rw [p.2.2.1, af.2.2.1]; decide
  · rw [af.2.1, e10, p.1, p.2.1, e213]
    by_cases c : 50 ≤ C (t + 10) 2
    · rw [if_pos c]; exact Or.inr (Or.inl ⟨rfl, rfl, Or.inr ⟨rfl, c⟩⟩)
    · rw [if_neg c]; exact Or.inl ⟨rfl, Or.inr (Or.inr ⟨rfl, by omega⟩)⟩
  · have z := cy.sti i2
    unfold StI at z ⊢
    rw [an 67 (by decide), an (67 + 1) (by decide), an (67 + 2) (by decide), an (67 + 3) (by decide), an (67 + 4) (by decide), an (67 + 5) (by decide)]; exact z
  · rw [af.2.1] at z
    exfalso
    split at z <;> omega
/-- sums over houses that there are -/
theorem pairs_eq {t a : Nat} {b : Int} {C R : zM} (h : TKp t C R) (s : SRl t a b C R) (i : ToI C t ∧ StI C a) : pairsR R b = pairsC C a := by
  have n := i.1.1
  have e12 : R 209 12 = C t 2 := h.1.1
  unfold pairsR pairsC
  have g : ∀ x : Int, 0 ≤ x → x < 6 → zsm (fun j => if R 237 (36 * b + 6 * x + j) = 0 then (0 : Int) else 1) (R 209 12).toNat 0 0 = bcnt (C (a + 3) x) := fun x x0 x1 => km_eq s n e12 ⟨x0, x1⟩ (i.2.2.2.1 x x0 x1)
  have z := zsm_k (f := fun x => zsm (fun j => if R 237 (36 * b + 6 * x + j) = 0 then (0 : Int) else 1) (R 209 12).toNat 0 0) (n := C t 2) n (fun j j0 j1 j2 => by
    show zsm _ _ _ _ = 0
    rw [g j j0 j1, bc_eq (i.2.2.2.1 j j0 j1)]
    have q : ∀ o : Int, 0 ≤ o → o < 6 → kbit (C (a + 3) j) o = 0 := fun o o0 o1 => by
      have w := s.2.2.2.1 j o j0 j1 o0 o1
      rw [← w.1]; exact w.2 (Or.inl j2)
    rw [q 0 (by decide) (by decide), q 1 (by decide) (by decide), q 2 (by decide) (by decide), q 3 (by decide) (by decide), q 4 (by decide) (by decide), q 5 (by decide) (by decide)]
    rfl)
  rw [e12] at z g ⊢
  rw [z, g 0 (by decide) (by decide), g 1 (by decide) (by decide), g 2 (by decide) (by decide), g 3 (by decide) (by decide), g 4 (by decide) (by decide), g 5 (by decide) (by decide)]
  have y := zsm_k (f := fun j => bcnt (C (a + 3) j)) (n := 6) (by omega) (fun j _ _ _ => by omega)
  exact y.symm
theorem heard_eq {t a : Nat} {b : Int} {C R : zM} (s : SRl t a b C R) : heardR R b = heardC C a := by
  unfold heardR heardC
  exact zsm_cong _ _ _ (fun j j0 j1 => s.2.2.1 j j0 (by omega))
theorem gains_eq {t : Nat} {C R : zM} (h : RN t C R) : zsm (R 234) (R 209 12).toNat 0 0 = zsm (C (61 + 2)) 6 0 0 := by
  obtain ⟨k, s, n, ⟨i1, i2⟩, ht, h5⟩ := h
  have n6 := i1.1
  rw [k.1.1]
  have e : zsm (R 234) (C t 2).toNat 0 0 = zsm (C (61 + 2)) (C t 2).toNat 0 0 := zsm_cong _ _ _ (fun j j0 j1 => by
    have z := (s.1 j j0 (by omega)).2
    rw [show 6 * (0 : Int) + j = j by omega] at z; exact z)
  rw [e, zsm_k n6 (fun j a b c => (s.2.1 j a b).2 c)]
  exact (zsm_k (n := 6) (by omega) (fun j _ _ _ => by omega)).symm
/-- the sounds told -/
theorem zsnd_cong {f f' g g' k k' : Int → Int} {h x : Int} : ∀ (n : Nat) (i : Int), (∀ j, i ≤ j → j < i + n → f j = f' j ∧ g j = g' j ∧ k j = k' j) → zsnd f g k h x n i = zsnd f' g' k' h x n i
  | 0, i, _ => rfl
  | n + 1, i, e => by
    unfold zsnd
    have z := e i (by omega) (by omega)
    rw [z.1, z.2.1, z.2.2, zsnd_cong n (i + 1) (fun j a b => e j (by omega) (by omega))]
theorem TKp.snd {t : Nat} {C R : zM} (k : TKp t C R) (n : 0 ≤ C t 10) (h x : Int) : zsnd (R 220) (R 221) (R 222) h x (R 209 14).toNat 0 = zsnd (C (t + 7)) (C (t + 8)) (C (t + 9)) h x (C t 10).toNat 0 := by
  rw [k.1.2.2.1]
  exact zsnd_cong _ _ (fun j a b => by have z := k.2.2.2.1 j a (by omega); exact ⟨z.1, z.2.1, z.2.2.1⟩)
/-- answers that are the same -/
theorem q_heard {t : Nat} {C R : zM} (h : RN t C R) (x o : Int) : (if two (R 209 12) x o then R 236 (6 * x + o) else -1) = if two (C t 2) x o then C 66 (x * 6 + o) else -1 := by
  have n6 := h.2.2.2.1.1.1
  rw [h.1.1.1]
  by_cases c : two (C t 2) x o
  · rw [if_pos c, if_pos c]
    unfold two at c
    have z := h.2.1.2.2.1 (x * 6 + o) (by omega) (by omega)
    rw [show 36 * (0 : Int) + (x * 6 + o) = 6 * x + o by omega] at z
    exact z
  · rw [if_neg c, if_neg c]
theorem q_sound {t : Nat} {C R : zM} (h : RN t C R) (x y : Int) : (if 0 ≤ x ∧ x < R 209 12 ∧ 0 ≤ y ∧ y ≤ 99 then zsnd (R 220) (R 221) (R 222) x y (R 209 14).toNat 0 else -1) = if 0 ≤ x ∧ x < C t 2 ∧ 0 ≤ y ∧ y ≤ 99 then zsnd (C (t + 7)) (C (t + 8)) (C (t + 9)) x y (C t 10).toNat 0 else -1 := by
  rw [h.1.snd h.2.2.2.1.1.2.2.1.1, h.1.1.1]
theorem q_named {t : Nat} {C R : zM} (h : RN t C R) (x : Int) : zfind (R 214) x (R 209 12).toNat 0 = zfind (C (t + 1)) x (C t 2).toNat 0 := by
  have n6 := h.2.2.2.1.1.1
  rw [h.1.1.1]
  exact zfind_cong _ _ (fun j a b => (h.1.2.1 j a (by omega)).1)
theorem q_law {t : Nat} {C R : zM} (h : RN t C R) (w x o : Int) : lwR R w x o = lwC C t w x o := by
  obtain ⟨k, s, n, ⟨i1, i2⟩, ht, h5⟩ := h
  have n6 := i1.1
  have e12 : R 209 12 = C t 2 := k.1.1
  have km : ∀ q : Int, 0 ≤ q → q < C t 2 → kmM R 0 q = bcnt (C (61 + 3) q) := fun q a b => km_eq s n6 k.1.1 ⟨a, by omega⟩ (i2.2.2.1 q a (by omega))
  by_cases c : 0 ≤ w ∧ w ≤ 2 ∧ 0 ≤ x ∧ x < C t 2
  · have dx := s.1 x c.2.2.1 c.2.2.2
    obtain ⟨u, hu⟩ : ∃ u : Nat, w = (u : Int) := ⟨w.toNat, by omega⟩
    have l := k.2.2.2.2.2 u (by omega)
    by_cases w2 : w = 2
    · have eu : u = 2 := by omega
      subst eu
      have e17 : t + 13 + 2 * 2 = t + 17 := by omega
      rw [e17] at l
      rw [show ((2 : Nat) : Int) = 2 from rfl] at l
      have eC : lwC C t w x o = lval (lwf C (t + 17) (nmf (C (61 + 1) x) (C (61 + 2) x) 0 0 0 (bcnt (C (61 + 3) x)) (C 61 5))) := by
        unfold lwC
        rw [if_neg (fun z => z c), if_pos w2]
      rw [eC]
      unfold lwR
      rw [e12, w2]
      by_cases cl : R 223 2 ≠ 0
      · rw [if_neg (fun z => z ⟨by decide, by decide, cl, c.2.2.1, c.2.2.2, Or.inl rfl⟩), if_pos rfl, l.2, km x c.2.2.1 c.2.2.2, dx.1, dx.2, s.2.2.2.2]
      · rw [if_pos (fun z => cl z.2.2.1), lwf_0 (M := C) (w := t + 17) (by have := mt l.1.2 cl; omega)]
        rfl
    · have ew : lwAt t w = t + 13 + 2 * u := by
        unfold lwAt
        by_cases w0 : w = 0
        · rw [if_pos w0]; omega
        · rw [if_neg w0, if_pos (by omega)]; omega
      rw [← hu] at l
      by_cases c2 : two (C t 2) x o
      · have eC : lwC C t w x o = lval (lwf C (t + 13 + 2 * u) (nmf (C (61 + 1) x) (C (61 + 2) x) (iabs (C (61 + 1) x - C (61 + 1) o)) 0 (C (61 + 5) (x * 6 + o)) (bcnt (C (61 + 3) x)) (C 61 5))) := by
          unfold lwC
          rw [if_neg (fun z => z c), if_neg w2, if_pos c2, ew]
        rw [eC]
        unfold lwR
        rw [e12]
        by_cases cl : R 223 w ≠ 0
        · have c3 := c2
          unfold two at c3
          have ti := s.2.2.1 (x * 6 + o) (by omega) (by omega)
          rw [if_neg (fun z => z ⟨c.1, c.2.1, cl, c.2.2.1, c.2.2.2, Or.inr c2⟩), if_neg w2, l.2, km x c.2.2.1 c.2.2.2, dx.1, dx.2, (s.1 o c3.2.2.1 c3.2.2.2.1).1, ix, ti, s.2.2.2.2]
        · rw [if_pos (fun z => cl z.2.2.1), lwf_0 (M := C) (w := t + 13 + 2 * u) (by have := mt l.1.2 cl; omega)]
          rfl
      · have eC : lwC C t w x o = -9223372036854775808 := by
          unfold lwC
          rw [if_neg (fun z => z c), if_neg w2, if_neg c2]
        rw [eC]
        unfold lwR
        rw [e12, if_pos (fun z => (z.2.2.2.2.2).elim w2 c2)]
  · have eC : lwC C t w x o = -9223372036854775808 := by
      unfold lwC
      rw [if_pos c]
    rw [eC]
    unfold lwR
    rw [e12, if_pos (fun z => c ⟨z.1, z.2.1, z.2.2.2.1, z.2.2.2.2.1⟩)]
end ZEQ3
