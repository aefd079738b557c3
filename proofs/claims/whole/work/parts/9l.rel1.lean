section ZEQ1
/-- the text that is kept, class against reference -/
def TKp (t : Nat) (C R : zM) : Prop := (R 209 12 = C t 2 ∧ R 209 13 = C t 6 ∧ R 209 14 = C t 10 ∧ R 209 15 = C t 1) ∧ (∀ j : Int, 0 ≤ j → j < C t 2 → R 214 j = C (t + 1) j ∧ R 215 j = C (t + 2) j ∧ R 216 j = C (t + 3) j) ∧ (∀ j : Int, 0 ≤ j → j < C t 6 → R 217 j = C (t + 4) j ∧ R 218 j = C (t + 5) j ∧ R 219 j = C (t + 6) j) ∧ (∀ j : Int, 0 ≤ j → j < C t 10 → R 220 j = C (t + 7) j ∧ R 221 j = C (t + 8) j ∧ R 222 j = C (t + 9) j ∧ (0 ≤ C (t + 7) j ∧ C (t + 7) j < C t 2) ∧ 1 ≤ C (t + 9) j) ∧ (∀ k : Int, 0 ≤ k → k < 4 → R 213 k = C (t + 10) k) ∧ (∀ u : Nat, u ≤ 2 → (R 223 (u : Int) ≠ 0 ↔ 0 < C (t + 13 + 2 * u) 1) ∧ rlf R (u : Int) = lwf C (t + 13 + 2 * u))
/-- a state, class (at a) against reference (its half b) -/
def SRl (t a : Nat) (b : Int) (C R : zM) : Prop := (∀ j : Int, 0 ≤ j → j < C t 2 → R 233 (6 * b + j) = C (a + 1) j ∧ R 234 (6 * b + j) = C (a + 2) j) ∧ (∀ j : Int, 0 ≤ j → j < 6 → R 235 (6 * b + j) = C (a + 4) j ∧ (C t 2 ≤ j → C (a + 2) j = 0)) ∧ (∀ j : Int, 0 ≤ j → j < 36 → R 236 (36 * b + j) = C (a + 5) j) ∧ (∀ h o : Int, 0 ≤ h → h < 6 → 0 ≤ o → o < 6 → R 237 (36 * b + 6 * h + o) = kbit (C (a + 3) h) o ∧ (C t 2 ≤ h ∨ C t 2 ≤ o → R 237 (36 * b + 6 * h + o) = 0)) ∧ R 238 b = C a 5
/-- how the hours go, class against reference -/
def MRl (t : Nat) (C R : zM) : Prop := R 209 60 = C 50 1 ∧ R 209 59 = C 50 5 ∧ (R 209 58 = 0 ↔ C 50 4 ≠ 0) ∧ (R 209 57 = 0 ↔ C 50 3 ≠ 0) ∧ ((C 50 2 = 0 ∧ (R 209 56 ≠ 0 ∨ R 213 2 = 0 ∨ (R 209 55 = 0 ∧ R 213 2 < 50))) ∨ (C 50 2 = 1 ∧ R 209 56 = 0 ∧ (R 213 2 = 100 ∨ (R 209 55 = 0 ∧ 50 ≤ R 213 2))) ∨ (C 50 2 = 2 ∧ R 209 56 = 0 ∧ R 209 55 ≠ 0 ∧ R 213 2 ≠ 0 ∧ R 213 2 ≠ 100))
theorem rlf_of {R R' : zM} {w : Int} (h : ∀ k : Nat, 223 ≤ k → k ≤ 228 → R' k = R k) : rlf R' w = rlf R w := by
  unfold rlf
  rw [h 223 (by omega) (by omega), h 224 (by omega) (by omega), h 225 (by omega) (by omega), h 226 (by omega) (by omega), h 227 (by omega) (by omega), h 228 (by omega) (by omega)]
theorem lwf_of {C C' : zM} {w : Nat} (h : C' w = C w) (h1 : C' (w + 1) = C (w + 1)) : lwf C' w = lwf C w := by
  unfold lwf
  rw [h, h1]
theorem TKp.of {t : Nat} {C C' R R' : zM} (h : TKp t C R) (hc : ∀ k : Nat, t ≤ k → k ≤ t + 18 → C' k = C k) (hr : ∀ k : Nat, 213 ≤ k → k ≤ 228 → R' k = R k) (h9 : ∀ i : Int, 12 ≤ i → i ≤ 15 → R' 209 i = R 209 i) : TKp t C' R' := by
  obtain ⟨a, b, c, d, e, f⟩ := h
  unfold TKp
  rw [hc t (by omega) (by omega), hc (t + 1) (by omega) (by omega), hc (t + 2) (by omega) (by omega), hc (t + 3) (by omega) (by omega), hc (t + 4) (by omega) (by omega), hc (t + 5) (by omega) (by omega), hc (t + 6) (by omega) (by omega), hc (t + 7) (by omega) (by omega), hc (t + 8) (by omega) (by omega), hc (t + 9) (by omega) (by omega), hc (t + 10) (by omega) (by omega), h9 12 (by omega) (by omega), h9 13 (by omega) (by omega), h9 14 (by omega) (by omega), h9 15 (by omega) (by omega), hr 213 (by omega) (by omega), hr 214 (by omega) (by omega), hr 215 (by omega) (by omega), hr 216 (by omega) (by omega), hr 217 (by omega) (by omega), hr 218 (by omega) (by omega), hr 219 (by omega) (by omega), hr 220 (by omega) (by omega), hr 221 (by omega) (by omega), hr 222 (by omega) (by omega), hr 223 (by omega) (by omega)]
  refine ⟨a, b, c, d, e, fun u hu => ?_⟩
  rw [rlf_of (fun k x y => hr k (by omega) y), lwf_of (C := C) (hc _ (by omega) (by omega)) (hc _ (by omega) (by omega)), hc (t + 13 + 2 * u) (by omega) (by omega)]
  exact f u hu
theorem MRl.of {t : Nat} {C C' R R' : zM} (h : MRl t C R) (hc : C' 50 = C 50) (h9 : ∀ i : Int, 55 ≤ i → i ≤ 60 → R' 209 i = R 209 i) (h13 : R' 213 2 = R 213 2) : MRl t C' R' := by
  unfold MRl at *
  rw [hc, h9 60 (by omega) (by omega), h9 59 (by omega) (by omega), h9 58 (by omega) (by omega), h9 57 (by omega) (by omega), h9 56 (by omega) (by omega), h9 55 (by omega) (by omega), h13]
  exact h
/-- the state's changes, one by one -/
theorem SRl.d {t a : Nat} {b i v : Int} {C R : zM} (h : SRl t a b C R) (ta : t < 54 ∧ 54 ≤ a) (hi : 0 ≤ i ∧ i < 6) : SRl t a b (sm C (a + 1) i v) (sm R 233 (6 * b + i) v) := by
  obtain ⟨d, k, tm, w, hr⟩ := h
  have ec : ∀ q : Nat, q ≠ a + 1 → sm C (a + 1) i v q = C q := fun q hq => sm_n hq
  have er : ∀ q : Nat, q ≠ 233 → sm R 233 (6 * b + i) v q = R q := fun q hq => sm_n hq
  unfold SRl
  rw [ec t (by omega), ec (a + 2) (by omega), ec (a + 3) (by omega), ec (a + 4) (by omega), ec (a + 5) (by omega), ec a (by omega), er 234 (by decide), er 235 (by decide), er 236 (by decide), er 237 (by decide), er 238 (by decide)]
  refine ⟨fun j j0 j1 => ⟨?_, (d j j0 j1).2⟩, k, tm, w, hr⟩
  rw [sm_k, sm_k]
  by_cases e : j = i
  · rw [e, us_s, us_s]
  · rw [us_n (by omega), us_n e]; exact (d j j0 j1).1
theorem SRl.g {t a : Nat} {b i v : Int} {C R : zM} (h : SRl t a b C R) (ta : t < 54 ∧ 54 ≤ a) (hi : 0 ≤ i ∧ i < C t 2) : SRl t a b (sm C (a + 2) i v) (sm R 234 (6 * b + i) v) := by
  obtain ⟨d, k, tm, w, hr⟩ := h
  have ec : ∀ q : Nat, q ≠ a + 2 → sm C (a + 2) i v q = C q := fun q hq => sm_n hq
  have er : ∀ q : Nat, q ≠ 234 → sm R 234 (6 * b + i) v q = R q := fun q hq => sm_n hq
  unfold SRl
  rw [ec t (by omega), ec (a + 1) (by omega), ec (a + 3) (by omega), ec (a + 4) (by omega), ec (a + 5) (by omega), ec a (by omega), er 233 (by decide), er 235 (by decide), er 236 (by decide), er 237 (by decide), er 238 (by decide)]
  refine ⟨fun j j0 j1 => ⟨(d j j0 j1).1, ?_⟩, fun j j0 j1 => ⟨(k j j0 j1).1, fun z => ?_⟩, tm, w, hr⟩
  · rw [sm_k, sm_k]
    by_cases e : j = i
    · rw [e, us_s, us_s]
    · rw [us_n (by omega), us_n e]; exact (d j j0 j1).2
  · rw [sm_k, us_n (by omega)]; exact (k j j0 j1).2 z
theorem SRl.k {t a : Nat} {b i v : Int} {C R : zM} (h : SRl t a b C R) (ta : t < 54 ∧ 54 ≤ a) : SRl t a b (sm C (a + 4) i v) (sm R 235 (6 * b + i) v) := by
  obtain ⟨d, k, tm, w, hr⟩ := h
  have ec : ∀ q : Nat, q ≠ a + 4 → sm C (a + 4) i v q = C q := fun q hq => sm_n hq
  have er : ∀ q : Nat, q ≠ 235 → sm R 235 (6 * b + i) v q = R q := fun q hq => sm_n hq
  unfold SRl
  rw [ec t (by omega), ec (a + 1) (by omega), ec (a + 2) (by omega), ec (a + 3) (by omega), ec (a + 5) (by omega), ec a (by omega), er 233 (by decide), er 234 (by decide), er 236 (by decide), er 237 (by decide), er 238 (by decide)]
  refine ⟨d, fun j j0 j1 => ⟨?_, (k j j0 j1).2⟩, tm, w, hr⟩
  rw [sm_k, sm_k]
  by_cases e : j = i
  · rw [e, us_s, us_s]
  · rw [us_n (by omega), us_n e]; exact (k j j0 j1).1
theorem SRl.t {t a : Nat} {b i v : Int} {C R : zM} (h : SRl t a b C R) (ta : t < 54 ∧ 54 ≤ a) : SRl t a b (sm C (a + 5) i v) (sm R 236 (36 * b + i) v) := by
  obtain ⟨d, k, tm, w, hr⟩ := h
  have ec : ∀ q : Nat, q ≠ a + 5 → sm C (a + 5) i v q = C q := fun q hq => sm_n hq
  have er : ∀ q : Nat, q ≠ 236 → sm R 236 (36 * b + i) v q = R q := fun q hq => sm_n hq
  unfold SRl
  rw [ec t (by omega), ec (a + 1) (by omega), ec (a + 2) (by omega), ec (a + 3) (by omega), ec (a + 4) (by omega), ec a (by omega), er 233 (by decide), er 234 (by decide), er 235 (by decide), er 237 (by decide), er 238 (by decide)]
  refine ⟨d, k, fun j j0 j1 => ?_, w, hr⟩
  rw [sm_k, sm_k]
  by_cases e : j = i
  · rw [e, us_s, us_s]
  · rw [us_n (by omega), us_n e]; exact tm j j0 j1
theorem SRl.w {t a : Nat} {b x y : Int} {C R : zM} (h : SRl t a b C R) (ta : t < 54 ∧ 54 ≤ a) (hx : 0 ≤ x ∧ x < C t 2) (hy : 0 ≤ y ∧ y < C t 2) (hn : C t 2 ≤ 6) (h3 : 0 ≤ C (a + 3) x ∧ C (a + 3) x ≤ 63) : SRl t a b (sm C (a + 3) x (kset (C (a + 3) x) y)) (sm R 237 (36 * b + 6 * x + y) 1) := by
  obtain ⟨d, k, tm, w, hr⟩ := h
  have ec : ∀ q : Nat, q ≠ a + 3 → sm C (a + 3) x (kset (C (a + 3) x) y) q = C q := fun q hq => sm_n hq
  have er : ∀ q : Nat, q ≠ 237 → sm R 237 (36 * b + 6 * x + y) 1 q = R q := fun q hq => sm_n hq
  unfold SRl
  rw [ec t (by omega), ec (a + 1) (by omega), ec (a + 2) (by omega), ec (a + 4) (by omega), ec (a + 5) (by omega), ec a (by omega), er 233 (by decide), er 234 (by decide), er 235 (by decide), er 236 (by decide), er 238 (by decide)]
  refine ⟨d, k, tm, fun h o h0 h1 o0 o1 => ?_, hr⟩
  rw [sm_k, sm_k]
  have z := w h o h0 h1 o0 o1
  by_cases e : h = x
  · subst e
    rw [us_s, kset_bit h3 ⟨hy.1, by omega⟩ ⟨o0, o1⟩]
    by_cases eo : o = y
    · subst eo
      rw [us_s, if_pos rfl]
      exact ⟨rfl, fun q => by omega⟩
    · rw [us_n (by omega), if_neg eo]; exact z
  · rw [us_n (show h ≠ x from e), us_n (by omega)]; exact z
theorem SRl.h {t a : Nat} {b v : Int} {C R : zM} (h : SRl t a b C R) (ta : t < 54 ∧ 54 ≤ a) : SRl t a b (sm C a 5 v) (sm R 238 b v) := by
  obtain ⟨d, k, tm, w, hr⟩ := h
  have ec : ∀ q : Nat, q ≠ a → sm C a 5 v q = C q := fun q hq => sm_n hq
  have er : ∀ q : Nat, q ≠ 238 → sm R 238 b v q = R q := fun q hq => sm_n hq
  unfold SRl
  rw [ec t (by omega), ec (a + 1) (by omega), ec (a + 2) (by omega), ec (a + 3) (by omega), ec (a + 4) (by omega), ec (a + 5) (by omega), er 233 (by decide), er 234 (by decide), er 235 (by decide), er 236 (by decide), er 237 (by decide)]
  exact ⟨d, k, tm, w, by rw [sm_s, sm_s]⟩
/-- a state's relation looks at these rows only -/
theorem SRl.of {t a : Nat} {b : Int} {C C' R R' : zM} (h : SRl t a b C R) (ht : C' t 2 = C t 2) (hc : ∀ k : Nat, a + 1 ≤ k → k ≤ a + 5 → C' k = C k) (h5 : C' a 5 = C a 5) (hr : ∀ k : Nat, 233 ≤ k → k ≤ 237 → R' k = R k) (h8 : R' 238 b = R 238 b) : SRl t a b C' R' := by
  unfold SRl at *
  rw [ht, hc (a + 1) (by omega) (by omega), hc (a + 2) (by omega) (by omega), hc (a + 3) (by omega) (by omega), hc (a + 4) (by omega) (by omega), hc (a + 5) (by omega) (by omega), h5, hr 233 (by omega) (by omega), hr 234 (by omega) (by omega), hr 235 (by omega) (by omega), hr 236 (by omega) (by omega), hr 237 (by omega) (by omega), h8]
  exact h
/-- how many one knows -/
theorem bc_dec : ∀ x : Fin 64, bcnt ((x.val : Nat) : Int) = kbit ((x.val : Nat) : Int) 0 + kbit ((x.val : Nat) : Int) 1 + kbit ((x.val : Nat) : Int) 2 + kbit ((x.val : Nat) : Int) 3 + kbit ((x.val : Nat) : Int) 4 + kbit ((x.val : Nat) : Int) 5 := by decide +kernel
theorem bc_eq {x : Int} (h : 0 ≤ x ∧ x ≤ 63) : bcnt x = kbit x 0 + kbit x 1 + kbit x 2 + kbit x 3 + kbit x 4 + kbit x 5 := by
  have z := bc_dec ⟨x.toNat, by omega⟩
  rw [show ((x.toNat : Nat) : Int) = x by omega] at z
  exact z
theorem n6 {n : Int} (h : 0 ≤ n ∧ n ≤ 6) : n.toNat = 0 ∧ n = 0 ∨ n.toNat = 1 ∧ n = 1 ∨ n.toNat = 2 ∧ n = 2 ∨ n.toNat = 3 ∧ n = 3 ∨ n.toNat = 4 ∧ n = 4 ∨ n.toNat = 5 ∧ n = 5 ∨ n.toNat = 6 ∧ n = 6 := by omega
theorem zsm_k {f : Int → Int} {n : Int} (hn : 0 ≤ n ∧ n ≤ 6) (h : ∀ j : Int, 0 ≤ j → j < 6 → n ≤ j → f j = 0) : zsm f n.toNat 0 0 = f 0 + f 1 + f 2 + f 3 + f 4 + f 5 := by
  have g := fun j a b c => h j a b c
  rcases n6 hn with ⟨e, e2⟩ | ⟨e, e2⟩ | ⟨e, e2⟩ | ⟨e, e2⟩ | ⟨e, e2⟩ | ⟨e, e2⟩ | ⟨e, e2⟩ <;> rw [e] <;> simp only [zsm] <;>
    (try have g0 := g 0 (by omega) (by omega) (by omega)) <;> (try have g1 := g 1 (by omega) (by omega) (by omega)) <;> (try have g2 := g 2 (by omega) (by omega) (by omega)) <;> (try have g3 := g 3 (by omega) (by omega) (by omega)) <;> (try have g4 := g 4 (by omega) (by omega) (by omega)) <;> (try have g5 := g 5 (by omega) (by omega) (by omega)) <;>
    (try simp only [show (0 : Int) + 1 = 1 from rfl, show (1 : Int) + 1 = 2 from rfl, show (2 : Int) + 1 = 3 from rfl, show (3 : Int) + 1 = 4 from rfl, show (4 : Int) + 1 = 5 from rfl]) <;> omega
theorem km_eq {t a : Nat} {b h : Int} {C R : zM} (hs : SRl t a b C R) (hn : 0 ≤ C t 2 ∧ C t 2 ≤ 6) (h12 : R 209 12 = C t 2) (hh : 0 ≤ h ∧ h < 6) (h3 : 0 ≤ C (a + 3) h ∧ C (a + 3) h ≤ 63) : kmM R b h = bcnt (C (a + 3) h) := by
  obtain ⟨d, k, tm, w, hr⟩ := hs
  unfold kmM
  rw [h12, bc_eq h3]
  have g : ∀ j : Int, 0 ≤ j → j < 6 → (if R 237 (36 * b + 6 * h + j) = 0 then (0 : Int) else 1) = kbit (C (a + 3) h) j := fun j p q => by
    rw [(w h j hh.1 hh.2 p q).1]
    rcases kbit01 (C (a + 3) h) j with e | e <;> rw [e] <;> rfl
  rw [zsm_k hn (fun j p q c => by rw [(w h j hh.1 hh.2 p q).2 (Or.inr c)]; rfl), g 0 (by omega) (by omega), g 1 (by omega) (by omega), g 2 (by omega) (by omega), g 3 (by omega) (by omega), g 4 (by omega) (by omega), g 5 (by omega) (by omega)]
/-- all of it: the text, a state, how the hours go; N: the numbers drawn are the same -/
def RB (N : Prop) (t a : Nat) (b : Int) (C R : zM) : Prop := TKp t C R ∧ SRl t a b C R ∧ MRl t C R ∧ (ToI C t ∧ StI C a) ∧ (N → R 209 54 = C a 6) ∧ (C 50 2 = 2 → N) ∧ (t ≤ 25 ∧ 54 ≤ a ∧ (b = 0 ∨ b = 1))
theorem RB.n {N : Prop} {t a : Nat} {b : Int} {C R : zM} (h : RB N t a b C R) : (0 ≤ C t 2 ∧ C t 2 ≤ 6) ∧ R 209 12 = C t 2 := ⟨h.2.2.2.1.1.1, h.1.1.1⟩
theorem RB.km {N : Prop} {t a : Nat} {b x : Int} {C R : zM} (h : RB N t a b C R) (hx : 0 ≤ x ∧ x < 6) : kmM R b x = bcnt (C (a + 3) x) := km_eq h.2.1 h.n.1 h.n.2 hx (h.2.2.2.1.2.2.2.1 x hx.1 hx.2)
theorem ix {b h o : Int} : 36 * b + 6 * h + o = 36 * b + (h * 6 + o) := by omega
/-- who hears whom -/
theorem RB.hr {N : Prop} {t a : Nat} {b x y : Int} {C R : zM} (h : RB N t a b C R) (hx : 0 ≤ x ∧ x < C t 2) (hy : 0 ≤ y ∧ y < C t 2) : hrR R b x y = if x = y then 0 else hrM C t a x y := by
  have n := h.n.1
  unfold hrR hrM
  by_cases e : x = y
  · rw [if_pos e, if_pos e]
  · rw [if_neg e, if_neg e, h.km ⟨hx.1, by omega⟩]
    have l0 := (h.1.2.2.2.2.2 0 (by decide)).2
    rw [show ((0 : Nat) : Int) = 0 from rfl, show t + 13 + 2 * 0 = t + 13 by omega] at l0
    rw [l0, h.2.2.1.1, (h.2.1.1 x hx.1 hx.2).1, (h.2.1.1 y hy.1 hy.2).1, (h.2.1.1 x hx.1 hx.2).2, ix, h.2.1.2.2.1 _ (by omega) (by omega), h.2.1.2.2.2.2]
theorem RB.nd {N : Prop} {t a : Nat} {b x y kd : Int} {C R : zM} (h : RB N t a b C R) (hx : 0 ≤ x ∧ x < C t 2) (hy : 0 ≤ y ∧ y < C t 2) : ndR R b x y kd = ndM C t a x y kd := by
  have n := h.n.1
  unfold ndR ndM
  have l0 := (h.1.2.2.2.2.2 1 (by decide)).2
  rw [show ((1 : Nat) : Int) = 1 from rfl, show t + 13 + 2 * 1 = t + 15 by omega] at l0
  rw [h.km ⟨hx.1, by omega⟩, l0, h.1.2.2.2.2.1 1 (by decide) (by decide), (h.2.1.1 x hx.1 hx.2).1, (h.2.1.1 y hy.1 hy.2).1, (h.2.1.1 x hx.1 hx.2).2, ix, h.2.1.2.2.1 _ (by omega) (by omega), h.2.1.2.2.2.2]
end ZEQ1
