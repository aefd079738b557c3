section ZREL
/-- what holds between two calls: the class's rows of C against the reference's rows of R -/
def REL (t d : Nat) (C R : zM) : Prop := (RN t C R ∧ UN t C R ∧ IM t C R) ∧ (NT C R ∧ NI C) ∧ ((R 210 = C 3 ∧ R 209 1 = C 2 1) ∧ 0 ≤ C 2 1 ∧ C 2 1 ≤ 700) ∧ FT C R ∧ (RJ R 0 ∧ Rg R) ∧ (C 61 5 ≤ 9000 ∧ (LwI C (t + 13) ∧ LwI C (t + 15) ∧ LwI C (t + 17)) ∧ SBU t C ∧ ToI C d) ∧ ((∀ k : Int, 0 ≤ k → k < 21 → C 44 k = lngF k) ∧ (∀ i : Int, 0 ≤ i → i < 14 → C 1 i = rnk i) ∧ ∀ i : Int, 0 ≤ i → i < 107 → R 211 i = wrd i) ∧ ((t = 4 ∧ d = 23) ∨ (t = 23 ∧ d = 4))
def Lo (M M' : zM) : Prop := ∀ k : Nat, k < 209 → M' k = M k
def Up (M M' : zM) : Prop := ∀ k : Nat, 209 ≤ k → M' k = M k
theorem LwI.c9 {C C' : zM} {w : Nat} (h : LwI C w) (e : C' w = C w) (e1 : C' (w + 1) = C (w + 1)) : LwI C' w := by
  unfold LwI at *; rw [e, e1]; exact h
theorem Rg.c9 {R R' : zM} (h : Rg R) (e : ∀ k : Nat, 213 ≤ k → k ≤ 222 → R' k = R k) : Rg R' := by
  unfold Rg at *
  rw [e 213 (by decide) (by decide), e 215 (by decide) (by decide), e 216 (by decide) (by decide), e 217 (by decide) (by decide), e 218 (by decide) (by decide), e 219 (by decide) (by decide), e 220 (by decide) (by decide), e 221 (by decide) (by decide), e 222 (by decide) (by decide)]
  exact h
theorem REL.td {t d : Nat} {C R : zM} (h : REL t d C R) : (t = 4 ∧ d = 23) ∨ (t = 23 ∧ d = 4) := h.2.2.2.2.2.2.2
theorem REL.cc {t d : Nat} {C C' R : zM} (h : REL t d C R) (hc : ∀ k : Nat, k < 209 → ¬ ((45 ≤ k ∧ k ≤ 60) ∨ (67 ≤ k ∧ k ≤ 72) ∨ k = 43 ∨ k = 207 ∨ k = 208) → C' k = C k) (h50 : C' 50 1 = C 50 1) : REL t d C' R := by
  have td := h.td
  obtain ⟨⟨a1, a2, a3⟩, ⟨b1, b2⟩, ⟨⟨c1, c2⟩, c3⟩, e, f, ⟨g0, ⟨l1, l2, l3⟩, g2, g3⟩, ⟨i1, i2, i3⟩, _⟩ := h
  have n6 := a1.n6
  have r : ∀ k : Nat, (k ≤ 42 ∨ k = 44 ∨ (61 ≤ k ∧ k ≤ 66) ∨ (73 ≤ k ∧ k ≤ 206)) → C' k = C k := fun k hk => hc k (by omega) (by omega)
  have et := r t (by omega)
  refine ⟨⟨a1.of (fun k hk => r k (by omega)) h50 (fun _ _ => rfl) (fun _ _ => rfl), a2.of n6.2 (by rw [et]) (fun k hk => r k (by omega)) (by rw [r 61 (by omega)]) (by rw [r 61 (by omega)]) rfl rfl, a3.of n6.2 (by rw [et]) (fun k hk => r k (by omega)) (by rw [r 2 (by omega)]) rfl (fun _ _ => rfl)⟩, ⟨b1.of (fun k x y => r k (by omega)) rfl (fun _ _ => rfl), b2.of (fun k x y => r k (by omega))⟩, ⟨⟨by rw [r 3 (by omega)]; exact c1, by rw [r 2 (by omega)]; exact c2⟩, by rw [r 2 (by omega)]; exact c3⟩, ⟨by rw [r 42 (by omega)]; exact e.1, by rw [r 42 (by omega)]; exact e.2⟩, f, ⟨by rw [r 61 (by omega)]; exact g0, ⟨l1.c9 (r _ (by omega)) (r _ (by omega)), l2.c9 (r _ (by omega)) (r _ (by omega)), l3.c9 (r _ (by omega)) (r _ (by omega))⟩, g2.of (by rw [et]) (r _ (by omega)) (r _ (by omega)) (r _ (by omega)) (by rw [et]; exact Int.le_refl _), g3.eq (fun q x y => r q (by omega))⟩, ⟨by rw [r 44 (by omega)]; exact i1, by rw [r 1 (by omega)]; exact i2, i3⟩, td⟩
/-- what the reference may scratch -/
def scR (k : Nat) (i : Int) : Prop := k = 231 ∨ k = 232 ∨ k = 240 ∨ (k = 209 ∧ (i = 2 ∨ i = 47 ∨ (55 ≤ i ∧ i ≤ 60))) ∨ ((k = 233 ∨ k = 234 ∨ k = 235) ∧ 6 ≤ i) ∨ ((k = 236 ∨ k = 237) ∧ 36 ≤ i) ∨ (k = 238 ∧ i ≠ 0)
theorem REL.rr {t d : Nat} {C R R' : zM} (h : REL t d C R) (hr : ∀ (k : Nat) (i : Int), 209 ≤ k → ¬ scR k i → R' k i = R k i) (h60 : 0 ≤ R' 209 60 ∧ R' 209 60 ≤ 20) : REL t d C R' := by
  have td := h.td
  obtain ⟨⟨a1, a2, a3⟩, ⟨b1, b2⟩, ⟨⟨c1, c2⟩, c3⟩, e, ⟨f1, f2⟩, g, ⟨i1, i2, i3⟩, _⟩ := h
  have n6 := a1.n6
  unfold scR at hr
  have r : ∀ k : Nat, (210 ≤ k ∧ k ≤ 230) ∨ k = 239 ∨ k = 241 ∨ k = 242 → R' k = R k := fun k hk => funext fun i => hr k i (by omega) (by omega)
  have r9 : ∀ i : Int, i ≠ 2 → i ≠ 47 → ¬ (55 ≤ i ∧ i ≤ 60) → R' 209 i = R 209 i := fun i x y z => hr 209 i (by omega) (by omega)
  obtain ⟨k, s, nn, ii, ht, h5⟩ := id a1
  obtain ⟨⟨x1, ⟨x2, x3, x4⟩, ⟨y1, y2, y3, y4⟩, _⟩, x6⟩ := f1
  have lr : ∀ w : Int, LrI R w → LrI R' w := fun w q => LrI_of (r _ (by decide)) (r _ (by decide)) (r _ (by decide)) (r _ (by decide)) (r _ (by decide)) (r _ (by decide)) q
  refine ⟨⟨⟨k.of (fun _ _ _ => rfl) (fun q x y => r q (by omega)) (fun i x y => r9 i (by omega) (by omega) (by omega)), s.mk n6.2 rfl (fun _ _ _ => ⟨rfl, rfl, rfl, rfl⟩) (fun _ _ _ => rfl) rfl (fun j x y => ⟨hr 233 _ (by omega) (by omega), hr 234 _ (by omega) (by omega), hr 235 _ (by omega) (by omega)⟩) (fun j x y => ⟨hr 236 _ (by omega) (by omega), hr 237 _ (by omega) (by omega)⟩) (hr 238 0 (by omega) (by omega)), by rw [r9 54 (by decide) (by decide) (by decide)]; exact nn, ii, ht, h5⟩, a2.of n6.2 rfl (fun _ _ => rfl) rfl rfl (r 241 (by omega)) (r9 65 (by decide) (by decide) (by decide)), a3.of n6.2 rfl (fun _ _ => rfl) rfl (r 242 (by omega)) (fun i hi => r9 i (by omega) (by omega) (by omega))⟩, ⟨b1.of (fun _ _ _ => rfl) (r 239 (by omega)) (fun i hi => r9 i (by omega) (by omega) (by omega)), b2⟩, ⟨⟨by rw [r 210 (by omega)]; exact c1, by rw [r9 1 (by decide) (by decide) (by decide)]; exact c2⟩, c3⟩, ⟨by rw [r9 4 (by decide) (by decide) (by decide)]; exact e.1, by rw [r9 5 (by decide) (by decide) (by decide)]; exact e.2⟩, ⟨⟨⟨?_, ⟨lr 0 x2, lr 1 x3, lr 2 x4⟩, ⟨?_, ?_, ?_, ?_⟩, h60⟩, by rw [r9 54 (by decide) (by decide) (by decide)]; exact x6⟩, f2.c9 (fun k x y => r k (by omega))⟩, g, ⟨i1, i2, by rw [r 211 (by omega)]; exact i3⟩, td⟩
  · unfold TxI at *
    rw [r9 12 (by decide) (by decide) (by decide), r9 13 (by decide) (by decide) (by decide), r9 14 (by decide) (by decide) (by decide), r 213 (by omega), r 215 (by omega), r 216 (by omega), r 217 (by omega), r 218 (by omega), r 219 (by omega), r 220 (by omega), r 221 (by omega), r 222 (by omega)]
    exact x1
  · intro i x y; rw [hr 233 _ (by omega) (by omega)]; exact y1 i x y
  · intro i x y; rw [hr 234 _ (by omega) (by omega)]; exact y2 i x y
  · intro i x y; rw [hr 236 _ (by omega) (by omega)]; exact y3 i x y
  · rw [hr 238 _ (by omega) (by omega)]; exact y4
theorem REL.h60 {t d : Nat} {C R : zM} (h : REL t d C R) : 0 ≤ R 209 60 ∧ R 209 60 ≤ 20 := h.2.2.2.2.1.1.1.2.2.2
theorem REL.lo {t d : Nat} {C C' R : zM} (h : REL t d C R) (c : Lo C C') : REL t d C' R := h.cc (fun k hk _ => c k hk) (by rw [c 50 (by decide)])
theorem REL.up {t d : Nat} {C R R' : zM} (h : REL t d C R) (c : Up R R') : REL t d C R' := h.rr (fun k i hk _ => by rw [c k hk]) (by rw [c 209 (by decide)]; exact h.h60)
theorem REL.ca {t d : Nat} {C C' R : zM} (h : REL t d C R) (c : Cn t C C') : REL t d C' R := h.cc (fun k hk hn => c.1 k (by omega)) (by rw [c.2]; exact h.1.1.2.2.2.2.2.symm)
theorem REL.ra {t d : Nat} {C R R' : zM} (h : REL t d C R) (c : Rn R R') : REL t d C R' := h.rr (fun k i hk hn => c.1 k i hn) c.2
theorem Cn.up {t : Nat} {M M' : zM} (c : Cn t M M') : Up M M' := fun k hk => c.1 k (by omega)
theorem Rq.lo {M M' : zM} (c : Rq M M') : Lo M M' := fun k hk => funext fun i => c k i (by omega)
/-- a question asked of both -/
theorem REL.ask {t d : Nat} {M M1 M2 : zM} (h : REL t d M M) (c : Cn t M M1) (r : Rn M1 M2) : REL t d M M1 ∧ REL t d M2 M2 := ⟨h.up c.up, (((h.up c.up).ca c).ra r).lo r.1.lo⟩
theorem Lo.tr {M M1 M2 : zM} (a : Lo M M1) (b : Lo M1 M2) : Lo M M2 := fun k hk => (b k hk).trans (a k hk)
theorem Up.tr {M M1 M2 : zM} (a : Up M M1) (b : Up M1 M2) : Up M M2 := fun k hk => (b k hk).trans (a k hk)
theorem Lo.sm {M M1 : zM} (a : Lo M M1) {q : Nat} (hq : 209 ≤ q) (i v : Int) : Lo M (sm M1 q i v) := fun k hk => by rw [sm_n (by omega)]; exact a k hk
theorem Up.sm {M M1 : zM} (a : Up M M1) {q : Nat} (hq : q < 209) (i v : Int) : Up M (sm M1 q i v) := fun k hk => by rw [sm_n (by omega)]; exact a k hk
theorem Lo.rf (M : zM) : Lo M M := fun _ _ => rfl
theorem Up.rf (M : zM) : Up M M := fun _ _ => rfl
theorem CyR.up {M M' : zM} {a b : Nat} (h : CyR M a b M') (ha : a ≤ 203) : Up M M' := fun k hk => h.2.2.2.2 k (by omega)
/-- nothing done by both -/
theorem REL.no {t d : Nat} {M : zM} (h : REL t d M M) : REL t d (sm M 209 2 0) (sm M 209 2 0) := by
  refine (h.rr (R' := sm M 209 2 0) (fun k i hk hn => ?_) ?_).lo ((Lo.rf M).sm (by decide) 2 0)
  · unfold scR at hn
    by_cases e : k = 209
    · subst e; rw [sm_k, us_n (by omega)]
    · rw [sm_n e]
  · rw [sm_k, us_n (by decide)]; exact h.h60
end ZREL
