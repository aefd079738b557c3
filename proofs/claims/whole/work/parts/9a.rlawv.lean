section ZRLV
/-- a bracket more; a knot more that is counted -/
theorem LX.br {t w : Nat} {F : Int} {Mc Mr : zM} (h : LX t w F Mc Mr) (tw : t < 41 ∧ w + 1 < 42) (x : Int) : LX t w F (sm Mc 42 5 x) (sm Mr 209 41 x) := by
  obtain ⟨⟨a1, a2⟩, a3, a4, a5, a6, a7⟩ := h
  unfold LX KN
  have e : ∀ k : Nat, k ≠ 42 → sm Mc 42 5 x k = Mc k := fun k a => sm_n a
  have e4 : sm Mc 42 5 x 42 4 = Mc 42 4 := by rw [sm_k, us_n (by decide)]
  have q : ∀ k : Nat, k ≠ 209 → sm Mr 209 41 x k = Mr k := fun k a => sm_n a
  have q9 : ∀ i : Int, i ≠ 41 → sm Mr 209 41 x 209 i = Mr 209 i := fun i hi => by rw [sm_k, us_n hi]
  rw [e4, e 49 (by decide), e t (by omega), e w (by omega), e (w + 1) (by omega), q9 39 (by decide), q9 42 (by decide), q9 19 (by decide), q9 40 (by decide), q 229 (by decide), q 226 (by decide), q 227 (by decide), q 228 (by decide), q 230 (by decide), sm_k, us_s, sm_k, us_s]
  exact ⟨⟨a1, a2⟩, rfl, a4, a5, a6, a7⟩
theorem LX.ct {t w : Nat} {F : Int} {Mc Mr : zM} (h : LX t w F Mc Mr) (tw : t < 41 ∧ w + 1 < 42 ∧ w ≠ t ∧ w + 1 ≠ t) (x : Int) : LX t w F (sm Mc t 1 x) (sm Mr 209 42 x) := by
  obtain ⟨⟨a1, a2⟩, a3, a4, a5, a6, a7⟩ := h
  unfold LX KN
  have e : ∀ k : Nat, k ≠ t → sm Mc t 1 x k = Mc k := fun k a => sm_n a
  have q : ∀ k : Nat, k ≠ 209 → sm Mr 209 42 x k = Mr k := fun k a => sm_n a
  have q9 : ∀ i : Int, i ≠ 42 → sm Mr 209 42 x 209 i = Mr 209 i := fun i hi => by rw [sm_k, us_n hi]
  rw [e 42 (by omega), e 49 (by omega), e w (by omega), e (w + 1) (by omega), q9 39 (by decide), q9 41 (by decide), q9 19 (by decide), q9 40 (by decide), q 229 (by decide), q 226 (by decide), q 227 (by decide), q 228 (by decide), q 230 (by decide), sm_k, us_s, sm_k, us_s]
  exact ⟨⟨a1, a2⟩, a3, rfl, a5, a6, a7⟩
/-- what waits, one more -/
theorem nn_p (f : Int → Int) {w : Int} (h : 0 ≤ w) (v : Int) : nzc (us f w v) (w + 1).toNat = (nzc f w.toNat + if v ≠ 0 then 1 else 0) ∧ nbc (us f w v) (w + 1).toNat = (nbc f w.toNat + if v ≠ 0 ∧ v ≠ 2 then 1 else 0) := by
  obtain ⟨s1, s2⟩ := nn_s (us f w v) (w := w + 1) (by omega)
  rw [show w + 1 - 1 = w by omega, us_s] at s1 s2
  rw [s1, s2, nzc_c (f := us f w v) (g := f) w.toNat (fun j a b => by rw [us_n (by omega)]), nbc_c (f := us f w v) (g := f) w.toNat (fun j a b => by rw [us_n (by omega)])]
  exact ⟨rfl, rfl⟩
/-- the law's counts; a part is wanted; a part was read -/
def LQ (t w : Nat) (F : Int) (Mc Mr : zM) : Prop := LX t w F Mc Mr ∧ 0 ≤ F ∧ Mr 209 19 + nzc (Mr 229) (Mr 209 39).toNat = Mr 209 42
def LWt (Mc Mr : zM) : Prop := Mr 209 43 = 1 ∧ Mr 209 40 = nbc (Mr 229) (Mr 209 39).toNat ∧ (Mr 209 44 ≠ 0 ↔ rkA Mc ≤ 3)
def LBh (Mr : zM) : Prop := Mr 209 43 = 0 ∧ Mr 209 40 = nbc (Mr 229) (Mr 209 39).toNat + 1
/-- what reading a law may change in the reference -/
def FrL (F : Int) (M M' : zM) : Prop := (∀ (k : Nat) (i : Int), ¬ (226 ≤ k ∧ k ≤ 230) → ¬ (k = 209 ∧ ((4 ≤ i ∧ i ≤ 5) ∨ (7 ≤ i ∧ i ≤ 11) ∨ i = 19 ∨ (39 ≤ i ∧ i ≤ 44))) → M' k i = M k i) ∧ ∀ (k : Nat) (i : Int), 226 ≤ k → k ≤ 228 → i < 64 + F → M' k i = M k i
theorem FrL.rf (F : Int) (M : zM) : FrL F M M := ⟨fun _ _ _ _ => rfl, fun _ _ _ _ _ => rfl⟩
theorem FrL.tr {F : Int} {M M1 M2 : zM} (h : FrL F M M1) (h2 : FrL F M1 M2) : FrL F M M2 := ⟨fun k i a b => (h2.1 k i a b).trans (h.1 k i a b), fun k i a b c => (h2.2 k i a b c).trans (h.2 k i a b c)⟩
theorem Fl.frl {M M' : zM} (F : Int) (h : Fl M M') : FrL F M M' := ⟨fun k i a b => h k i (fun z => b ⟨z.1, by omega⟩), fun k i a b c => h k i (by omega)⟩
theorem FrL.sm {F : Int} {M M1 : zM} (h : FrL F M M1) {i : Int} (hi : (4 ≤ i ∧ i ≤ 5) ∨ (7 ≤ i ∧ i ≤ 11) ∨ i = 19 ∨ (39 ≤ i ∧ i ≤ 44)) (v : Int) : FrL F M (sm M1 209 i v) := by
  refine ⟨fun k j a b => ?_, fun k j a b c => ?_⟩
  · by_cases e : k = 209
    · subst e; rw [sm_k, us_n (fun z => b ⟨rfl, by omega⟩)]; exact h.1 209 j a b
    · rw [sm_n e]; exact h.1 k j a b
  · rw [sm_n (by omega)]; exact h.2 k j a b c
theorem FrL.row {F : Int} {M M1 : zM} (h : FrL F M M1) {k : Nat} {i : Int} (hk : 226 ≤ k ∧ k ≤ 230) (hi : k ≤ 228 → 64 + F ≤ i) (v : Int) : FrL F M (_root_.Jvm.Pilot.@@N@@.sm M1 k i v) := by
  refine ⟨fun q j a b => ?_, fun q j a b c => ?_⟩
  · rw [sm_n (fun z => a (by omega))]; exact h.1 q j a b
  · by_cases e : q = k
    · subst e; rw [sm_k, us_n (by have := hi b; omega)]; exact h.2 q j a b c
    · rw [sm_n e]; exact h.2 q j a b c
theorem FrL.wf {F : Int} {M M1 : zM} (h : FrL F M M1) (k : Int) : FrL F M (wfM k M1) := by
  unfold wfM
  exact (h.row (by omega) (by omega) _).sm (by omega) _
theorem FrL.gw {F : Int} {M M1 : zM} (h : FrL F M M1) (k a b : Int) (h9 : F ≤ M1 209 19) : FrL F M (gwM k a b M1) := by
  unfold gwM
  exact (((((h.row (by omega) (by omega) _).row (by omega) (by omega) _).row (by omega) (by omega) _).row (by omega) (by omega) _).sm (by omega) _).sm (by omega) _
end ZRLV
