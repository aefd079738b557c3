section ZH3
/-- the class's objects, as hours go by over the text t and the state a -/
def CS (L : Nat) (P : zP) (t a : Nat) : Prop := PFok P ∧ P 50 0 = some t ∧ ToA L P t ∧ (t = 4 ∨ t = 23) ∧ StA L P a ∧ (a = 61 ∨ a = 67)
/-- their numbers are within their ranges -/
def CI (M : zM) (t a : Nat) : Prop := ToI M t ∧ (LwI M (t + 13) ∧ LwI M (t + 15) ∧ LwI M (t + 17)) ∧ StI M a ∧ (0 ≤ M 50 1 ∧ M 50 1 ≤ 20)
def hrM (M : zM) (t a : Nat) (h o : Int) : Int := hrv (lwf M (t + 13)) (M 50 1) (M (a + 1) h) (M (a + 1) o) (M (a + 2) h) (M (a + 5) (h * 6 + o)) (bcnt (M (a + 3) h)) (M a 5)
def ndM (M : zM) (t a : Nat) (h o kd : Int) : Int := ndv (lwf M (t + 15)) (M (t + 10) 1) (M (a + 1) h) (M (a + 1) o) (M (a + 2) h) kd (M (a + 5) (h * 6 + o)) (bcnt (M (a + 3) h)) (M a 5)
theorem hrM01 (M : zM) (t a : Nat) (h o : Int) : hrM M t a h o = 0 ∨ hrM M t a h o = 1 := hrv01 _ _ _ _ _ _ _ _
theorem Ec.hr {M0 M : zM} (h : Ec M0 M) {t a : Nat} (ht : t ≤ 25) (ha : 54 ≤ a) (x y : Int) : hrM M t a x y = hrM M0 t a x y := by
  unfold hrM
  rw [h.lwq (w := t + 13) (by omega), h 50 1 (by decide) (by decide) (by omega), h.row (k := a) (by omega) (by omega) (by omega), h.row (k := a + 1) (by omega) (by omega) (by omega), h.row (k := a + 2) (by omega) (by omega) (by omega), h.row (k := a + 3) (by omega) (by omega) (by omega), h.row (k := a + 5) (by omega) (by omega) (by omega)]
theorem Ec.nd {M0 M : zM} (h : Ec M0 M) {t a : Nat} (ht : t ≤ 25) (ha : 54 ≤ a) (x y kd : Int) : ndM M t a x y kd = ndM M0 t a x y kd := by
  unfold ndM
  rw [h.lwq (w := t + 15) (by omega), h.row (k := t + 10) (by omega) (by omega) (by omega), h.row (k := a) (by omega) (by omega) (by omega), h.row (k := a + 1) (by omega) (by omega) (by omega), h.row (k := a + 2) (by omega) (by omega) (by omega), h.row (k := a + 3) (by omega) (by omega) (by omega), h.row (k := a + 5) (by omega) (by omega) (by omega)]
theorem Ec.ci {M0 M : zM} (h : Ec M0 M) {t a : Nat} (ht : t ≤ 25) (ha : 54 ≤ a) (hI : CI M0 t a) : CI M t a :=
  ⟨h.toi (by omega) hI.1, ⟨h.lwi (by omega) hI.2.1.1, h.lwi (by omega) hI.2.1.2.1, h.lwi (by omega) hI.2.1.2.2⟩, h.sti ha hI.2.2.1, by rw [h 50 1 (by decide) (by decide) (by omega)]; exact hI.2.2.2⟩
/-- one hears another -/
def hearM (M : zM) (a : Nat) (x y kd : Int) : zM := sm (sm M (a + 5) (x * 6 + y) (if M (a + 5) (x * 6 + y) + 1 < 999 then M (a + 5) (x * 6 + y) + 1 else 999)) (a + 4) x kd
/-- one hears another, and comes to know it if that was often enough -/
def learnM (M : zM) (t a : Nat) (x y kd : Int) : zM := if ndM (hearM M a x y kd) t a x y kd ≤ hearM M a x y kd (a + 5) (x * 6 + y) then sm (hearM M a x y kd) (a + 3) x (kset (hearM M a x y kd (a + 3) x) y) else hearM M a x y kd
/-- a sound of kind kd in the house y: the numbers behind it, and who heard it -/
def sdM (t a : Nat) (y kd : Int) : Nat → Int → zM → Int → zM × Int
  | 0, _, M, acc => (M, acc)
  | n + 1, i, M, acc => if i = y ∨ hrM M t a i y = 0 then sdM t a y kd n (i + 1) M acc else sdM t a y kd n (i + 1) (learnM M t a i y kd) (kset acc i)
/-- what a state's numbers are changed to within a state only -/
def Fa (a : Nat) (M0 M : zM) : Prop := ∀ (k : Nat), ¬ (a ≤ k ∧ k ≤ a + 5) → M k = M0 k
theorem Fa.rf (a : Nat) (M : zM) : Fa a M M := fun _ _ => rfl
theorem Fa.tr {a : Nat} {M0 M1 M2 : zM} (h1 : Fa a M0 M1) (h2 : Fa a M1 M2) : Fa a M0 M2 := fun k h => (h2 k h).trans (h1 k h)
theorem Fa.sm {a : Nat} {M0 M : zM} (h : Fa a M0 M) {k : Nat} (hk : a ≤ k ∧ k ≤ a + 5) (i v : Int) : Fa a M0 (sm M k i v) := fun q hq => by rw [sm_n (by omega)]; exact h q hq
theorem Fa.lwq {a : Nat} {M0 M : zM} (h : Fa a M0 M) {w : Nat} (hw : w ≤ 45) (ha : 54 ≤ a) : lwf M w = lwf M0 w := by
  unfold lwf
  rw [h w (by omega), h (w + 1) (by omega)]
theorem kset_dec : ∀ (x : Fin 64) (j : Fin 6), 0 ≤ kset ((x.val : Nat) : Int) ((j.val : Nat) : Int) ∧ kset ((x.val : Nat) : Int) ((j.val : Nat) : Int) ≤ 63 ∧ ∀ i : Fin 6, kbit (kset ((x.val : Nat) : Int) ((j.val : Nat) : Int)) ((i.val : Nat) : Int) = if i.val = j.val then 1 else kbit ((x.val : Nat) : Int) ((i.val : Nat) : Int) := by decide +kernel
theorem kset_in {x j : Int} (h : 0 ≤ x ∧ x ≤ 63) (hj : 0 ≤ j ∧ j < 6) : 0 ≤ kset x j ∧ kset x j ≤ 63 := by
  obtain ⟨k, rfl⟩ : ∃ k : Nat, x = (k : Int) := ⟨x.toNat, by omega⟩
  obtain ⟨q, rfl⟩ : ∃ q : Nat, j = (q : Int) := ⟨j.toNat, by omega⟩
  have := kset_dec ⟨k, by omega⟩ ⟨q, by omega⟩
  exact ⟨this.1, this.2.1⟩
theorem kset_bit {x j i : Int} (h : 0 ≤ x ∧ x ≤ 63) (hj : 0 ≤ j ∧ j < 6) (hi : 0 ≤ i ∧ i < 6) : kbit (kset x j) i = if i = j then 1 else kbit x i := by
  obtain ⟨k, rfl⟩ : ∃ k : Nat, x = (k : Int) := ⟨x.toNat, by omega⟩
  obtain ⟨q, rfl⟩ : ∃ q : Nat, j = (q : Int) := ⟨j.toNat, by omega⟩
  obtain ⟨r, rfl⟩ : ∃ r : Nat, i = (r : Int) := ⟨i.toNat, by omega⟩
  have := (kset_dec ⟨k, by omega⟩ ⟨q, by omega⟩).2.2 ⟨r, by omega⟩
  simp only at this
  rw [this]
  by_cases e : r = q
  · rw [if_pos e, if_pos (by omega)]
  · rw [if_neg e, if_neg (by omega)]
theorem StI.d {M : zM} {a : Nat} (h : StI M a) {k : Nat} {i v : Int} (hk : k = a + 1) (hv : 0 ≤ v ∧ v ≤ 99) : StI (sm M k i v) a := by
  subst hk
  refine ⟨fun j j0 j1 => ?_, fun j j0 j1 => by rw [sm_n (by omega)]; exact h.2.1 j j0 j1, fun j j0 j1 => by rw [sm_n (by omega)]; exact h.2.2.1 j j0 j1, fun j j0 j1 => by rw [sm_n (by omega)]; exact h.2.2.2.1 j j0 j1, fun j j0 j1 => by rw [sm_n (by omega)]; exact h.2.2.2.2.1 j j0 j1, by rw [sm_n (by omega)]; exact h.2.2.2.2.2⟩
  rw [sm_k]; unfold us; split
  · exact hv
  · exact h.1 j j0 j1
theorem StI.g {M : zM} {a : Nat} (h : StI M a) {k : Nat} {i v : Int} (hk : k = a + 2) (hv : 0 ≤ v ∧ v ≤ 9) : StI (sm M k i v) a := by
  subst hk
  refine ⟨fun j j0 j1 => by rw [sm_n (by omega)]; exact h.1 j j0 j1, fun j j0 j1 => ?_, fun j j0 j1 => by rw [sm_n (by omega)]; exact h.2.2.1 j j0 j1, fun j j0 j1 => by rw [sm_n (by omega)]; exact h.2.2.2.1 j j0 j1, fun j j0 j1 => by rw [sm_n (by omega)]; exact h.2.2.2.2.1 j j0 j1, by rw [sm_n (by omega)]; exact h.2.2.2.2.2⟩
  rw [sm_k]; unfold us; split
  · exact hv
  · exact h.2.1 j j0 j1
theorem StI.k {M : zM} {a : Nat} (h : StI M a) {k : Nat} {i v : Int} (hk : k = a + 3) (hv : 0 ≤ v ∧ v ≤ 63) : StI (sm M k i v) a := by
  subst hk
  refine ⟨fun j j0 j1 => by rw [sm_n (by omega)]; exact h.1 j j0 j1, fun j j0 j1 => by rw [sm_n (by omega)]; exact h.2.1 j j0 j1, fun j j0 j1 => ?_, fun j j0 j1 => by rw [sm_n (by omega)]; exact h.2.2.2.1 j j0 j1, fun j j0 j1 => by rw [sm_n (by omega)]; exact h.2.2.2.2.1 j j0 j1, by rw [sm_n (by omega)]; exact h.2.2.2.2.2⟩
  rw [sm_k]; unfold us; split
  · exact hv
  · exact h.2.2.1 j j0 j1
theorem StI.c {M : zM} {a : Nat} (h : StI M a) {k : Nat} {i v : Int} (hk : k = a + 4) (hv : 0 ≤ v ∧ v ≤ 9) : StI (sm M k i v) a := by
  subst hk
  refine ⟨fun j j0 j1 => by rw [sm_n (by omega)]; exact h.1 j j0 j1, fun j j0 j1 => by rw [sm_n (by omega)]; exact h.2.1 j j0 j1, fun j j0 j1 => by rw [sm_n (by omega)]; exact h.2.2.1 j j0 j1, fun j j0 j1 => ?_, fun j j0 j1 => by rw [sm_n (by omega)]; exact h.2.2.2.2.1 j j0 j1, by rw [sm_n (by omega)]; exact h.2.2.2.2.2⟩
  rw [sm_k]; unfold us; split
  · exact hv
  · exact h.2.2.2.1 j j0 j1
theorem StI.t {M : zM} {a : Nat} (h : StI M a) {k : Nat} {i v : Int} (hk : k = a + 5) (hv : 0 ≤ v ∧ v ≤ 999) : StI (sm M k i v) a := by
  subst hk
  refine ⟨fun j j0 j1 => by rw [sm_n (by omega)]; exact h.1 j j0 j1, fun j j0 j1 => by rw [sm_n (by omega)]; exact h.2.1 j j0 j1, fun j j0 j1 => by rw [sm_n (by omega)]; exact h.2.2.1 j j0 j1, fun j j0 j1 => by rw [sm_n (by omega)]; exact h.2.2.2.1 j j0 j1, fun j j0 j1 => ?_, by rw [sm_n (by omega)]; exact h.2.2.2.2.2⟩
  rw [sm_k]; unfold us; split
  · exact hv
  · exact h.2.2.2.2.1 j j0 j1
theorem StI.h {M : zM} {a : Nat} (h : StI M a) {v : Int} (hv : 0 ≤ v ∧ v ≤ 9999) : StI (sm M a 5 v) a := by
  refine ⟨fun j j0 j1 => by rw [sm_n (by omega)]; exact h.1 j j0 j1, fun j j0 j1 => by rw [sm_n (by omega)]; exact h.2.1 j j0 j1, fun j j0 j1 => by rw [sm_n (by omega)]; exact h.2.2.1 j j0 j1, fun j j0 j1 => by rw [sm_n (by omega)]; exact h.2.2.2.1 j j0 j1, fun j j0 j1 => by rw [sm_n (by omega)]; exact h.2.2.2.2.1 j j0 j1, ?_, ?_⟩
  · rw [sm_s]; exact hv
  · rw [sm_k, us_n (by decide)]; exact h.2.2.2.2.2.2
theorem StI.n {M : zM} {a : Nat} (h : StI M a) {v : Int} (hv : 0 ≤ v ∧ v ≤ 2147483647) : StI (sm M a 6 v) a := by
  refine ⟨fun j j0 j1 => by rw [sm_n (by omega)]; exact h.1 j j0 j1, fun j j0 j1 => by rw [sm_n (by omega)]; exact h.2.1 j j0 j1, fun j j0 j1 => by rw [sm_n (by omega)]; exact h.2.2.1 j j0 j1, fun j j0 j1 => by rw [sm_n (by omega)]; exact h.2.2.2.1 j j0 j1, fun j j0 j1 => by rw [sm_n (by omega)]; exact h.2.2.2.2.1 j j0 j1, ?_, ?_⟩
  · rw [sm_k, us_n (by decide)]; exact h.2.2.2.2.2.1
  · rw [sm_s]; exact hv
theorem Fa.ci {a t : Nat} {M0 M : zM} (h : Fa a M0 M) (ha : 54 ≤ a) (ht : t ≤ 25) (hI : CI M0 t a) (hs : StI M a) : CI M t a := by
  obtain ⟨h1, h2, h3, h4⟩ := hI
  unfold CI ToI LwI at *
  rw [h t (by omega), h (t + 2) (by omega), h (t + 3) (by omega), h (t + 4) (by omega), h (t + 5) (by omega), h (t + 6) (by omega), h (t + 7) (by omega), h (t + 8) (by omega), h (t + 9) (by omega), h (t + 10) (by omega), h (t + 13) (by omega), h (t + 13 + 1) (by omega), h (t + 15) (by omega), h (t + 15 + 1) (by omega), h (t + 17) (by omega), h (t + 17 + 1) (by omega), h 50 (by omega)]
  exact ⟨h1, h2, hs, h4⟩
theorem hearM_Fa (M : zM) (a : Nat) (x y kd : Int) : Fa a M (hearM M a x y kd) := ((Fa.rf a M).sm (by omega) _ _).sm (by omega) _ _
theorem hearM_I {M : zM} {a : Nat} {x y kd : Int} (hI : StI M a) (hx : 0 ≤ x ∧ x < 6) (hy : 0 ≤ y ∧ y < 6) (hk : 0 ≤ kd ∧ kd ≤ 9) : StI (hearM M a x y kd) a := by
  unfold hearM
  refine (hI.t rfl ?_).c rfl hk
  have q := hI.2.2.2.2.1 (x * 6 + y) (by omega) (by omega)
  split <;> omega
theorem learnM_Fa (M : zM) (t a : Nat) (x y kd : Int) : Fa a M (learnM M t a x y kd) := by
  unfold learnM
  split
  · exact (hearM_Fa M a x y kd).sm (by omega) _ _
  · exact hearM_Fa M a x y kd
theorem learnM_I {M : zM} {t a : Nat} {x y kd : Int} (hI : StI M a) (hx : 0 ≤ x ∧ x < 6) (hy : 0 ≤ y ∧ y < 6) (hk : 0 ≤ kd ∧ kd ≤ 9) : StI (learnM M t a x y kd) a := by
  have h1 := hearM_I hI hx hy hk
  unfold learnM
  split
  · exact h1.k rfl (kset_in (h1.2.2.1 x hx.1 hx.2) hy)
  · exact h1
theorem sdM_Fa (t a : Nat) (y kd : Int) : ∀ (n : Nat) (i : Int) (M : zM) (acc : Int), Fa a M (sdM t a y kd n i M acc).1
  | 0, i, M, acc => Fa.rf a M
  | n + 1, i, M, acc => by
    unfold sdM
    split
    · exact sdM_Fa t a y kd n (i + 1) M acc
    · exact (learnM_Fa M t a i y kd).tr (sdM_Fa t a y kd n (i + 1) _ _)
theorem sdM_I (t a : Nat) {y kd : Int} (hy : 0 ≤ y ∧ y < 6) (hk : 0 ≤ kd ∧ kd ≤ 9) : ∀ (n : Nat) (i : Int) (M : zM) (acc : Int), StI M a → 0 ≤ i → i + n ≤ 6 → StI (sdM t a y kd n i M acc).1 a
  | 0, i, M, acc, h, _, _ => h
  | n + 1, i, M, acc, h, h0, h1 => by
    unfold sdM
    split
    · exact sdM_I t a hy hk n (i + 1) M acc h (by omega) (by omega)
    · exact sdM_I t a hy hk n (i + 1) _ _ (learnM_I h ⟨by omega, by omega⟩ hy hk) (by omega) (by omega)
theorem Ec.sm2 {M0 M : zM} (h : Ec M0 M) (k : Nat) (i v : Int) : Ec (sm M0 k i v) (sm M k i v) := fun q j a b c => by
  by_cases e : q = k
  · subst e
    rw [sm_k, sm_k]
    unfold us
    split
    · rfl
    · exact h q j a b c
  · rw [sm_n e, sm_n e]; exact h q j a b c
theorem Ec.hear {M0 M : zM} (h : Ec M0 M) {a : Nat} (ha : 54 ≤ a) (x y kd : Int) : Ec (hearM M0 a x y kd) (hearM M a x y kd) := by
  unfold hearM
  rw [h.row (k := a + 5) (by omega) (by omega) (by omega)]
  exact (h.sm2 _ _ _).sm2 _ _ _
end ZH3
