section ZEV
/-- all but the stack of a sum and its value -/
def Ew (M0 M : zM) : Prop := ∀ (k : Nat) (i : Int), k ≠ 53 → ¬ (k = 51 ∧ i = 2) → M k i = M0 k i
theorem Ew.rf (M : zM) : Ew M M := fun _ _ _ _ => rfl
theorem Ew.st {M0 M : zM} (h : Ew M0 M) (i v : Int) : Ew M0 (sm M 53 i v) := fun k j h1 h2 => by rw [sm_n h1]; exact h k j h1 h2
theorem Ew.val {M0 M : zM} (h : Ew M0 M) (v : Int) : Ew M0 (sm M 51 2 v) := fun k j h1 h2 => by
  by_cases e : k = 51
  · subst e
    rw [sm_k, us_n (fun z => h2 ⟨rfl, z⟩)]
    exact h 51 j h1 h2
  · rw [sm_n e]; exact h k j h1 h2
/-- the first h cells of f are the values of the list, the top first -/
def SR (f : Int → Int) (h : Int) (st : List Int) : Prop := h = (st.length : Int) ∧ ∀ (k : Nat) (v : Int), st[k]? = some v → f (h - 1 - k) = v ∧ lim v
theorem SR.nil (f : Int → Int) : SR f 0 [] := ⟨rfl, fun k v h => by simp at h⟩
theorem SR.push {f : Int → Int} {h v j : Int} {st : List Int} (hs : SR f h st) (hv : lim v) (hj : j = h) : SR (us f j v) (h + 1) (v :: st) := by
  subst hj
  refine ⟨by rw [hs.1]; simp, fun k x hk => ?_⟩
  cases k with
  | zero =>
    simp only [List.getElem?_cons_zero, Option.some.injEq] at hk
    subst hk
    rw [show j + 1 - 1 - ((0 : Nat) : Int) = j by omega, us_s]
    exact ⟨rfl, hv⟩
  | succ k =>
    simp only [List.getElem?_cons_succ] at hk
    have h1 := hs.2 k x hk
    rw [show j + 1 - 1 - ((k + 1 : Nat) : Int) = j - 1 - k by omega, us_n (by omega)]
    exact h1
theorem SR.top {f : Int → Int} {h a : Int} {st : List Int} (hs : SR f h (a :: st)) : f (h - 1) = a ∧ lim a := by
  have := hs.2 0 a rfl
  rwa [show h - 1 - ((0 : Nat) : Int) = h - 1 by omega] at this
theorem SR.snd {f : Int → Int} {h a b : Int} {st : List Int} (hs : SR f h (a :: b :: st)) : f (h - 2) = b ∧ lim b := by
  have := hs.2 1 b rfl
  rwa [show h - 1 - ((1 : Nat) : Int) = h - 2 by omega] at this
theorem SR.pop {f : Int → Int} {h a : Int} {st : List Int} (hs : SR f h (a :: st)) : SR f (h - 1) st := by
  refine ⟨by have := hs.1; simp at this; omega, fun k v hk => ?_⟩
  have := hs.2 (k + 1) v (by simpa using hk)
  rwa [show h - 1 - ((k + 1 : Nat) : Int) = h - 1 - 1 - k by omega] at this
theorem SR.rep {f : Int → Int} {h a v j : Int} {st : List Int} (hs : SR f h (a :: st)) (hv : lim v) (hj : j = h - 1) : SR (us f j v) h (v :: st) := by
  have := hs.pop.push hv hj
  rwa [show h - 1 + 1 = h by omega] at this
theorem SR.bin {f : Int → Int} {h a b v j h2 : Int} {st : List Int} (hs : SR f h (a :: b :: st)) (hv : lim v) (hj : j = h - 2) (hh : h2 = h - 1) : SR (us f j v) h2 (v :: st) := by
  subst hh
  exact hs.pop.rep hv (by omega)
theorem SR.len {f : Int → Int} {h : Int} {st : List Int} (hs : SR f h st) : h = (st.length : Int) := hs.1
theorem SR.c1 {f : Int → Int} {h : Int} {st : List Int} (hs : SR f h st) (h1 : 1 ≤ h) : ∃ a r, st = a :: r := by
  match st, hs with
  | [], hs => have := hs.1; simp at this; omega
  | a :: r, _ => exact ⟨a, r, rfl⟩
theorem SR.c2 {f : Int → Int} {h : Int} {st : List Int} (hs : SR f h st) (h1 : 2 ≤ h) : ∃ a b r, st = a :: b :: r := by
  match st, hs with
  | [], hs => have := hs.1; simp at this; omega
  | [a], hs => have := hs.1; simp at this; omega
  | a :: b :: r, _ => exact ⟨a, b, r, rfl⟩
theorem evS_k {nm kn : Int → Int} {n : Nat} {i : Int} {st st' : List Int} (h : stS nm (kn i) st = some st') : evS nm kn (n + 1) i st = evS nm kn n (i + 1) st' := by
  simp only [evS, h]
theorem evS_e {nm kn : Int → Int} {n : Nat} {i : Int} {st : List Int} (h : stS nm (kn i) st = none) : evS nm kn (n + 1) i st = none := by
  simp only [evS, h]
theorem stS_c {nm : Int → Int} {x : Int} (st : List Int) (h : x < 10000) : stS nm x st = some (x :: st) := by
  unfold stS
  rw [if_pos (by omega), if_pos h]
theorem stS_n {nm : Int → Int} {x : Int} (st : List Int) (h : ¬ x < 10000) (h2 : x < 20000) : stS nm x st = some (nm (x - 10000) :: st) := by
  unfold stS
  rw [if_pos h2, if_neg h]
theorem stS_not {nm : Int → Int} {x a : Int} {r : List Int} (h : x = 20002) : stS nm x (a :: r) = some ((if a = 0 then 1 else 0) :: r) := by
  unfold stS
  rw [if_neg (by omega)]
  simp only
  rw [if_pos h]
theorem stS_j {nm : Int → Int} {x a b : Int} {r : List Int} (h : ¬ x < 20000) (h2 : x ≠ 20002) : stS nm x (a :: b :: r) = if 1000000000000 < jn (x - 20000) b a ∨ jn (x - 20000) b a < -1000000000000 then none else some (jn (x - 20000) b a :: r) := by
  unfold stS
  rw [if_neg h]
  simp only
  rw [if_neg h2]
theorem stS_0 {nm : Int → Int} {x : Int} (h : ¬ x < 20000) : stS nm x [] = none := by
  unfold stS
  rw [if_neg h]
theorem stS_1 {nm : Int → Int} {x a : Int} (h : ¬ x < 20000) (h2 : x ≠ 20002) : stS nm x [a] = none := by
  unfold stS
  rw [if_neg h]
  simp only
  rw [if_neg h2]
/-- a law's knots and its size -/
def LwI (M : zM) (w : Nat) : Prop := (0 ≤ M w 1 ∧ M w 1 ≤ 64) ∧ ∀ i : Int, 0 ≤ i → i < M w 1 → kok (M (w + 1) i)
/-- the names of a sum are within the limit -/
def NmI (M : zM) : Prop := ∀ i : Int, 0 ≤ i → i < 7 → lim (M 52 i)
theorem lawS_of {nm kn : Int → Int} {n : Nat} {r : Option (List Int)} (h : evS nm kn n 0 [] = r) : lawS nm kn n = one r := by
  unfold lawS
  rw [h]
end ZEV
