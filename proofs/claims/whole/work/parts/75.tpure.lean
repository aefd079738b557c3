section ZTP
theorem sh_amt : ∀ k : Nat, k < 32 → ((Int32.ofInt (k : Int) &&& 31).toBitVec.smod 32).toNat = k := by decide +kernel
theorem i32_bv (a : Nat) : (Int32.ofInt (a : Int)).toBitVec = BitVec.ofNat 32 a := by
  rw [Int32.ofInt_eq_ofNat]; rfl
theorem bv_ti {x : BitVec 32} {a : Nat} (h : x.toNat = a) (ha : a < 2147483648) : x.toInt = (a : Int) := by
  rw [BitVec.toInt_eq_toNat_of_lt (by omega), h]
theorem shlN {a k p : Nat} (hk : k < 32) (hp : 2 ^ k = p) (h : a * p < 2147483648) : b_ishl (a : Int) (k : Int) = ((a * p : Nat) : Int) := by
  unfold b_ishl
  show ((Int32.ofInt (a : Int)).toBitVec <<< ((Int32.ofInt (k : Int) &&& 31).toBitVec.smod 32).toNat).toInt = _
  rw [sh_amt k hk, i32_bv]
  refine bv_ti ?_ h
  rw [BitVec.toNat_shiftLeft, BitVec.toNat_ofNat, Nat.shiftLeft_eq, hp]
  have hp1 : 1 ≤ p := by rw [← hp]; exact Nat.one_le_two_pow
  have h2 : a ≤ a * p := Nat.le_mul_of_pos_right a hp1
  rw [Nat.mod_eq_of_lt (show a < 2 ^ 32 by omega), Nat.mod_eq_of_lt (by omega)]
theorem iorN {a c k p : Nat} (hp : 2 ^ k = p) (hc : c < p) (h : a * p + c < 2147483648) : b_ior ((a * p : Nat) : Int) (c : Int) = ((a * p + c : Nat) : Int) := by
  unfold b_ior
  show ((Int32.ofInt ((a * p : Nat) : Int)).toBitVec ||| (Int32.ofInt (c : Int)).toBitVec).toInt = _
  rw [i32_bv, i32_bv]
  refine bv_ti ?_ h
  rw [BitVec.toNat_or, BitVec.toNat_ofNat, BitVec.toNat_ofNat, Nat.mod_eq_of_lt (by omega), Nat.mod_eq_of_lt (by omega), ← hp, ← Nat.shiftLeft_eq, ← Nat.shiftLeft_add_eq_or_of_lt (by omega)]
/-- one more letter -/
theorem pk1 {x c : Int} (hx : 0 ≤ x ∧ x < 33554432) (hc : 0 ≤ c ∧ c < 32) : b_ior (b_ishl x 5) c = x * 32 + c := by
  obtain ⟨a, rfl⟩ : ∃ a : Nat, x = (a : Int) := ⟨x.toNat, by omega⟩
  obtain ⟨d, rfl⟩ : ∃ d : Nat, c = (d : Int) := ⟨c.toNat, by omega⟩
  have e1 := shlN (a := a) (k := 5) (p := 32) (by decide) (by decide) (by omega)
  have e2 := iorN (a := a) (c := d) (k := 5) (p := 32) (by decide) (by omega) (by omega)
  have e3 : b_ishl (a : Int) 5 = ((a * 32 : Nat) : Int) := e1
  rw [e3, e2]
  omega
/-- the end of a run of places where g isn't 0 -/
def runE (g : Int → Int) (n : Int) : Nat → Int → Int
  | 0, p => p
  | k + 1, p => if p < n ∧ g p ≠ 0 then runE g n k (p + 1) else p
def rnE (g : Int → Int) (n p : Int) : Int := runE g n (n - p).toNat p
theorem rn_step {g : Int → Int} {n p : Int} (h : p < n) (hg : g p ≠ 0) : rnE g n p = rnE g n (p + 1) := by
  unfold rnE
  rw [show (n - p).toNat = (n - (p + 1)).toNat + 1 by omega]
  show (if p < n ∧ g p ≠ 0 then _ else _) = _
  rw [if_pos ⟨h, hg⟩]
theorem rn_stop {g : Int → Int} {n p : Int} (h : ¬ (p < n ∧ g p ≠ 0)) : rnE g n p = p := by
  unfold rnE
  cases (n - p).toNat with
  | zero => rfl
  | succ k =>
    show (if p < n ∧ g p ≠ 0 then _ else _) = _
    rw [if_neg h]
theorem run_all (g : Int → Int) (n : Int) : ∀ (k : Nat) (p : Int), p + k = n → p ≤ runE g n k p ∧ runE g n k p ≤ n ∧ (∀ i, p ≤ i → i < runE g n k p → g i ≠ 0) ∧ (runE g n k p < n → g (runE g n k p) = 0)
  | 0, p, h => by simp only [runE]; exact ⟨by omega, by omega, fun i h1 h2 => by omega, fun h1 => by omega⟩
  | k + 1, p, h => by
    have ih := run_all g n k (p + 1) (by omega)
    unfold runE
    by_cases c : p < n ∧ g p ≠ 0
    · rw [if_pos c]
      refine ⟨by omega, ih.2.1, fun i h1 h2 => ?_, ih.2.2.2⟩
      by_cases e : i = p
      · subst e; exact c.2
      · exact ih.2.2.1 i (by omega) h2
    · rw [if_neg c]
      exact ⟨by omega, by omega, fun i h1 h2 => by omega, fun h1 => by
        by_cases g0 : g p = 0
        · exact g0
        · exact absurd ⟨h1, g0⟩ c⟩
theorem rn_all (g : Int → Int) {n p : Int} (h : p ≤ n) : p ≤ rnE g n p ∧ rnE g n p ≤ n ∧ (∀ i, p ≤ i → i < rnE g n p → g i ≠ 0) ∧ (rnE g n p < n → g (rnE g n p) = 0) := run_all g n (n - p).toNat p (by omega)
theorem rn_cong {g g' : Int → Int} {n : Int} : ∀ (k : Nat) (p : Int), p + k = n → (∀ i, p ≤ i → i < n → g i = g' i) → runE g n k p = runE g' n k p
  | 0, p, _, _ => rfl
  | k + 1, p, h, hg => by
    unfold runE
    rw [hg p (by omega) (by omega), rn_cong k (p + 1) (by omega) (fun i h1 h2 => hg i (by omega) h2)]
/-- white, small letters, digits -/
def wsF (f : Int → Int) (p : Int) : Int := if f p = 10 ∨ f p = 32 then 1 else 0
def loF (f : Int → Int) (p : Int) : Int := if 97 ≤ f p ∧ f p ≤ 122 then 1 else 0
def diF (f : Int → Int) (p : Int) : Int := if 48 ≤ f p ∧ f p ≤ 57 then 1 else 0
theorem wsF_1 {f : Int → Int} {p : Int} : wsF f p ≠ 0 ↔ (f p = 10 ∨ f p = 32) := by unfold wsF; split <;> simp_all
theorem loF_1 {f : Int → Int} {p : Int} : loF f p ≠ 0 ↔ (97 ≤ f p ∧ f p ≤ 122) := by unfold loF; split <;> simp_all
theorem diF_1 {f : Int → Int} {p : Int} : diF f p ≠ 0 ↔ (48 ≤ f p ∧ f p ≤ 57) := by unfold diF; split <;> simp_all
/-- the first m letters from a on, as a number -/
def pvF (f : Int → Int) (a : Int) : Nat → Int
  | 0 => 0
  | m + 1 => pvF f a m * 32 + (f (a + m) - 96)
theorem pvF_in {f : Int → Int} {a : Int} : ∀ (m : Nat), m ≤ 6 → (∀ i : Int, a ≤ i → i < a + m → 97 ≤ f i ∧ f i ≤ 122) → 0 ≤ pvF f a m ∧ pvF f a m < 32 ^ m
  | 0, _, _ => by simp [pvF]
  | m + 1, hm, h => by
    have ih := pvF_in m (by omega) (fun i h1 h2 => h i h1 (by omega))
    have q := h (a + m) (by omega) (by omega)
    simp only [pvF]
    have e : (32 : Int) ^ (m + 1) = 32 ^ m * 32 := Int.pow_succ 32 m
    rw [e]
    omega
/-- six places from a on, those from e on empty, as a number -/
def wdD (f : Int → Int) (a e i : Int) : Int := if a + i < e then f (a + i) - 96 else 0
def wvF (f : Int → Int) (a e : Int) : Int := ((((wdD f a e 0 * 32 + wdD f a e 1) * 32 + wdD f a e 2) * 32 + wdD f a e 3) * 32 + wdD f a e 4) * 32 + wdD f a e 5
def wpF (f : Int → Int) (a e : Int) : Nat → Int
  | 0 => 0
  | m + 1 => wpF f a e m * 32 + wdD f a e m
theorem wpF_6 (f : Int → Int) (a e : Int) : wpF f a e 6 = wvF f a e := by
  simp only [wpF, wvF]
  rw [Int.zero_mul, Int.zero_add]
  rfl
theorem wdD_in {f : Int → Int} {a e : Int} (h : ∀ i : Int, a ≤ i → i < e → 97 ≤ f i ∧ f i ≤ 122) {i : Int} (hi : 0 ≤ i) : 0 ≤ wdD f a e i ∧ wdD f a e i ≤ 26 := by
  unfold wdD
  split
  · have := h (a + i) (by omega) (by omega); omega
  · omega
theorem wpF_in {f : Int → Int} {a e : Int} (h : ∀ i : Int, a ≤ i → i < e → 97 ≤ f i ∧ f i ≤ 122) : ∀ m : Nat, 0 ≤ wpF f a e m ∧ wpF f a e m < 32 ^ m
  | 0 => by simp [wpF]
  | m + 1 => by
    have ih := wpF_in h m
    have q := wdD_in h (i := (m : Int)) (by omega)
    simp only [wpF]
    have e : (32 : Int) ^ (m + 1) = 32 ^ m * 32 := Int.pow_succ 32 m
    rw [e]
    omega
theorem pv_wp {f : Int → Int} {a e : Int} : ∀ m : Nat, a + m ≤ e → wpF f a e m = pvF f a m
  | 0, _ => rfl
  | m + 1, h => by
    simp only [wpF, pvF]
    rw [pv_wp m (by omega)]
    unfold wdD
    rw [if_pos (by omega)]
theorem wp_tail {f : Int → Int} {a e : Int} {q : Nat} (hq : e ≤ a + q) : ∀ m : Nat, wpF f a e (q + m) = wpF f a e q * 32 ^ m
  | 0 => by simp
  | m + 1 => by
    show wpF f a e (q + m) * 32 + wdD f a e ((q + m : Nat) : Int) = _
    rw [wp_tail hq m]
    unfold wdD
    rw [if_neg (by omega), Int.pow_succ, Int.mul_assoc]
    omega
/-- the letters of a word of q letters, laid out at the head of six places -/
theorem pk_end {f : Int → Int} {a e : Int} (h : ∀ i : Int, a ≤ i → i < e → 97 ≤ f i ∧ f i ≤ 122) (h0 : a ≤ e) (h6 : e ≤ a + 6) : b_ishl (pvF f a (e - a).toNat) (5 * (6 - (e - a))) = wvF f a e := by
  obtain ⟨q, hq⟩ : ∃ q : Nat, e = a + q := ⟨(e - a).toNat, by omega⟩
  have e1 : (e - a).toNat = q := by omega
  have b := pvF_in (f := f) (a := a) q (by omega) (fun i h1 h2 => h i h1 (by omega))
  have w6 : wpF f a e 6 = wpF f a e q * 32 ^ (6 - q) := by
    have := wp_tail (f := f) (a := a) (e := e) (q := q) (by omega) (6 - q)
    rwa [show q + (6 - q) = 6 by omega] at this
  rw [wpF_6, pv_wp q (by omega)] at w6
  rw [w6, e1]
  obtain ⟨x, hx⟩ : ∃ x : Nat, pvF f a q = (x : Int) := ⟨(pvF f a q).toNat, by omega⟩
  rw [hx] at b ⊢
  have hb : x < 32 ^ q := by
    have := b.2
    exact_mod_cast this
  rcases (show q = 0 ∨ q = 1 ∨ q = 2 ∨ q = 3 ∨ q = 4 ∨ q = 5 ∨ q = 6 by omega) with r | r | r | r | r | r | r <;> subst r
  · have := shlN (a := x) (k := 30) (p := 1073741824) (by decide) (by decide) (by omega)
    rw [show 5 * (6 - (e - a)) = ((30 : Nat) : Int) by omega, this, show (32 : Int) ^ (6 - 0) = 1073741824 by decide]; omega
  · have := shlN (a := x) (k := 25) (p := 33554432) (by decide) (by decide) (by omega)
    rw [show 5 * (6 - (e - a)) = ((25 : Nat) : Int) by omega, this, show (32 : Int) ^ (6 - 1) = 33554432 by decide]; omega
  · have := shlN (a := x) (k := 20) (p := 1048576) (by decide) (by decide) (by omega)
    rw [show 5 * (6 - (e - a)) = ((20 : Nat) : Int) by omega, this, show (32 : Int) ^ (6 - 2) = 1048576 by decide]; omega
  · have := shlN (a := x) (k := 15) (p := 32768) (by decide) (by decide) (by omega)
    rw [show 5 * (6 - (e - a)) = ((15 : Nat) : Int) by omega, this, show (32 : Int) ^ (6 - 3) = 32768 by decide]; omega
  · have := shlN (a := x) (k := 10) (p := 1024) (by decide) (by decide) (by omega)
    rw [show 5 * (6 - (e - a)) = ((10 : Nat) : Int) by omega, this, show (32 : Int) ^ (6 - 4) = 1024 by decide]; omega
  · have := shlN (a := x) (k := 5) (p := 32) (by decide) (by decide) (by omega)
    rw [show 5 * (6 - (e - a)) = ((5 : Nat) : Int) by omega, this, show (32 : Int) ^ (6 - 5) = 32 by decide]; omega
  · have := shlN (a := x) (k := 0) (p := 1) (by decide) (by decide) (by omega)
    rw [show 5 * (6 - (e - a)) = ((0 : Nat) : Int) by omega, this, show (32 : Int) ^ (6 - 6) = 1 by decide]; omega
/-- a number as the class reads it, and as the reference reads it -/
def nvC (f : Int → Int) : Nat → Int → Int → Int
  | 0, _, v => v
  | k + 1, p, v => nvC f k (p + 1) (if v * 10 + f p - 48 < 1000000 then v * 10 + f p - 48 else 1000000)
def nvR (f : Int → Int) : Nat → Int → Int → Int
  | 0, _, v => v
  | k + 1, p, v => nvR f k (p + 1) (if 99999 < v then v else 10 * v + f p - 48)
def nvq (v w : Int) : Prop := 0 ≤ v ∧ v ≤ 1000000 ∧ 0 ≤ w ∧ w ≤ 1000000 ∧ ((v = w ∧ w ≤ 99999) ∨ (99999 < v ∧ 99999 < w))
theorem nv_q {f : Int → Int} : ∀ (k : Nat) (p v w : Int), (∀ i : Int, p ≤ i → i < p + k → 48 ≤ f i ∧ f i ≤ 57) → nvq v w → nvq (nvC f k p v) (nvR f k p w)
  | 0, p, v, w, _, h => h
  | k + 1, p, v, w, hf, h => by
    unfold nvC nvR
    refine nv_q k (p + 1) _ _ (fun i h1 h2 => hf i (by omega) (by omega)) ?_
    have := hf p (by omega) (by omega)
    unfold nvq at h ⊢
    split <;> split <;> omega
/-- a sign -/
def sgC (c d : Int) : Int := if c = 60 then (if d = 61 then 4 else if d = 62 then 6 else 3) else if c = 62 then (if d = 61 then 7 else 8) else if c = 61 then 5 else if c = 43 then 9 else if c = 45 then 10 else if c = 42 then 11 else if c = 47 then 12 else if c = 40 then 13 else if c = 41 then 14 else if c = 59 then 15 else -1
theorem sgC_in (c d : Int) : -1 ≤ sgC c d ∧ sgC c d ≤ 15 := by
  unfold sgC
  repeat' split
  all_goals omega
def sgL (v : Int) : Int := if v = 4 ∨ v = 6 ∨ v = 7 then 2 else 1
/-- the words, five letters each, as the class numbers them -/
def langL : List Int := [284871840, 693712896, 653965440, 475056128, 510268864, 202511360, 642945024, 404455424, 609258752, 407947712, 153393792, 522190848, 48365568, 486146048, 143699968, 236238848, 202964992, 378998784, 273729664, 384294496, 284870656]
def lngF (k : Int) : Int := langL.getD k.toNat 0
/-- a word's number, or -1 -/
def wnF9 (x : Int) : Int := zfind lngF x 21 0
/-- the token whose first sign stands at q: its sort, its value, where it ends -/
def foll (f : Int → Int) (n q : Int) : Int := if q + 1 < n then f (q + 1) else 0
def tkE (f : Int → Int) (n q : Int) : Int := if n ≤ q then q else if loF f q ≠ 0 then rnE (loF f) n q else if diF f q ≠ 0 then rnE (diF f) n q else q + sgL (sgC (f q) (foll f n q))
def tkS (f : Int → Int) (n q : Int) : Int := if n ≤ q then 0 else if loF f q ≠ 0 then (if 6 < rnE (loF f) n q - q then 1 else if wnF9 (wvF f q (rnE (loF f) n q)) = -1 then 2 else 3) else if diF f q ≠ 0 then 4 else if sgC (f q) (foll f n q) = -1 then 1 else 5
def tkV (f : Int → Int) (n q : Int) : Int := if n ≤ q then 0 else if loF f q ≠ 0 then (if 6 < rnE (loF f) n q - q then 0 else if wnF9 (wvF f q (rnE (loF f) n q)) = -1 then wvF f q (rnE (loF f) n q) else wnF9 (wvF f q (rnE (loF f) n q))) else if diF f q ≠ 0 then nvC f (rnE (diF f) n q - q).toNat q 0 else sgC (f q) (foll f n q)
/-- where the token behind j tokens begins -/
def skp (f : Int → Int) (n p : Int) : Int := rnE (wsF f) n p
def nxT (f : Int → Int) (n : Int) : Nat → Int
  | 0 => 0
  | j + 1 => tkE f n (skp f n (nxT f n j))
def plT (f : Int → Int) (n : Int) (j : Nat) : Int := skp f n (nxT f n j)
theorem tkE_in (f : Int → Int) {n q : Int} (hq : q < n) : q < tkE f n q ∧ tkE f n q ≤ n + 1 := by
  unfold tkE
  rw [if_neg (by omega)]
  by_cases c : loF f q ≠ 0
  · rw [if_pos c]
    have h := rn_all (loF f) (n := n) (p := q + 1) (by omega)
    rw [rn_step hq c]
    omega
  · rw [if_neg c]
    by_cases c2 : diF f q ≠ 0
    · rw [if_pos c2]
      have h := rn_all (diF f) (n := n) (p := q + 1) (by omega)
      rw [rn_step hq c2]
      omega
    · rw [if_neg c2]
      unfold sgL
      split <;> omega
theorem sgL_2 {f : Int → Int} {n q : Int} (h : sgL (sgC (f q) (foll f n q)) = 2) : q + 1 < n := by
  by_cases c : q + 1 < n
  · exact c
  · exfalso
    unfold foll at h
    rw [if_neg c] at h
    unfold sgL sgC at h
    simp only [show ¬ ((0 : Int) = 61) by decide, show ¬ ((0 : Int) = 62) by decide, if_false] at h
    revert h
    repeat' split
    all_goals omega
theorem tkE_n (f : Int → Int) {n q : Int} (hq : q < n) : tkE f n q ≤ n := by
  unfold tkE
  rw [if_neg (by omega)]
  by_cases c : loF f q ≠ 0
  · rw [if_pos c]
    exact (rn_all (loF f) (n := n) (p := q) (by omega)).2.1
  · rw [if_neg c]
    by_cases c2 : diF f q ≠ 0
    · rw [if_pos c2]
      exact (rn_all (diF f) (n := n) (p := q) (by omega)).2.1
    · rw [if_neg c2]
      by_cases c3 : sgL (sgC (f q) (foll f n q)) = 2
      · have := sgL_2 c3; omega
      · have : sgL (sgC (f q) (foll f n q)) = 1 := by
          unfold sgL at c3 ⊢
          split at c3 <;> simp_all
        omega
theorem nxT_in (f : Int → Int) {n : Int} (hn : 0 ≤ n) : ∀ j : Nat, 0 ≤ nxT f n j ∧ nxT f n j ≤ n
  | 0 => ⟨by simp [nxT], by simpa [nxT] using hn⟩
  | j + 1 => by
    have ih := nxT_in f hn j
    have h := rn_all (wsF f) (n := n) (p := nxT f n j) ih.2
    have h' : nxT f n j ≤ skp f n (nxT f n j) ∧ skp f n (nxT f n j) ≤ n := ⟨h.1, h.2.1⟩
    show 0 ≤ tkE f n (skp f n (nxT f n j)) ∧ _
    by_cases c : skp f n (nxT f n j) < n
    · have := tkE_in f c
      have := tkE_n f c
      exact ⟨by omega, by show tkE f n (skp f n (nxT f n j)) ≤ n; omega⟩
    · have e : tkE f n (skp f n (nxT f n j)) = skp f n (nxT f n j) := by unfold tkE; rw [if_pos (by omega)]
      exact ⟨by rw [e]; omega, by show tkE f n (skp f n (nxT f n j)) ≤ n; rw [e]; omega⟩
theorem plT_in (f : Int → Int) {n : Int} (hn : 0 ≤ n) (j : Nat) : nxT f n j ≤ plT f n j ∧ 0 ≤ plT f n j ∧ plT f n j ≤ n := by
  have ih := nxT_in f hn j
  have h := rn_all (wsF f) (n := n) (p := nxT f n j) ih.2
  exact ⟨h.1, by have := h.1; show 0 ≤ rnE (wsF f) n (nxT f n j); omega, h.2.1⟩
end ZTP
