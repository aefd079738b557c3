section ZRTP
/-- the reference's words, where each begins, how long it is -/
def wrdL : List Int := [104, 111, 117, 115, 101, 32, 116, 117, 114, 110, 32, 115, 111, 117, 110, 100, 32, 110, 101, 97, 114, 32, 111, 102, 116, 101, 110, 32, 102, 97, 100, 101, 32, 115, 101, 101, 100, 32, 108, 97, 119, 32, 114, 101, 97, 99, 104, 32, 108, 101, 97, 114, 110, 32, 100, 114, 105, 102, 116, 32, 97, 110, 100, 32, 111, 114, 32, 110, 111, 116, 32, 100, 105, 97, 108, 32, 103, 97, 105, 110, 32, 102, 97, 114, 32, 107, 105, 110, 100, 32, 104, 101, 97, 114, 100, 32, 107, 110, 111, 119, 115, 32, 104, 111, 117, 114, 32]
def wrd (i : Int) : Int := wrdL.getD i.toNat 0
def wstL : List Int := [0, 6, 11, 17, 22, 28, 33, 38, 42, 48, 54, 60, 64, 67, 71, 76, 81, 85, 90, 96, 102, 107]
def wst (k : Int) : Int := wstL.getD k.toNat 0
def wlnL : List Int := [5, 4, 5, 4, 5, 4, 4, 3, 5, 5, 5, 3, 2, 3, 4, 4, 3, 4, 5, 5, 4, 0]
def wln (k : Int) : Int := wlnL.getD k.toNat 0
/-- and and or have each other's numbers -/
def swp (k : Int) : Int := if k = 11 then 12 else if k = 12 then 11 else k
def dgW (k i : Int) : Int := if i < wln k then wrd (wst k + i) - 96 else 0
theorem w_dec : ∀ k : Fin 21, (0 ≤ wst ((k.val : Nat) : Int) ∧ wst ((k.val : Nat) : Int) + wln ((k.val : Nat) : Int) < 107 ∧ wst (((k.val : Nat) : Int) + 1) = wst ((k.val : Nat) : Int) + wln ((k.val : Nat) : Int) + 1 ∧ 2 ≤ wln ((k.val : Nat) : Int) ∧ wln ((k.val : Nat) : Int) ≤ 5 ∧ wrd (wst ((k.val : Nat) : Int) + wln ((k.val : Nat) : Int)) = 32) ∧ (∀ i : Fin 5, ((i.val : Nat) : Int) < wln ((k.val : Nat) : Int) → 97 ≤ wrd (wst ((k.val : Nat) : Int) + ((i.val : Nat) : Int)) ∧ wrd (wst ((k.val : Nat) : Int) + ((i.val : Nat) : Int)) ≤ 122) ∧ lngF (swp ((k.val : Nat) : Int)) = ((((dgW ((k.val : Nat) : Int) 0 * 32 + dgW ((k.val : Nat) : Int) 1) * 32 + dgW ((k.val : Nat) : Int) 2) * 32 + dgW ((k.val : Nat) : Int) 3) * 32 + dgW ((k.val : Nat) : Int) 4) * 32 + dgW ((k.val : Nat) : Int) 5 := by decide +kernel
theorem w_tab {k : Int} (h : 0 ≤ k ∧ k < 21) : (0 ≤ wst k ∧ wst k + wln k < 107 ∧ wst (k + 1) = wst k + wln k + 1 ∧ 2 ≤ wln k ∧ wln k ≤ 5 ∧ wrd (wst k + wln k) = 32) ∧ (∀ i : Int, 0 ≤ i → i < wln k → 97 ≤ wrd (wst k + i) ∧ wrd (wst k + i) ≤ 122) ∧ lngF (swp k) = ((((dgW k 0 * 32 + dgW k 1) * 32 + dgW k 2) * 32 + dgW k 3) * 32 + dgW k 4) * 32 + dgW k 5 := by
  obtain ⟨q, rfl⟩ : ∃ q : Nat, k = (q : Int) := ⟨k.toNat, by omega⟩
  have z := w_dec ⟨q, by omega⟩
  refine ⟨z.1, fun i i0 i1 => ?_, z.2.2⟩
  have zl := z.1.2.2.2.2.1
  obtain ⟨p, rfl⟩ : ∃ p : Nat, i = (p : Int) := ⟨i.toNat, by omega⟩
  exact z.2.1 ⟨p, by simp only at zl; omega⟩ i1
theorem lng_dec : ∀ i j : Fin 21, lngF ((i.val : Nat) : Int) = lngF ((j.val : Nat) : Int) → i = j := by decide +kernel
theorem lng_inj {i j : Int} (hi : 0 ≤ i ∧ i < 21) (hj : 0 ≤ j ∧ j < 21) (h : lngF i = lngF j) : i = j := by
  obtain ⟨p, rfl⟩ : ∃ p : Nat, i = (p : Int) := ⟨i.toNat, by omega⟩
  obtain ⟨q, rfl⟩ : ∃ q : Nat, j = (q : Int) := ⟨j.toNat, by omega⟩
  have z := lng_dec ⟨p, by omega⟩ ⟨q, by omega⟩ h
  have := congrArg Fin.val z
  simp only at this
  omega
theorem swp_in {k : Int} (h : 0 ≤ k ∧ k < 21) : 0 ≤ swp k ∧ swp k < 21 := by
  unfold swp
  split
  · omega
  · split <;> omega
/-- is a word the k-th one -/
def samW (f : Int → Int) (a b k : Int) : Int := if b - a = wln k then zall (fun i => if wrd (wst k + i) = f (a + i) then 1 else 0) (wln k).toNat 0 else 0
def wfi (f : Int → Int) (a b : Int) : Nat → Int → Int
  | 0, _ => -1
  | n + 1, k => if samW f a b k ≠ 0 then k else wfi f a b n (k + 1)
theorem wfi_in (f : Int → Int) (a b : Int) : ∀ (n : Nat) (k : Int), 0 ≤ k → (wfi f a b n k = -1 ∧ ∀ j : Int, k ≤ j → j < k + n → samW f a b j = 0) ∨ (k ≤ wfi f a b n k ∧ wfi f a b n k < k + n ∧ samW f a b (wfi f a b n k) ≠ 0)
  | 0, k, _ => Or.inl ⟨rfl, fun j h1 h2 => by omega⟩
  | n + 1, k, h => by
    unfold wfi
    by_cases c : samW f a b k ≠ 0
    · rw [if_pos c]; right; exact ⟨by omega, by omega, c⟩
    · rw [if_neg c]
      rcases wfi_in f a b n (k + 1) (by omega) with z | z
      · left
        refine ⟨z.1, fun j h1 h2 => ?_⟩
        by_cases e : j = k
        · rw [e]; omega
        · exact z.2 j (by omega) (by omega)
      · right; exact ⟨by omega, by omega, z.2.2⟩
theorem zfind_no (f : Int → Int) (x : Int) : ∀ (n : Nat) (i : Int), 0 ≤ i → zfind f x n i = -1 → ∀ j : Int, i ≤ j → j < i + n → f j ≠ x
  | 0, i, _, _ => fun j h1 h2 => by omega
  | n + 1, i, h, z => fun j h1 h2 => by
    unfold zfind at z
    by_cases c : f i = x
    · rw [if_pos c] at z; omega
    · rw [if_neg c] at z
      by_cases e : j = i
      · rw [e]; exact c
      · exact zfind_no f x n (i + 1) (by omega) z j (by omega) (by omega)
theorem zall_iff (g : Int → Int) : ∀ (n : Nat) (i : Int), zall g n i ≠ 0 ↔ ∀ j : Int, i ≤ j → j < i + n → g j ≠ 0
  | 0, i => ⟨fun _ j h1 h2 => by omega, fun _ => by simp [zall]⟩
  | n + 1, i => by
    unfold zall
    by_cases c : g i = 0
    · rw [if_pos c]
      exact ⟨fun z => absurd rfl z, fun z => absurd c (z i (by omega) (by omega))⟩
    · rw [if_neg c, zall_iff g n (i + 1)]
      refine ⟨fun z j h1 h2 => ?_, fun z j h1 h2 => z j (by omega) (by omega)⟩
      by_cases e : j = i
      · rw [e]; exact c
      · exact z j (by omega) (by omega)
theorem d6 {a0 a1 a2 a3 a4 a5 b0 b1 b2 b3 b4 b5 : Int} (h0 : 0 ≤ a0 ∧ a0 ≤ 26) (h1 : 0 ≤ a1 ∧ a1 ≤ 26) (h2 : 0 ≤ a2 ∧ a2 ≤ 26) (h3 : 0 ≤ a3 ∧ a3 ≤ 26) (h4 : 0 ≤ a4 ∧ a4 ≤ 26) (h5 : 0 ≤ a5 ∧ a5 ≤ 26) (g0 : 0 ≤ b0 ∧ b0 ≤ 26) (g1 : 0 ≤ b1 ∧ b1 ≤ 26) (g2 : 0 ≤ b2 ∧ b2 ≤ 26) (g3 : 0 ≤ b3 ∧ b3 ≤ 26) (g4 : 0 ≤ b4 ∧ b4 ≤ 26) (g5 : 0 ≤ b5 ∧ b5 ≤ 26) (h : ((((a0 * 32 + a1) * 32 + a2) * 32 + a3) * 32 + a4) * 32 + a5 = ((((b0 * 32 + b1) * 32 + b2) * 32 + b3) * 32 + b4) * 32 + b5) : a0 = b0 ∧ a1 = b1 ∧ a2 = b2 ∧ a3 = b3 ∧ a4 = b4 ∧ a5 = b5 := by
  have e5 : a5 = b5 := by omega
  have e4 : a4 = b4 := by omega
  have e3 : a3 = b3 := by omega
  have e2 : a2 = b2 := by omega
  have e1 : a1 = b1 := by omega
  exact ⟨by omega, e1, e2, e3, e4, e5⟩
theorem dgW_in {k : Int} (h : 0 ≤ k ∧ k < 21) {i : Int} (hi : 0 ≤ i) : 0 ≤ dgW k i ∧ dgW k i ≤ 26 ∧ (i < wln k → 1 ≤ dgW k i) := by
  have z := (w_tab h).2.1
  unfold dgW
  split
  · have := z i hi (by omega); omega
  · omega
theorem sam_iff {f : Int → Int} {a b k : Int} (hk : 0 ≤ k ∧ k < 21) (hl : ∀ i : Int, a ≤ i → i < b → 97 ≤ f i ∧ f i ≤ 122) (h0 : a ≤ b) (h6 : b ≤ a + 6) : samW f a b k ≠ 0 ↔ wvF f a b = lngF (swp k) := by
  have t := w_tab hk
  rw [t.2.2]
  unfold samW
  constructor
  · intro z
    by_cases c : b - a = wln k
    · rw [if_pos c, zall_iff] at z
      have e : ∀ i : Int, 0 ≤ i → i < 6 → wdD f a b i = dgW k i := fun i i0 i1 => by
        unfold wdD dgW
        by_cases ci : i < wln k
        · rw [if_pos (by omega), if_pos ci]
          have y := z i i0 (by omega)
          by_cases cy : wrd (wst k + i) = f (a + i)
          · rw [cy]
          · rw [if_neg cy] at y; exact absurd rfl y
        · rw [if_neg (by omega), if_neg ci]
      unfold wvF
      rw [e 0 (by omega) (by omega), e 1 (by omega) (by omega), e 2 (by omega) (by omega), e 3 (by omega) (by omega), e 4 (by omega) (by omega), e 5 (by omega) (by omega)]
    · rw [if_neg c] at z; exact absurd rfl z
  · intro z
    unfold wvF at z
    have b0 := fun i (hi : (0 : Int) ≤ i) => wdD_in hl hi
    have g0 := fun i (hi : (0 : Int) ≤ i) => dgW_in hk hi
    obtain ⟨e0, e1, e2, e3, e4, e5⟩ := d6 (b0 0 (by omega)) (b0 1 (by omega)) (b0 2 (by omega)) (b0 3 (by omega)) (b0 4 (by omega)) (b0 5 (by omega)) ⟨(g0 0 (by omega)).1, (g0 0 (by omega)).2.1⟩ ⟨(g0 1 (by omega)).1, (g0 1 (by omega)).2.1⟩ ⟨(g0 2 (by omega)).1, (g0 2 (by omega)).2.1⟩ ⟨(g0 3 (by omega)).1, (g0 3 (by omega)).2.1⟩ ⟨(g0 4 (by omega)).1, (g0 4 (by omega)).2.1⟩ ⟨(g0 5 (by omega)).1, (g0 5 (by omega)).2.1⟩ z
    have e : ∀ i : Int, 0 ≤ i → i < 6 → wdD f a b i = dgW k i := fun i i0 i1 => by
      rcases (show i = 0 ∨ i = 1 ∨ i = 2 ∨ i = 3 ∨ i = 4 ∨ i = 5 by omega) with r | r | r | r | r | r <;> rw [r] <;> assumption
    have wl := t.1
    have ew : b - a = wln k := by
      by_cases c1 : b - a < wln k
      · exfalso
        have y := e (b - a) (by omega) (by omega)
        have y2 := (g0 (b - a) (by omega)).2.2 c1
        unfold wdD at y
        rw [if_neg (by omega)] at y
        omega
      · by_cases c2 : wln k < b - a
        · exfalso
          have y := e (wln k) (by omega) (by omega)
          have y2 := hl (a + wln k) (by omega) (by omega)
          unfold wdD dgW at y
          rw [if_pos (by omega), if_neg (by omega)] at y
          omega
        · omega
    rw [if_pos ew, zall_iff]
    intro i i0 i1
    have y := e i i0 (by omega)
    unfold wdD dgW at y
    rw [if_pos (by omega), if_pos (by omega)] at y
    rw [if_pos (by omega)]
    decide
/-- the word's numbers in class and reference -/
theorem wf_wn {f : Int → Int} {a b : Int} (hl : ∀ i : Int, a ≤ i → i < b → 97 ≤ f i ∧ f i ≤ 122) (h0 : a ≤ b) (h6 : b ≤ a + 6) : (wfi f a b 21 0 = -1 ∧ wnF9 (wvF f a b) = -1) ∨ (0 ≤ wfi f a b 21 0 ∧ wfi f a b 21 0 ≤ 20 ∧ wnF9 (wvF f a b) = swp (wfi f a b 21 0)) := by
  rcases wfi_in f a b 21 0 (by omega) with z | z
  · left
    refine ⟨z.1, ?_⟩
    rcases zfind_in lngF (wvF f a b) 21 0 (by omega) with y | y
    · exact y
    · exfalso
      have sw : swp (swp (zfind lngF (wvF f a b) 21 0)) = zfind lngF (wvF f a b) 21 0 := by
        unfold swp
        repeat' split
        all_goals omega
      have si := swp_in (k := zfind lngF (wvF f a b) 21 0) (by omega)
      have s := sam_iff (f := f) (a := a) (b := b) (k := swp (zfind lngF (wvF f a b) 21 0)) si hl h0 h6
      rw [sw] at s
      exact s.mpr y.2.2.symm (z.2 _ (by omega) (by omega))
  · right
    have s := (sam_iff (f := f) (a := a) (b := b) (k := wfi f a b 21 0) (by omega) hl h0 h6).mp z.2.2
    have si := swp_in (k := wfi f a b 21 0) (by omega)
    refine ⟨by omega, by omega, ?_⟩
    rcases zfind_in lngF (wvF f a b) 21 0 (by omega) with y | y
    · exfalso
      exact zfind_no lngF (wvF f a b) 21 0 (by omega) y _ (by omega) (by omega) s.symm
    · exact lng_inj (by unfold wnF9; omega) (by omega) (by unfold wnF9; rw [y.2.2]; exact s)
theorem wf_long {f : Int → Int} {a b : Int} (h : a + 5 < b) : wfi f a b 21 0 = -1 := by
  rcases wfi_in f a b 21 0 (by omega) with z | z
  · exact z.1
  · exfalso
    have t := (w_tab (k := wfi f a b 21 0) (by omega)).1
    have s := z.2.2
    unfold samW at s
    rw [if_neg (by omega)] at s
    exact s rfl
/-- a token in the class's terms (s, v) and in the reference's (k, w) -/
def TKq (s v k w : Int) : Prop := (s = 0 ∧ k = 0) ∨ (s = 1 ∧ (k = 6 ∨ (k = 4 ∧ w = 37))) ∨ (s = 2 ∧ k = 2 ∧ v = w) ∨ (s = 3 ∧ k = 1 ∧ 0 ≤ w ∧ w ≤ 20 ∧ ((w = 11 ∧ v = 12) ∨ (w = 12 ∧ v = 11) ∨ (w ≠ 11 ∧ w ≠ 12 ∧ v = w))) ∨ (s = 4 ∧ k = 3 ∧ 0 ≤ v ∧ v ≤ 1000000 ∧ 0 ≤ w ∧ w ≤ 1000000 ∧ ((v = w ∧ w ≤ 99999) ∨ (99999 < v ∧ 99999 < w))) ∨ (s = 5 ∧ k = 5 ∧ 0 ≤ w ∧ w ≤ 5 ∧ v = 3 + w) ∨ (s = 5 ∧ k = 4 ∧ ((w = 43 ∧ v = 9) ∨ (w = 45 ∧ v = 10) ∨ (w = 42 ∧ v = 11) ∨ (w = 47 ∧ v = 12) ∨ (w = 40 ∧ v = 13) ∨ (w = 41 ∧ v = 14) ∨ (w = 59 ∧ v = 15)))
theorem sgC_c (c d : Int) : (c = 60 ∧ d = 61 ∧ sgC c d = 4) ∨ (c = 60 ∧ d = 62 ∧ sgC c d = 6) ∨ (c = 60 ∧ d ≠ 61 ∧ d ≠ 62 ∧ sgC c d = 3) ∨ (c = 62 ∧ d = 61 ∧ sgC c d = 7) ∨ (c = 62 ∧ d ≠ 61 ∧ sgC c d = 8) ∨ (c = 61 ∧ sgC c d = 5) ∨ (c = 43 ∧ sgC c d = 9) ∨ (c = 45 ∧ sgC c d = 10) ∨ (c = 42 ∧ sgC c d = 11) ∨ (c = 47 ∧ sgC c d = 12) ∨ (c = 40 ∧ sgC c d = 13) ∨ (c = 41 ∧ sgC c d = 14) ∨ (c = 59 ∧ sgC c d = 15) ∨ (c ≠ 60 ∧ c ≠ 62 ∧ c ≠ 61 ∧ c ≠ 43 ∧ c ≠ 45 ∧ c ≠ 42 ∧ c ≠ 47 ∧ c ≠ 40 ∧ c ≠ 41 ∧ c ≠ 59 ∧ sgC c d = -1) := by
  by_cases c60 : c = 60
  · by_cases d1 : d = 61
    · exact (Or.inl ⟨c60, d1, by unfold sgC; rw [if_pos c60, if_pos d1]⟩)
    by_cases d2 : d = 62
    · exact (Or.inr (Or.inl ⟨c60, d2, by unfold sgC; rw [if_pos c60, if_neg d1, if_pos d2]⟩))
    · exact (Or.inr (Or.inr (Or.inl ⟨c60, d1, d2, by unfold sgC; rw [if_pos c60, if_neg d1, if_neg d2]⟩)))
  by_cases c62 : c = 62
  · by_cases d1 : d = 61
    · exact (Or.inr (Or.inr (Or.inr (Or.inl ⟨c62, d1, by unfold sgC; rw [if_neg c60, if_pos c62, if_pos d1]⟩))))
    · exact (Or.inr (Or.inr (Or.inr (Or.inr (Or.inl ⟨c62, d1, by unfold sgC; rw [if_neg c60, if_pos c62, if_neg d1]⟩)))))
  by_cases c61 : c = 61
  · exact (Or.inr (Or.inr (Or.inr (Or.inr (Or.inr (Or.inl ⟨c61, by unfold sgC; rw [if_neg c60, if_neg c62, if_pos c61]⟩))))))
  by_cases c43 : c = 43
  · exact (Or.inr (Or.inr (Or.inr (Or.inr (Or.inr (Or.inr (Or.inl ⟨c43, by unfold sgC; rw [if_neg c60, if_neg c62, if_neg c61, if_pos c43]⟩)))))))
  by_cases c45 : c = 45
  · exact (Or.inr (Or.inr (Or.inr (Or.inr (Or.inr (Or.inr (Or.inr (Or.inl ⟨c45, by unfold sgC; rw [if_neg c60, if_neg c62, if_neg c61, if_neg c43, if_pos c45]⟩))))))))
  by_cases c42 : c = 42
  · exact (Or.inr (Or.inr (Or.inr (Or.inr (Or.inr (Or.inr (Or.inr (Or.inr (Or.inl ⟨c42, by unfold sgC; rw [if_neg c60, if_neg c62, if_neg c61, if_neg c43, if_neg c45, if_pos c42]⟩)))))))))
  by_cases c47 : c = 47
  · exact (Or.inr (Or.inr (Or.inr (Or.inr (Or.inr (Or.inr (Or.inr (Or.inr (Or.inr (Or.inl ⟨c47, by unfold sgC; rw [if_neg c60, if_neg c62, if_neg c61, if_neg c43, if_neg c45, if_neg c42, if_pos c47]⟩))))))))))
  by_cases c40 : c = 40
  · exact (Or.inr (Or.inr (Or.inr (Or.inr (Or.inr (Or.inr (Or.inr (Or.inr (Or.inr (Or.inr (Or.inl ⟨c40, by unfold sgC; rw [if_neg c60, if_neg c62, if_neg c61, if_neg c43, if_neg c45, if_neg c42, if_neg c47, if_pos c40]⟩)))))))))))
  by_cases c41 : c = 41
  · exact (Or.inr (Or.inr (Or.inr (Or.inr (Or.inr (Or.inr (Or.inr (Or.inr (Or.inr (Or.inr (Or.inr (Or.inl ⟨c41, by unfold sgC; rw [if_neg c60, if_neg c62, if_neg c61, if_neg c43, if_neg c45, if_neg c42, if_neg c47, if_neg c40, if_pos c41]⟩))))))))))))
  by_cases c59 : c = 59
  · exact (Or.inr (Or.inr (Or.inr (Or.inr (Or.inr (Or.inr (Or.inr (Or.inr (Or.inr (Or.inr (Or.inr (Or.inr (Or.inl ⟨c59, by unfold sgC; rw [if_neg c60, if_neg c62, if_neg c61, if_neg c43, if_neg c45, if_neg c42, if_neg c47, if_neg c40, if_neg c41, if_pos c59]⟩)))))))))))))
  exact (Or.inr (Or.inr (Or.inr (Or.inr (Or.inr (Or.inr (Or.inr (Or.inr (Or.inr (Or.inr (Or.inr (Or.inr (Or.inr ⟨c60, c62, c61, c43, c45, c42, c47, c40, c41, c59, by unfold sgC; rw [if_neg c60, if_neg c62, if_neg c61, if_neg c43, if_neg c45, if_neg c42, if_neg c47, if_neg c40, if_neg c41, if_neg c59]⟩)))))))))))))
theorem sgL_c (v : Int) : ((v = 4 ∨ v = 6 ∨ v = 7) ∧ sgL v = 2) ∨ (v ≠ 4 ∧ v ≠ 6 ∧ v ≠ 7 ∧ sgL v = 1) := by
  unfold sgL
  split <;> omega
end ZRTP

set_option maxRecDepth 100000 in
set_option maxHeartbeats 4000000 in
theorem m_X11_isSmall {G : zG} {l : Launch} {L : Nat} {P : zP} {M : zM} {k : Int} (hP : PFok P) (hk : 0 ≤ k ∧ k ≤ M 209 6 ∧ M 209 6 ≤ 700) : AM G l yX11_isSmall mdX11_isSmall [aR 209, aI k] (LAY L) P M (zone (LAY L) P M (fun r => (r = 1 ∧ k < M 209 6 ∧ loF (M 210) k ≠ 0) ∨ (r = 0 ∧ ¬ (k < M 209 6 ∧ loF (M 210) k ≠ 0)))) := by
  refine AM.go [some (aR 209), some (aI k)] rfl (Nat.le_of_ble_eq_true rfl) ?_ (by decide) rfl rfl
  refine a_iloadn dX11_isSmall_0 rfl ?_
  refine a_aloadn dX11_isSmall_1 rfl ?_
  refine b_getI (j' := 6) dX11_isSmall_2 flX11_136 rfl rfl (L209 L) (fun hr2 => ?_)
  refine a_icmp_ge (tgt := 34) dX11_isSmall_5 (by decide) ⟨by omega, by omega⟩ ⟨by omega, by omega⟩ (fun hb5 => ?_) (fun hb5 => ?_)
  · refine a_iconst dX11_isSmall_34 ?_
    exact a_zreturn dX11_isSmall_35 rfl rfl rfl (by omega) (zone_i (by rw [loF_1]; omega))
  · refine a_aloadn dX11_isSmall_8 rfl ?_
    refine a_getR (j' := 0) (y := 210) dX11_isSmall_9 flX11_7 rfl rfl (L209 L) (p209_0 hP) ?_
    refine a_iloadn dX11_isSmall_12 rfl ?_
    refine b_iald (N := 700) dX11_isSmall_13 (L210 L) (by decide) (by omega) (by omega) (fun hr13 => ?_)
    refine a_bipush (w := 97) dX11_isSmall_14 (by decide) ?_
    refine a_icmp_lt (tgt := 34) dX11_isSmall_16 (by decide) hr13 ⟨by omega, by omega⟩ (fun hb16 => ?_) (fun hb16 => ?_)
    · refine a_iconst dX11_isSmall_34 ?_
      exact a_zreturn dX11_isSmall_35 rfl rfl rfl (by omega) (zone_i (by rw [loF_1]; omega))
    · refine a_aloadn dX11_isSmall_19 rfl ?_
      refine a_getR (j' := 0) (y := 210) dX11_isSmall_20 flX11_7 rfl rfl (L209 L) (p209_0 hP) ?_
      refine a_iloadn dX11_isSmall_23 rfl ?_
      refine b_iald (N := 700) dX11_isSmall_24 (L210 L) (by decide) (by omega) (by omega) (fun hr24 => ?_)
      refine a_bipush (w := 122) dX11_isSmall_25 (by decide) ?_
      refine a_icmp_gt (tgt := 34) dX11_isSmall_27 (by decide) hr24 ⟨by omega, by omega⟩ (fun hb27 => ?_) (fun hb27 => ?_)
      · refine a_iconst dX11_isSmall_34 ?_
        exact a_zreturn dX11_isSmall_35 rfl rfl rfl (by omega) (zone_i (by rw [loF_1]; omega))
      · refine a_iconst dX11_isSmall_30 ?_
        refine a_goto (tgt := 35) dX11_isSmall_31 (by decide) ?_
        exact a_zreturn dX11_isSmall_35 rfl rfl rfl (by omega) (zone_i (by rw [loF_1]; omega))

set_option maxRecDepth 100000 in
set_option maxHeartbeats 4000000 in
theorem m_X11_isDigit {G : zG} {l : Launch} {L : Nat} {P : zP} {M : zM} {k : Int} (hP : PFok P) (hk : 0 ≤ k ∧ k ≤ M 209 6 ∧ M 209 6 ≤ 700) : AM G l yX11_isDigit mdX11_isDigit [aR 209, aI k] (LAY L) P M (zone (LAY L) P M (fun r => (r = 1 ∧ k < M 209 6 ∧ diF (M 210) k ≠ 0) ∨ (r = 0 ∧ ¬ (k < M 209 6 ∧ diF (M 210) k ≠ 0)))) := by
  refine AM.go [some (aR 209), some (aI k)] rfl (Nat.le_of_ble_eq_true rfl) ?_ (by decide) rfl rfl
  refine a_iloadn dX11_isDigit_0 rfl ?_
  refine a_aloadn dX11_isDigit_1 rfl ?_
  refine b_getI (j' := 6) dX11_isDigit_2 flX11_136 rfl rfl (L209 L) (fun hr2 => ?_)
  refine a_icmp_ge (tgt := 34) dX11_isDigit_5 (by decide) ⟨by omega, by omega⟩ ⟨by omega, by omega⟩ (fun hb5 => ?_) (fun hb5 => ?_)
  · refine a_iconst dX11_isDigit_34 ?_
    exact a_zreturn dX11_isDigit_35 rfl rfl rfl (by omega) (zone_i (by rw [diF_1]; omega))
  · refine a_aloadn dX11_isDigit_8 rfl ?_
    refine a_getR (j' := 0) (y := 210) dX11_isDigit_9 flX11_7 rfl rfl (L209 L) (p209_0 hP) ?_
    refine a_iloadn dX11_isDigit_12 rfl ?_
    refine b_iald (N := 700) dX11_isDigit_13 (L210 L) (by decide) (by omega) (by omega) (fun hr13 => ?_)
    refine a_bipush (w := 48) dX11_isDigit_14 (by decide) ?_
    refine a_icmp_lt (tgt := 34) dX11_isDigit_16 (by decide) hr13 ⟨by omega, by omega⟩ (fun hb16 => ?_) (fun hb16 => ?_)
    · refine a_iconst dX11_isDigit_34 ?_
      exact a_zreturn dX11_isDigit_35 rfl rfl rfl (by omega) (zone_i (by rw [diF_1]; omega))
    · refine a_aloadn dX11_isDigit_19 rfl ?_
      refine a_getR (j' := 0) (y := 210) dX11_isDigit_20 flX11_7 rfl rfl (L209 L) (p209_0 hP) ?_
      refine a_iloadn dX11_isDigit_23 rfl ?_
      refine b_iald (N := 700) dX11_isDigit_24 (L210 L) (by decide) (by omega) (by omega) (fun hr24 => ?_)
      refine a_bipush (w := 57) dX11_isDigit_25 (by decide) ?_
      refine a_icmp_gt (tgt := 34) dX11_isDigit_27 (by decide) hr24 ⟨by omega, by omega⟩ (fun hb27 => ?_) (fun hb27 => ?_)
      · refine a_iconst dX11_isDigit_34 ?_
        exact a_zreturn dX11_isDigit_35 rfl rfl rfl (by omega) (zone_i (by rw [diF_1]; omega))
      · refine a_iconst dX11_isDigit_30 ?_
        refine a_goto (tgt := 35) dX11_isDigit_31 (by decide) ?_
        exact a_zreturn dX11_isDigit_35 rfl rfl rfl (by omega) (zone_i (by rw [diF_1]; omega))

set_option maxRecDepth 100000 in
set_option maxHeartbeats 4000000 in
theorem lpX11_packed {G : zG} {l : Launch} {L : Nat} {P : zP} {M : zM} {a b : Int} (hP : PFok P) (ha : 0 ≤ a ∧ a ≤ b ∧ b ≤ 700) (hl : ∀ i : Int, a ≤ i → i < b → 97 ≤ M 210 i ∧ M 210 i ≤ 122) : ∀ (n : Nat) (k v : Int) (g0 : a ≤ k) (g1 : k + n = a + 6) (gv : v = wpF (M 210) a b (k - a).toNat), AW G l mdX11_packed (zdet (some (aI (wvF (M 210) a b))) (LAY L) P M) 5 [some (aR 209), some (aI a), some (aI b), some (aI v), some (aI k)] [] (LAY L) P M 0 0 := by
  intro n
  induction n with
  | zero =>
    intro k v g0 g1 gv
    refine a_iload dX11_packed_5 rfl ?_
    refine a_iloadn dX11_packed_7 rfl ?_
    refine a_bipush (w := 6) dX11_packed_8 (by decide) ?_
    refine a_iadd dX11_packed_10 ?_
    refine a_icmp_ge (tgt := 45) dX11_packed_11 (by decide) ⟨by omega, by omega⟩ ⟨by omega, by omega⟩ (fun hb11 => ?_) (fun hb11 => ?_)
    · refine a_iloadn dX11_packed_45 rfl ?_
      exact a_ireturn dX11_packed_46 rfl rfl rfl (zdet_I (by rw [gv, show (k - a).toNat = 6 by omega]; exact wpF_6 _ _ _) rfl)
    · exfalso; omega
  | succ n ih =>
    intro k v g0 g1 gv
    refine a_iload dX11_packed_5 rfl ?_
    refine a_iloadn dX11_packed_7 rfl ?_
    refine a_bipush (w := 6) dX11_packed_8 (by decide) ?_
    refine a_iadd dX11_packed_10 ?_
    refine a_icmp_ge (tgt := 45) dX11_packed_11 (by decide) ⟨by omega, by omega⟩ ⟨by omega, by omega⟩ (fun hb11 => ?_) (fun hb11 => ?_)
    · exfalso; omega
    · refine a_iloadn dX11_packed_14 rfl ?_
      refine a_iconst dX11_packed_15 ?_
      refine a_ishl dX11_packed_16 ?_
      refine a_iload dX11_packed_17 rfl ?_
      refine a_iloadn dX11_packed_19 rfl ?_
      refine a_icmp_ge (tgt := 36) dX11_packed_20 (by decide) ⟨by omega, by omega⟩ ⟨by omega, by omega⟩ (fun hb20 => ?_) (fun hb20 => ?_)
      · refine a_iconst dX11_packed_36 ?_
        refine a_ior dX11_packed_37 ?_
        refine c_istoren (ls' := [_, _, _, _, _]) dX11_packed_38 (by decide) rfl rfl ?_
        refine c_iinc (ls' := [_, _, _, _, _]) dX11_packed_39 rfl (by decide) rfl rfl ?_
        refine a_goto (tgt := 5) dX11_packed_42 (by decide) ?_
        refine ih _ _ (by omega) (by omega) ?_
        have hb := wpF_in (f := M 210) (a := a) (e := b) hl (k - a).toNat
        have hp : (32 : Int) ^ (k - a).toNat ≤ 33554432 := pow32 (by omega)
        have hd := wdD_in (f := M 210) (a := a) (e := b) hl (i := k - a) (by omega)
        have ed : wdD (M 210) a b (k - a) = (if k < b then M 210 k - 96 else 0) := by
          unfold wdD
          rw [show a + (k - a) = k by omega]
        rw [show (k + 1 - a).toNat = (k - a).toNat + 1 by omega]
        simp only [wpF]
        rw [show (((k - a).toNat : Nat) : Int) = k - a by omega, ← gv]
        rw [← gv] at hb
        first
        | (rw [if_pos (by omega)] at ed
           rw [ed] at hd ⊢
           exact pk1 ⟨hb.1, by omega⟩ ⟨by omega, by omega⟩)
        | (rw [if_neg (by omega)] at ed
           rw [ed]
           exact pk1 ⟨hb.1, by omega⟩ ⟨by omega, by omega⟩)
      · refine a_aloadn dX11_packed_23 rfl ?_
        refine a_getR (j' := 0) (y := 210) dX11_packed_24 flX11_7 rfl rfl (L209 L) (p209_0 hP) ?_
        refine a_iload dX11_packed_27 rfl ?_
        refine b_iald (N := 700) dX11_packed_29 (L210 L) (by decide) (by omega) (by omega) (fun hr29 => ?_)
        refine a_bipush (w := 96) dX11_packed_30 (by decide) ?_
        refine a_isub dX11_packed_32 ?_
        refine a_goto (tgt := 37) dX11_packed_33 (by decide) ?_
        refine a_ior dX11_packed_37 ?_
        refine c_istoren (ls' := [_, _, _, _, _]) dX11_packed_38 (by decide) rfl rfl ?_
        refine c_iinc (ls' := [_, _, _, _, _]) dX11_packed_39 rfl (by decide) rfl rfl ?_
        refine a_goto (tgt := 5) dX11_packed_42 (by decide) ?_
        refine ih _ _ (by omega) (by omega) ?_
        have hb := wpF_in (f := M 210) (a := a) (e := b) hl (k - a).toNat
        have hp : (32 : Int) ^ (k - a).toNat ≤ 33554432 := pow32 (by omega)
        have hd := wdD_in (f := M 210) (a := a) (e := b) hl (i := k - a) (by omega)
        have ed : wdD (M 210) a b (k - a) = (if k < b then M 210 k - 96 else 0) := by
          unfold wdD
          rw [show a + (k - a) = k by omega]
        rw [show (k + 1 - a).toNat = (k - a).toNat + 1 by omega]
        simp only [wpF]
        rw [show (((k - a).toNat : Nat) : Int) = k - a by omega, ← gv]
        rw [← gv] at hb
        first
        | (rw [if_pos (by omega)] at ed
           rw [ed] at hd ⊢
           exact pk1 ⟨hb.1, by omega⟩ ⟨by omega, by omega⟩)
        | (rw [if_neg (by omega)] at ed
           rw [ed]
           exact pk1 ⟨hb.1, by omega⟩ ⟨by omega, by omega⟩)

set_option maxRecDepth 100000 in
set_option maxHeartbeats 4000000 in
theorem m_X11_packed {G : zG} {l : Launch} {L : Nat} {P : zP} {M : zM} {a b : Int} (hP : PFok P) (ha : 0 ≤ a ∧ a ≤ b ∧ b ≤ 700) (hl : ∀ i : Int, a ≤ i → i < b → 97 ≤ M 210 i ∧ M 210 i ≤ 122) : AM G l yX11_packed mdX11_packed [aR 209, aI a, aI b] (LAY L) P M (zdet (some (aI (wvF (M 210) a b))) (LAY L) P M) := by
  refine AM.go [some (aR 209), some (aI a), some (aI b), none, none] rfl (Nat.le_of_ble_eq_true rfl) ?_ (by decide) rfl rfl
  refine a_iconst dX11_packed_0 ?_
  refine c_istoren (ls' := [_, _, _, _, _]) dX11_packed_1 (by decide) rfl rfl ?_
  refine a_iloadn dX11_packed_2 rfl ?_
  refine c_istore (ls' := [_, _, _, _, _]) dX11_packed_3 (by decide) rfl rfl ?_
  exact lpX11_packed hP ha hl 6 a 0 (by omega) (by omega) (by rw [show (a - a).toNat = 0 by omega]; rfl)

set_option maxRecDepth 100000 in
set_option maxHeartbeats 4000000 in
theorem lpX11_wordAt1 {G : zG} {l : Launch} {L : Nat} {P : zP} {M : zM} {a b k : Int} {Z : zZ} (hP : PFok P) (ha : 0 ≤ a ∧ a ≤ b ∧ b ≤ 700) (hW : ∀ i : Int, 0 ≤ i → i < 107 → M 211 i = wrd i) (hk : 0 ≤ k ∧ k < 21) : ∀ (n : Nat) (m : Int) (g0 : 0 ≤ m) (g1 : m + n = wln k) (kk : AW G l mdX11_wordAt Z 39 [some (aR 209), some (aI a), some (aI b), some (aI k), some (aI (wst k)), some (aI (wln k)), none, none] [] (LAY L) P M 0 0), AW G l mdX11_wordAt Z 18 [some (aR 209), some (aI a), some (aI b), some (aI k), some (aI (wst k)), some (aI m), none, none] [] (LAY L) P M 0 0 := by
  intro n
  induction n with
  | zero =>
    intro m g0 g1 kk
    have t9 := w_tab hk
    have em : m = wln k := by omega
    subst em
    have tw := t9.1.2.2.2.2.2
    refine a_aloadn dX11_wordAt_18 rfl ?_
    refine a_getR (j' := 3) (y := 211) dX11_wordAt_19 flX11_13 rfl rfl (L209 L) (p209_3 hP) ?_
    refine a_iload dX11_wordAt_22 rfl ?_
    refine a_iload dX11_wordAt_24 rfl ?_
    refine a_iadd dX11_wordAt_26 ?_
    refine b_iald (N := 107) dX11_wordAt_27 (L211 L) (by decide) (by omega) (by omega) (fun hr27 => ?_)
    rw [hW _ (by omega) (by omega)] at hr27
    rw [hW _ (by omega) (by omega)]
    refine a_bipush (w := 32) dX11_wordAt_28 (by decide) ?_
    refine a_icmp_eq (tgt := 39) dX11_wordAt_30 (by decide) ⟨by omega, by omega⟩ ⟨by omega, by omega⟩ (fun hb30 => ?_) (fun hb30 => ?_)
    · exact kk
    · exfalso; omega
  | succ n ih =>
    intro m g0 g1 kk
    have t9 := w_tab hk
    have tw := t9.2.1 m (by omega) (by omega)
    refine a_aloadn dX11_wordAt_18 rfl ?_
    refine a_getR (j' := 3) (y := 211) dX11_wordAt_19 flX11_13 rfl rfl (L209 L) (p209_3 hP) ?_
    refine a_iload dX11_wordAt_22 rfl ?_
    refine a_iload dX11_wordAt_24 rfl ?_
    refine a_iadd dX11_wordAt_26 ?_
    refine b_iald (N := 107) dX11_wordAt_27 (L211 L) (by decide) (by omega) (by omega) (fun hr27 => ?_)
    rw [hW _ (by omega) (by omega)] at hr27
    rw [hW _ (by omega) (by omega)]
    refine a_bipush (w := 32) dX11_wordAt_28 (by decide) ?_
    refine a_icmp_eq (tgt := 39) dX11_wordAt_30 (by decide) ⟨by omega, by omega⟩ ⟨by omega, by omega⟩ (fun hb30 => ?_) (fun hb30 => ?_)
    · exfalso; omega
    · refine c_iinc (ls' := [_, _, _, _, _, _, _, _]) dX11_wordAt_33 rfl (by decide) rfl rfl ?_
      refine a_goto (tgt := 18) dX11_wordAt_36 (by decide) ?_
      exact ih _ (by omega) (by omega) kk

set_option maxRecDepth 100000 in
set_option maxHeartbeats 4000000 in
theorem lpX11_wordAt2 {G : zG} {l : Launch} {L : Nat} {P : zP} {M : zM} {a b k : Int} {Z : zZ} (hP : PFok P) (ha : 0 ≤ a ∧ a ≤ b ∧ b ≤ 700) (hW : ∀ i : Int, 0 ≤ i → i < 107 → M 211 i = wrd i) (hk : 0 ≤ k ∧ k < 21) : ∀ (n : Nat) (i sm9 : Int) (g0 : 0 ≤ i) (g1 : i + n = wln k) (gs : (sm9 = 1 ∧ b - a = wln k) ∨ sm9 = 0) (kk : AW G l mdX11_wordAt Z 104 [some (aR 209), some (aI a), some (aI b), some (aI k), some (aI (wst k)), some (aI (wln k)), some (aI (if sm9 = 0 then 0 else zall (fun i => if wrd (wst k + i) = M 210 (a + i) then 1 else 0) n i)), none] [] (LAY L) P M 0 0), AW G l mdX11_wordAt Z 57 [some (aR 209), some (aI a), some (aI b), some (aI k), some (aI (wst k)), some (aI (wln k)), some (aI sm9), some (aI i)] [] (LAY L) P M 0 0 := by
  intro n
  induction n with
  | zero =>
    intro i sm9 g0 g1 gs kk
    have t9 := w_tab hk
    refine a_iload dX11_wordAt_57 rfl ?_
    refine a_iload dX11_wordAt_59 rfl ?_
    refine a_icmp_ge (tgt := 104) dX11_wordAt_61 (by decide) ⟨by omega, by omega⟩ ⟨by omega, by omega⟩ (fun hb61 => ?_) (fun hb61 => ?_)
    · refine a_forget [7] (ls' := [_, _, _, _, _, _, _, none]) rfl ?_
      rcases gs with g | g
      · rw [g.1] at kk ⊢; rw [if_neg (by decide)] at kk; exact kk
      · rw [g] at kk ⊢; exact kk
    · exfalso; omega
  | succ n ih =>
    intro i sm9 g0 g1 gs kk
    have t9 := w_tab hk
    refine a_iload dX11_wordAt_57 rfl ?_
    refine a_iload dX11_wordAt_59 rfl ?_
    refine a_icmp_ge (tgt := 104) dX11_wordAt_61 (by decide) ⟨by omega, by omega⟩ ⟨by omega, by omega⟩ (fun hb61 => ?_) (fun hb61 => ?_)
    · exfalso; omega
    · refine a_iload dX11_wordAt_64 rfl ?_
      refine a_if_eq (tgt := 104) dX11_wordAt_66 (by decide) ⟨by omega, by omega⟩ (fun hb66 => ?_) (fun hb66 => ?_)
      · refine a_forget [7] (ls' := [_, _, _, _, _, _, _, none]) rfl ?_
        rw [if_pos (by omega)] at kk
        rw [show sm9 = 0 by omega]
        exact kk
      · refine a_aloadn dX11_wordAt_69 rfl ?_
        refine a_getR (j' := 3) (y := 211) dX11_wordAt_70 flX11_13 rfl rfl (L209 L) (p209_3 hP) ?_
        refine a_iload dX11_wordAt_73 rfl ?_
        refine a_iload dX11_wordAt_75 rfl ?_
        refine a_iadd dX11_wordAt_77 ?_
        refine b_iald (N := 107) dX11_wordAt_78 (L211 L) (by decide) (by omega) (by omega) (fun hr78 => ?_)
        rw [hW _ (by omega) (by omega)] at hr78
        rw [hW _ (by omega) (by omega)]
        refine a_aloadn dX11_wordAt_79 rfl ?_
        refine a_getR (j' := 0) (y := 210) dX11_wordAt_80 flX11_7 rfl rfl (L209 L) (p209_0 hP) ?_
        refine a_iloadn dX11_wordAt_83 rfl ?_
        refine a_iload dX11_wordAt_84 rfl ?_
        refine a_iadd dX11_wordAt_86 ?_
        refine b_iald (N := 700) dX11_wordAt_87 (L210 L) (by decide) (by omega) (by omega) (fun hr87 => ?_)
        refine a_icmp_ne (tgt := 95) dX11_wordAt_88 (by decide) hr78 hr87 (fun hb88 => ?_) (fun hb88 => ?_)
        · refine a_iconst dX11_wordAt_95 ?_
          refine c_istore (ls' := [_, _, _, _, _, _, _, _]) dX11_wordAt_96 (by decide) rfl rfl ?_
          refine c_iinc (ls' := [_, _, _, _, _, _, _, _]) dX11_wordAt_98 rfl (by decide) rfl rfl ?_
          refine a_goto (tgt := 57) dX11_wordAt_101 (by decide) ?_
          rw [if_neg (by omega)] at kk
          simp only [zall] at kk
          first
          | (rw [if_neg (by rw [if_pos (by omega)]; decide)] at kk
             exact ih _ 1 (by omega) (by omega) (by omega) (by rw [if_neg (by decide)]; exact kk))
          | (rw [if_pos (by rw [if_neg (by omega)])] at kk
             exact ih _ 0 (by omega) (by omega) (Or.inr rfl) (by rw [if_pos rfl]; exact kk))
        · refine a_iconst dX11_wordAt_91 ?_
          refine a_goto (tgt := 96) dX11_wordAt_92 (by decide) ?_
          refine c_istore (ls' := [_, _, _, _, _, _, _, _]) dX11_wordAt_96 (by decide) rfl rfl ?_
          refine c_iinc (ls' := [_, _, _, _, _, _, _, _]) dX11_wordAt_98 rfl (by decide) rfl rfl ?_
          refine a_goto (tgt := 57) dX11_wordAt_101 (by decide) ?_
          rw [if_neg (by omega)] at kk
          simp only [zall] at kk
          first
          | (rw [if_neg (by rw [if_pos (by omega)]; decide)] at kk
             exact ih _ 1 (by omega) (by omega) (by omega) (by rw [if_neg (by decide)]; exact kk))
          | (rw [if_pos (by rw [if_neg (by omega)])] at kk
             exact ih _ 0 (by omega) (by omega) (Or.inr rfl) (by rw [if_pos rfl]; exact kk))

set_option maxRecDepth 100000 in
set_option maxHeartbeats 4000000 in
theorem tlX11_wordAt {G : zG} {l : Launch} {L : Nat} {P : zP} {M : zM} {a b k : Int} {Z : zZ} (hP : PFok P) (ha : 0 ≤ a ∧ a ≤ b ∧ b ≤ 700) (hW : ∀ i : Int, 0 ≤ i → i < 107 → M 211 i = wrd i) (hk : 0 ≤ k ∧ k < 21) (kr : samW (M 210) a b k ≠ 0 → Z (some (aI k)) (LAY L) P M) (kk : samW (M 210) a b k = 0 → AW G l mdX11_wordAt Z 5 [some (aR 209), some (aI a), some (aI b), some (aI (k + 1)), some (aI (wst k + (wln k + 1))), none, none, none] [] (LAY L) P M 0 0) : AW G l mdX11_wordAt Z 39 [some (aR 209), some (aI a), some (aI b), some (aI k), some (aI (wst k)), some (aI (wln k)), none, none] [] (LAY L) P M 0 0 := by
  have t9 := w_tab hk
  refine a_iload dX11_wordAt_39 rfl ?_
  refine a_iloadn dX11_wordAt_41 rfl ?_
  refine a_iloadn dX11_wordAt_42 rfl ?_
  refine a_isub dX11_wordAt_43 ?_
  refine a_icmp_ne (tgt := 51) dX11_wordAt_44 (by decide) ⟨by omega, by omega⟩ ⟨by omega, by omega⟩ (fun hb44 => ?_) (fun hb44 => ?_)
  · refine a_iconst dX11_wordAt_51 ?_
    refine c_istore (ls' := [_, _, _, _, _, _, _, _]) dX11_wordAt_52 (by decide) rfl rfl ?_
    refine a_iconst dX11_wordAt_54 ?_
    refine c_istore (ls' := [_, _, _, _, _, _, _, _]) dX11_wordAt_55 (by decide) rfl rfl ?_
    refine lpX11_wordAt2 hP ha hW hk (wln k).toNat 0 _ (by omega) (by omega) (by omega) ?_
    obtain ⟨v, ev⟩ : ∃ v, v = samW (M 210) a b k := ⟨_, rfl⟩
    have z01 : v = 0 ∨ v = 1 := by
      rw [ev]; unfold samW
      by_cases c : b - a = wln k
      · rw [if_pos c]; exact zall01 _ _ _
      · rw [if_neg c]; exact Or.inl rfl
    refine a_loc (ls' := [some (aR 209), some (aI a), some (aI b), some (aI k), some (aI (wst k)), some (aI (wln k)), some (aI v), none]) (by
      rw [ev]; unfold samW
      first
      | (rw [if_pos (show b - a = wln k by omega), if_neg (show ¬ ((1 : Int) = 0) by decide)]; done)
      | (rw [if_neg (show ¬ (b - a = wln k) by omega), if_pos (show ((0 : Int) = 0) by decide)]; done)) ?_
    refine a_iload dX11_wordAt_104 rfl ?_
    refine a_if_eq (tgt := 111) dX11_wordAt_106 (by decide) (by rcases z01 with z | z <;> exact ⟨by omega, by omega⟩) (fun hb106 => ?_) (fun hb106 => ?_)
    · refine a_iload dX11_wordAt_111 rfl ?_
      refine a_iload dX11_wordAt_113 rfl ?_
      refine a_iconst dX11_wordAt_115 ?_
      refine a_iadd dX11_wordAt_116 ?_
      refine a_iadd dX11_wordAt_117 ?_
      refine c_istore (ls' := [_, _, _, _, _, _, _, _]) dX11_wordAt_118 (by decide) rfl rfl ?_
      refine c_iinc (ls' := [_, _, _, _, _, _, _, _]) dX11_wordAt_120 rfl (by decide) rfl rfl ?_
      refine a_goto (tgt := 5) dX11_wordAt_123 (by decide) ?_
      refine a_forget [5, 6] (ls' := [_, _, _, _, _, none, none, none]) rfl ?_
      exact kk (by omega)
    · refine a_iloadn dX11_wordAt_109 rfl ?_
      exact a_ireturn dX11_wordAt_110 rfl rfl rfl (kr (by omega))
  · refine a_iconst dX11_wordAt_47 ?_
    refine a_goto (tgt := 52) dX11_wordAt_48 (by decide) ?_
    refine c_istore (ls' := [_, _, _, _, _, _, _, _]) dX11_wordAt_52 (by decide) rfl rfl ?_
    refine a_iconst dX11_wordAt_54 ?_
    refine c_istore (ls' := [_, _, _, _, _, _, _, _]) dX11_wordAt_55 (by decide) rfl rfl ?_
    refine lpX11_wordAt2 hP ha hW hk (wln k).toNat 0 _ (by omega) (by omega) (by omega) ?_
    obtain ⟨v, ev⟩ : ∃ v, v = samW (M 210) a b k := ⟨_, rfl⟩
    have z01 : v = 0 ∨ v = 1 := by
      rw [ev]; unfold samW
      by_cases c : b - a = wln k
      · rw [if_pos c]; exact zall01 _ _ _
      · rw [if_neg c]; exact Or.inl rfl
    refine a_loc (ls' := [some (aR 209), some (aI a), some (aI b), some (aI k), some (aI (wst k)), some (aI (wln k)), some (aI v), none]) (by
      rw [ev]; unfold samW
      first
      | (rw [if_pos (show b - a = wln k by omega), if_neg (show ¬ ((1 : Int) = 0) by decide)]; done)
      | (rw [if_neg (show ¬ (b - a = wln k) by omega), if_pos (show ((0 : Int) = 0) by decide)]; done)) ?_
    refine a_iload dX11_wordAt_104 rfl ?_
    refine a_if_eq (tgt := 111) dX11_wordAt_106 (by decide) (by rcases z01 with z | z <;> exact ⟨by omega, by omega⟩) (fun hb106 => ?_) (fun hb106 => ?_)
    · refine a_iload dX11_wordAt_111 rfl ?_
      refine a_iload dX11_wordAt_113 rfl ?_
      refine a_iconst dX11_wordAt_115 ?_
      refine a_iadd dX11_wordAt_116 ?_
      refine a_iadd dX11_wordAt_117 ?_
      refine c_istore (ls' := [_, _, _, _, _, _, _, _]) dX11_wordAt_118 (by decide) rfl rfl ?_
      refine c_iinc (ls' := [_, _, _, _, _, _, _, _]) dX11_wordAt_120 rfl (by decide) rfl rfl ?_
      refine a_goto (tgt := 5) dX11_wordAt_123 (by decide) ?_
      refine a_forget [5, 6] (ls' := [_, _, _, _, _, none, none, none]) rfl ?_
      exact kk (by omega)
    · refine a_iloadn dX11_wordAt_109 rfl ?_
      exact a_ireturn dX11_wordAt_110 rfl rfl rfl (kr (by omega))

set_option maxRecDepth 100000 in
set_option maxHeartbeats 4000000 in
theorem lpX11_wordAt {G : zG} {l : Launch} {L : Nat} {P : zP} {M : zM} {a b : Int} (hP : PFok P) (ha : 0 ≤ a ∧ a ≤ b ∧ b ≤ 700) (hW : ∀ i : Int, 0 ≤ i → i < 107 → M 211 i = wrd i) : ∀ (n : Nat) (k : Int) (g0 : 0 ≤ k) (g1 : k + n = 21), AW G l mdX11_wordAt (zdet (some (aI (wfi (M 210) a b n k))) (LAY L) P M) 5 [some (aR 209), some (aI a), some (aI b), some (aI k), some (aI (wst k)), none, none, none] [] (LAY L) P M 0 0 := by
  intro n
  induction n with
  | zero =>
    intro k g0 g1
    have ek : k = 21 := by omega
    subst ek
    have e21 : wst 21 = 107 := by decide
    refine a_iload dX11_wordAt_5 rfl ?_
    refine a_aloadn dX11_wordAt_7 rfl ?_
    refine a_getR (j' := 3) (y := 211) dX11_wordAt_8 flX11_13 rfl rfl (L209 L) (p209_3 hP) ?_
    refine a_alen (w := 107) dX11_wordAt_11 (L211 L) (by decide) rfl ?_
    refine a_icmp_ge (tgt := 126) dX11_wordAt_12 (by decide) ⟨by omega, by omega⟩ ⟨by omega, by omega⟩ (fun hb12 => ?_) (fun hb12 => ?_)
    · refine a_iconst dX11_wordAt_126 ?_
      exact a_ireturn dX11_wordAt_127 rfl rfl rfl (zdet_I rfl rfl)
    · exfalso; omega
  | succ n ih =>
    intro k g0 g1
    have t9 := w_tab (k := k) (by omega)
    refine a_iload dX11_wordAt_5 rfl ?_
    refine a_aloadn dX11_wordAt_7 rfl ?_
    refine a_getR (j' := 3) (y := 211) dX11_wordAt_8 flX11_13 rfl rfl (L209 L) (p209_3 hP) ?_
    refine a_alen (w := 107) dX11_wordAt_11 (L211 L) (by decide) rfl ?_
    refine a_icmp_ge (tgt := 126) dX11_wordAt_12 (by decide) ⟨by omega, by omega⟩ ⟨by omega, by omega⟩ (fun hb12 => ?_) (fun hb12 => ?_)
    · exfalso; omega
    · refine a_iconst dX11_wordAt_15 ?_
      refine c_istore (ls' := [_, _, _, _, _, _, _, _]) dX11_wordAt_16 (by decide) rfl rfl ?_
      refine lpX11_wordAt1 hP ha hW (by omega) (wln k).toNat 0 (by omega) (by omega) ?_
      exact tlX11_wordAt hP ha hW (by omega) (fun z => zdet_I (by simp only [wfi]; rw [if_pos z]) rfl) (fun z => by
        simp only [wfi]
        rw [if_neg (fun y => y z)]
        rw [show wst k + (wln k + 1) = wst (k + 1) by omega]
        exact ih _ (by omega) (by omega))

set_option maxRecDepth 100000 in
set_option maxHeartbeats 4000000 in
theorem m_X11_wordAt {G : zG} {l : Launch} {L : Nat} {P : zP} {M : zM} {a b : Int} (hP : PFok P) (ha : 0 ≤ a ∧ a ≤ b ∧ b ≤ 700) (hW : ∀ i : Int, 0 ≤ i → i < 107 → M 211 i = wrd i) : AM G l yX11_wordAt mdX11_wordAt [aR 209, aI a, aI b] (LAY L) P M (zdet (some (aI (wfi (M 210) a b 21 0))) (LAY L) P M) := by
  refine AM.go [some (aR 209), some (aI a), some (aI b), none, none, none, none, none] rfl (Nat.le_of_ble_eq_true rfl) ?_ (by decide) rfl rfl
  refine a_iconst dX11_wordAt_0 ?_
  refine c_istoren (ls' := [_, _, _, _, _, _, _, _]) dX11_wordAt_1 (by decide) rfl rfl ?_
  refine a_iconst dX11_wordAt_2 ?_
  refine c_istore (ls' := [_, _, _, _, _, _, _, _]) dX11_wordAt_3 (by decide) rfl rfl ?_
  exact lpX11_wordAt hP ha hW 21 0 (by omega) (by omega)
