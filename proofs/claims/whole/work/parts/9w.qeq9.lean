section ZEQC
/-- the digits of a code, its steps -/
def dgV : Nat → Int → Int → Int
  | 0, _ => fun _ => 0
  | n + 1, c => us (dgV n (c / 10)) n (c % 10)
def dgC (fr : Int → Int) : Nat → Int → Int
  | 0, _ => 0
  | n + 1, c => dgC fr n (c / 10) + iabs (11 * (c % 10) - fr n)
theorem dgV_in : ∀ (n : Nat) (c : Int) (k : Int), 0 ≤ k → k < n → 0 ≤ dgV n c k ∧ dgV n c k ≤ 9
  | 0, c, k, a, b => by omega
  | n + 1, c, k, a, b => by
    unfold dgV
    by_cases e : k = n
    · rw [e, us_s]; omega
    · rw [us_n e]; exact dgV_in n (c / 10) k a (by omega)
theorem dgC_0 (fr : Int → Int) : ∀ (n : Nat) (c : Int), 0 ≤ dgC fr n c
  | 0, c => Int.le_refl _
  | n + 1, c => by
    unfold dgC
    have := dgC_0 fr n (c / 10)
    have := (iabs_b (11 * (c % 10) - fr n)).1
    omega
theorem dgC_hi {fr : Int → Int} : ∀ (n : Nat) (c : Int), (∀ k : Int, 0 ≤ k → k < n → 0 ≤ fr k ∧ fr k ≤ 99) → dgC fr n c ≤ 99 * n
  | 0, c, _ => by show (0 : Int) ≤ _; omega
  | n + 1, c, h => by
    unfold dgC
    have := dgC_hi n (c / 10) (fun k a b => h k a (by omega))
    have f := h n (by omega) (by omega)
    have : iabs (11 * (c % 10) - fr n) ≤ 99 := by unfold iabs; split <;> omega
    omega
theorem dgV_s (n : Nat) (c : Int) : dgV (n + 1) c = us (dgV n (c / 10)) n (c % 10) := rfl
theorem dgC_s (fr : Int → Int) (n : Nat) (c : Int) : dgC fr (n + 1) c = dgC fr n (c / 10) + iabs (11 * (c % 10) - fr n) := rfl
def pw : Nat → Nat
  | 0 => 1
  | n + 1 => pw n * 10
theorem pw_p : ∀ n : Nat, 1 ≤ pw n
  | 0 => Nat.le_refl _
  | n + 1 => by have := pw_p n; show 1 ≤ pw n * 10; omega
theorem pw_s (n : Nat) : ((pw (n + 1) : Nat) : Int) = (pw n : Int) * 10 := by show ((pw n * 10 : Nat) : Int) = _; omega
/-- codes with one beginning -/
theorem dg_pre {fr : Int → Int} {h : Nat} : ∀ (n : Nat) (P c : Int), P * (pw n : Int) ≤ c → c < (P + 1) * (pw n : Int) → (∀ k : Int, 0 ≤ k → k < h → dgV (h + n) c k = dgV h P k) ∧ dgC fr h P ≤ dgC fr (h + n) c
  | 0, P, c, a, b => by
    have e : c = P := by
      rw [show ((pw 0 : Nat) : Int) = 1 from rfl, Int.mul_one] at a b
      omega
    subst e
    exact ⟨fun _ _ _ => rfl, Int.le_refl _⟩
  | n + 1, P, c, a, b => by
    rw [pw_s, ← Int.mul_assoc] at a b
    have i := dg_pre (fr := fr) (h := h) n P (c / 10) (by omega) (by omega)
    rw [show h + (n + 1) = (h + n) + 1 by omega, dgV_s, dgC_s]
    refine ⟨fun k k0 k1 => ?_, ?_⟩
    · rw [us_n (by omega)]; exact i.1 k k0 k1
    · have := (iabs_b (11 * (c % 10) - fr ((h + n : Nat) : Int))).1
      omega
/-- going over codes -/
def spG (ok : Int → Prop) [DecidablePred ok] (cs : Int → Int) : Nat → Int → Int × Int → Int × Int
  | 0, _, p => p
  | n + 1, c, p => spG ok cs n (c + 1) (if 0 ≤ p.1 ∧ p.2 ≤ cs c then p else if ok c then (c, cs c) else p)
theorem spG_ap {ok : Int → Prop} [DecidablePred ok] {cs : Int → Int} {m : Nat} : ∀ (n : Nat) (c : Int) (p : Int × Int), spG ok cs (n + m) c p = spG ok cs m (c + n) (spG ok cs n c p)
  | 0, c, p => by rw [Nat.zero_add, show c + ((0 : Nat) : Int) = c by omega]; rfl
  | n + 1, c, p => by
    rw [show n + 1 + m = (n + m) + 1 by omega]
    show spG ok cs (n + m) (c + 1) _ = _
    rw [spG_ap n (c + 1), show c + 1 + (n : Int) = c + ((n + 1 : Nat) : Int) by omega]
    rfl
theorem spG_id {ok : Int → Prop} [DecidablePred ok] {cs : Int → Int} {p : Int × Int} : ∀ (n : Nat) (c : Int), (∀ k : Int, c ≤ k → k < c + n → ¬ ok k ∨ (0 ≤ p.1 ∧ p.2 ≤ cs k)) → spG ok cs n c p = p
  | 0, c, _ => rfl
  | n + 1, c, h => by
    unfold spG
    have e : (if 0 ≤ p.1 ∧ p.2 ≤ cs c then p else if ok c then (c, cs c) else p) = p := by
      by_cases q : 0 ≤ p.1 ∧ p.2 ≤ cs c
      · rw [if_pos q]
      · rw [if_neg q, if_neg ((h c (by omega) (by omega)).resolve_right q)]
    rw [e]
    exact spG_id n (c + 1) (fun k a b => h k (by omega) (by omega))
/-- the class's search against it -/
def JS (hs : Nat) (S : PS) (p : Int × Int) : Prop := (p.1 = -1 ∧ S.1 = 2147483647) ∨ (0 ≤ p.1 ∧ S.1 = p.2 ∧ p.2 < 2147483647 ∧ ∀ k : Int, 0 ≤ k → k < hs → S.2.2 k = 11 * dgV hs p.1 k)
theorem chL_k {T : Int → Int} : ∀ (n : Nat) (i : Int) (A : Int → Int) (k : Int), chL T n i A k = if i ≤ k ∧ k < i + n then T k * 11 else A k
  | 0, i, A, k => by rw [if_neg (by omega)]; rfl
  | n + 1, i, A, k => by
    unfold chL
    rw [chL_k n (i + 1)]
    by_cases e : k = i
    · rw [e, us_s, if_neg (by omega), if_pos (by omega)]
    · rw [us_n e]
      by_cases c : i + 1 ≤ k ∧ k < i + 1 + n
      · rw [if_pos c, if_pos (by omega)]
      · rw [if_neg c, if_neg (by omega)]
theorem pl_eq {ap fr : Int → Int} {hs : Nat} {ok : Int → Prop} [DecidablePred ok] {A : Int → Int → Int → Int → Prop} (h4 : hs ≤ 4) (hfr : ∀ k : Int, 0 ≤ k → k < hs → 0 ≤ fr k ∧ fr k ≤ 99) (hap : ∀ a b i k : Int, 0 ≤ a → a < b → b < hs → 0 ≤ i → i ≤ 9 → 0 ≤ k → k ≤ 9 → (ap ((a * 10 + i) * 40 + b * 10 + k) ≠ 0 ↔ A a b i k)) (hok : ∀ c : Int, 0 ≤ c → (ok c ↔ ∀ a b : Int, 0 ≤ a → a < b → b < hs → A a b (dgV hs c a) (dgV hs c b))) : ∀ (n h : Nat) (P : Int) (S : PS) (p : Int × Int), h + n = hs → 0 ≤ P → (∀ k : Int, 0 ≤ k → k < h → S.2.1 k = dgV h P k) → (∀ a b : Int, 0 ≤ a → a < b → b < h → A a b (dgV h P a) (dgV h P b)) → JS hs S p → JS hs (plF ap fr hs n h (dgC fr h P) S) (spG ok (dgC fr hs) (pw n) (P * (pw n : Int)) p) ∧ ∀ k : Int, 0 ≤ k → k < h → (plF ap fr hs n h (dgC fr h P) S).2.1 k = S.2.1 k := by
  intro n
  induction n with
  | zero =>
    intro h P S p hn hP hT hA J
    have eh : h = hs := by omega
    subst eh
    rw [show pw 0 = 1 from rfl, show ((1 : Nat) : Int) = 1 from rfl, Int.mul_one]
    have okP : ok P := (hok P hP).2 hA
    show JS h (if S.1 ≤ dgC fr h P then S else (dgC fr h P, S.2.1, chL S.2.1 (h : Int).toNat 0 S.2.2)) (if 0 ≤ p.1 ∧ p.2 ≤ dgC fr h P then p else if ok P then (P, dgC fr h P) else p) ∧ ∀ k : Int, 0 ≤ k → k < h → (if S.1 ≤ dgC fr h P then S else (dgC fr h P, S.2.1, chL S.2.1 (h : Int).toNat 0 S.2.2)).2.1 k = S.2.1 k
    have c9 := dgC_hi (fr := fr) h P hfr
    by_cases c : S.1 ≤ dgC fr h P
    · rw [if_pos c]
      refine ⟨?_, fun _ _ _ => rfl⟩
      rcases J with ⟨j1, j2⟩ | ⟨j1, j2, j3, j4⟩
      · omega
      · rw [if_pos ⟨j1, by omega⟩]; exact Or.inr ⟨j1, j2, j3, j4⟩
    · rw [if_neg c]
      refine ⟨?_, fun _ _ _ => rfl⟩
      have e : (if 0 ≤ p.1 ∧ p.2 ≤ dgC fr h P then p else if ok P then (P, dgC fr h P) else p) = (P, dgC fr h P) := by
        rw [if_neg, if_pos okP]
        rintro ⟨q1, q2⟩
        rcases J with ⟨j1, j2⟩ | ⟨j1, j2, j3, j4⟩ <;> omega
      rw [e]
      refine Or.inr ⟨hP, rfl, by show dgC fr h P < _; omega, fun k a b => ?_⟩
      show chL S.2.1 (h : Int).toNat 0 S.2.2 k = 11 * dgV h P k
      rw [chL_k, if_pos (by omega), hT k a b]; omega
  | succ n ih =>
    intro h P S p hn hP hT hA J
    have c0 := dgC_0 fr h P
    have c9 := dgC_hi (fr := fr) h P (fun k a b => hfr k a (by omega))
    have T1 := pw_p n
    have eF : plF ap fr hs (n + 1) h (dgC fr h P) S = if S.1 ≤ dgC fr h P then S else plL ap fr h (dgC fr h P) (plF ap fr hs n ((h : Int) + 1)) 10 0 S := rfl
    rw [eF]
    by_cases c : S.1 ≤ dgC fr h P
    · rw [if_pos c]
      refine ⟨?_, fun _ _ _ => rfl⟩
      rcases J with ⟨j1, j2⟩ | ⟨j1, j2, j3, j4⟩
      · omega
      · rw [spG_id _ _ (fun k a b => Or.inr ⟨j1, ?_⟩)]
        · exact Or.inr ⟨j1, j2, j3, j4⟩
        · have z := (dg_pre (fr := fr) (h := h) (n + 1) P k a (by rw [Int.add_mul, Int.one_mul]; omega)).2
          rw [hn] at z
          omega
    · rw [if_neg c]
      have lp : ∀ (m : Nat) (i : Int) (S : PS) (p : Int × Int), i + m = 10 → 0 ≤ i → (∀ k : Int, 0 ≤ k → k < h → S.2.1 k = dgV h P k) → JS hs S p → JS hs (plL ap fr h (dgC fr h P) (plF ap fr hs n ((h : Int) + 1)) m i S) (spG ok (dgC fr hs) (m * pw n) ((P * 10 + i) * (pw n : Int)) p) ∧ ∀ k : Int, 0 ≤ k → k < h → (plL ap fr h (dgC fr h P) (plF ap fr hs n ((h : Int) + 1)) m i S).2.1 k = S.2.1 k := by
        intro m
        induction m with
        | zero =>
          intro i S p _ _ _ J
          rw [Nat.zero_mul]
          exact ⟨J, fun _ _ _ => rfl⟩
        | succ m im =>
          intro i S p hi i0 hT J
          have q10 : (P * 10 + i) / 10 = P := by omega
          have m10 : (P * 10 + i) % 10 = i := by omega
          have dv : dgV (h + 1) (P * 10 + i) = us (dgV h P) h i := by rw [dgV_s, q10, m10]
          have dc : dgC fr h P + iabs (i * 11 - fr h) = dgC fr (h + 1) (P * 10 + i) := by rw [dgC_s, q10, m10, show 11 * i = i * 11 by omega]
          have hT1 : ∀ k : Int, 0 ≤ k → k < ((h + 1 : Nat) : Int) → us S.2.1 h i k = dgV (h + 1) (P * 10 + i) k := fun k a b => by
            rw [dv]
            by_cases e : k = h
            · rw [e, us_s, us_s]
            · rw [us_n e, us_n e]; exact hT k a (by omega)
          have hP1 : 0 ≤ P * 10 + i := by omega
          obtain ⟨Q, eQ⟩ : ∃ Q, Q = P * 10 + i := ⟨_, rfl⟩
          rw [← eQ] at dv dc hT1 hP1
          have eL : plL ap fr h (dgC fr h P) (plF ap fr hs n ((h : Int) + 1)) (m + 1) i S = plL ap fr h (dgC fr h P) (plF ap fr hs n ((h : Int) + 1)) m (i + 1) (if zall (fun j => ap ((j * 10 + us S.2.1 h i j) * 40 + (h : Int) * 10 + us S.2.1 h i h)) (h : Int).toNat 0 = 0 then (S.1, us S.2.1 h i, S.2.2) else plF ap fr hs n ((h : Int) + 1) (dgC fr h P + iabs (i * 11 - fr h)) (S.1, us S.2.1 h i, S.2.2)) := rfl
          have en : (P * 10 + (i + 1)) * (pw n : Int) = Q * (pw n : Int) + (pw n : Int) := by rw [eQ, show P * 10 + (i + 1) = (P * 10 + i) + 1 by omega, Int.add_mul, Int.one_mul]
          have eG : spG ok (dgC fr hs) ((m + 1) * pw n) (Q * (pw n : Int)) p = spG ok (dgC fr hs) (m * pw n) ((P * 10 + (i + 1)) * (pw n : Int)) (spG ok (dgC fr hs) (pw n) (Q * (pw n : Int)) p) := by
            rw [show (m + 1) * pw n = pw n + m * pw n by rw [Nat.succ_mul, Nat.add_comm], spG_ap, en]
          rw [eL, ← eQ, eG, dc]
          have J1 : JS hs (S.1, us S.2.1 h i, S.2.2) p := J
          have tst : zall (fun j => ap ((j * 10 + us S.2.1 h i j) * 40 + (h : Int) * 10 + us S.2.1 h i h)) (h : Int).toNat 0 ≠ 0 ↔ ∀ j : Int, 0 ≤ j → j < h → A j h (dgV (h + 1) Q j) (dgV (h + 1) Q h) := by
            rw [zall_1]
            constructor
            · intro w j j0 j1
              have z := w j j0 (by omega)
              have d1 := hT1 j j0 (by omega)
              have d2 := hT1 h (by omega) (by omega)
              have r1 := dgV_in (h + 1) Q j j0 (by omega)
              have r2 := dgV_in (h + 1) Q h (by omega) (by omega)
              rw [d1, d2] at z
              exact (hap j h _ _ j0 j1 (by omega) r1.1 r1.2 r2.1 r2.2).1 z
            · intro w j j0 j1
              have d1 := hT1 j j0 (by omega)
              have d2 := hT1 h (by omega) (by omega)
              have r1 := dgV_in (h + 1) Q j j0 (by omega)
              have r2 := dgV_in (h + 1) Q h (by omega) (by omega)
              show ap ((j * 10 + us S.2.1 h i j) * 40 + (h : Int) * 10 + us S.2.1 h i h) ≠ 0
              rw [d1, d2]
              exact (hap j h _ _ j0 (by omega) (by omega) r1.1 r1.2 r2.1 r2.2).2 (w j j0 (by omega))
          by_cases k : zall (fun j => ap ((j * 10 + us S.2.1 h i j) * 40 + (h : Int) * 10 + us S.2.1 h i h)) (h : Int).toNat 0 = 0
          · rw [if_pos k]
            have gi : spG ok (dgC fr hs) (pw n) (Q * (pw n : Int)) p = p := spG_id _ _ (fun x a b => Or.inl (fun o => by
              have pr := (dg_pre (fr := fr) (h := h + 1) n Q x a (by rw [Int.add_mul, Int.one_mul]; omega)).1
              rw [show h + 1 + n = hs by omega] at pr
              have ox := (hok x (by have : 0 ≤ Q * (pw n : Int) := Int.mul_nonneg hP1 (by omega); omega)).1 o
              refine tst.2 (fun j j0 j1 => ?_) k
              have z := ox j h j0 j1 (by omega)
              rw [pr j j0 (by omega), pr h (by omega) (by omega)] at z
              exact z))
            rw [gi]
            have z := im (i + 1) (S.1, us S.2.1 h i, S.2.2) p (by omega) (by omega) (fun q a b => by show us S.2.1 h i q = _; rw [us_n (by omega)]; exact hT q a b) J1
            exact ⟨z.1, fun q a b => by rw [z.2 q a b]; show us S.2.1 h i q = _; rw [us_n (by omega)]⟩
          · rw [if_neg k]
            have tA := tst.1 k
            have r := ih (h + 1) Q (S.1, us S.2.1 h i, S.2.2) p (by omega) hP1 hT1 (fun a b a0 ab bh => by
              by_cases e : b = h
              · rw [e]; exact tA a a0 (by omega)
              · have z := hA a b a0 ab (by omega)
                rw [dv, us_n (by omega), us_n e]; exact z) J1
            rw [show (((h + 1 : Nat)) : Int) = (h : Int) + 1 by omega] at r
            have z := im (i + 1) _ _ (by omega) (by omega) (fun q a b => by
              rw [r.2 q a (by omega)]
              show us S.2.1 h i q = _
              rw [us_n (by omega)]; exact hT q a b) r.1
            exact ⟨z.1, fun q a b => by
              rw [z.2 q a b, r.2 q a (by omega)]
              show us S.2.1 h i q = _
              rw [us_n (by omega)]⟩
      have z := lp 10 0 S p (by omega) (by omega) hT J
      rw [show 10 * pw n = pw (n + 1) from Nat.mul_comm _ _, show (P * 10 + 0) * (pw n : Int) = P * ((pw (n + 1) : Nat) : Int) by rw [pw_s, Int.add_zero, Int.mul_assoc, Int.mul_comm 10]] at z
      exact z
end ZEQC
