section ZEQA
theorem hd_1 {C : zM} {t : Nat} {x y v : Int} (ht : t ≤ 25) (e : y ≠ x) : hrM (sm C (67 + 1) x v) t 67 x y = hd C t x y v (C (67 + 1) y) := by
  unfold hrM hd
  rw [lwf_of (C := C) (sm_n (by omega)) (sm_n (by omega)), sm_n (show 50 ≠ 67 + 1 by decide), sm_n (show 67 + 2 ≠ 67 + 1 by decide), sm_n (show 67 + 5 ≠ 67 + 1 by decide), sm_n (show 67 + 3 ≠ 67 + 1 by decide), sm_n (show 67 ≠ 67 + 1 by decide), sm_k, us_s, us_n e]
theorem hd_2 {C : zM} {t : Nat} {x y v : Int} (ht : t ≤ 25) (e : y ≠ x) : hrM (sm C (67 + 1) x v) t 67 y x = hd C t y x (C (67 + 1) y) v := by
  unfold hrM hd
  rw [lwf_of (C := C) (sm_n (by omega)) (sm_n (by omega)), sm_n (show 50 ≠ 67 + 1 by decide), sm_n (show 67 + 2 ≠ 67 + 1 by decide), sm_n (show 67 + 5 ≠ 67 + 1 by decide), sm_n (show 67 + 3 ≠ 67 + 1 by decide), sm_n (show 67 ≠ 67 + 1 by decide), sm_k, us_s, us_n e]
theorem zex_0 {f : Int → Int} : ∀ (n : Nat) (i : Int), zex f n i = 0 ↔ ∀ j : Int, i ≤ j → j < i + n → f j = 0
  | 0, i => ⟨fun _ j a b => by omega, fun _ => rfl⟩
  | n + 1, i => by
    have ih := zex_0 (f := f) n (i + 1)
    unfold zex
    by_cases c : f i = 0
    · rw [if_pos c, ih]
      constructor
      · intro h j a b
        by_cases e : j = i
        · rw [e]; exact c
        · exact h j (by omega) (by omega)
      · intro h j a b; exact h j (by omega) (by omega)
    · rw [if_neg c]
      constructor
      · intro h; exact absurd h (by decide)
      · intro h; exact absurd (h i (by omega) (by omega)) c
theorem ho_d {t : Nat} {C R : zM} {x v : Int} (h : RH t 67 1 C R) (hx : 0 ≤ x ∧ x < C t 2) (hv : 0 ≤ v ∧ v ≤ 99) : hoR (dlR R x v) 1 x = luB C t x v := by
  have n6 := h.n.1
  have g := h.dl (Or.inr rfl) (x := x) ⟨hx.1, by omega⟩ hv
  rw [show 6 * (1 : Int) + x = 6 + x by omega] at g
  have et : sm C (67 + 1) x v t 2 = C t 2 := by rw [sm_n (by have := h.2.2.2.2.1; omega)]
  have z := g.ho (x := x) (by rw [et]; exact hx)
  rw [et] at z
  show hoR (sm R 233 (6 + x) v) 1 x = _
  rw [z]
  unfold luB
  refine zbits_cong _ _ _ (fun j a b => ?_)
  show ite _ _ _ = 0 ↔ ite _ _ _ = 0
  by_cases e : j = x
  · rw [if_pos e, if_pos e]
  · rw [if_neg e, if_neg e, hd_2 h.2.2.2.2.1 e]
theorem hb_d {t : Nat} {C R : zM} {x v : Int} (h : RH t 67 1 C R) (hx : 0 ≤ x ∧ x < C t 2) (hv : 0 ≤ v ∧ v ≤ 99) : hbR (dlR R x v) 1 x = zbits (fun i => if i = x then 0 else hd C t x i v (C 68 i)) (C t 2).toNat 0 0 := by
  have n6 := h.n.1
  have g := h.dl (Or.inr rfl) (x := x) ⟨hx.1, by omega⟩ hv
  rw [show 6 * (1 : Int) + x = 6 + x by omega] at g
  have et : sm C (67 + 1) x v t 2 = C t 2 := by rw [sm_n (by have := h.2.2.2.2.1; omega)]
  have z := g.hb (x := x) (by rw [et]; exact hx)
  rw [et] at z
  show hbR (sm R 233 (6 + x) v) 1 x = _
  rw [z]
  refine zbits_cong _ _ _ (fun j a b => ?_)
  show ite _ _ _ = 0 ↔ ite _ _ _ = 0
  by_cases e : j = x
  · rw [if_pos e, if_pos e]
  · rw [if_neg e, if_neg e, hd_1 h.2.2.2.2.1 e]
theorem hid_eq {t : Nat} {C R : zM} {x : Int} (h : RH t 67 1 C R) (hx : 0 ≤ x ∧ x < C t 2) (v : Int) : hidV C t x v ≠ 0 ↔ (0 ≤ v ∧ v ≤ 99) ∧ hdR R x v = 0 := by
  have n6 := h.n.1
  unfold hidV
  by_cases c : 0 ≤ v ∧ v ≤ 99
  · have e1 := hb_d h hx c
    have e2 := ho_d h hx c
    have i1 := zbits_in (fun i => if i = x then 0 else hd C t x i v (C 68 i)) (C t 2).toNat 0 0 (by omega) (by omega) (by omega)
    have i2 : 0 ≤ luB C t x v ∧ luB C t x v ≤ 63 := zbits_in _ _ _ _ (by omega) (by omega) (by omega)
    have z : hdR R x v = 0 ↔ mtV C t x x v = 0 := by
      unfold hdR
      rw [e1, e2, or_0 i1 i2, zb_0 n6]
      unfold luB
      rw [zb_0 n6]
      unfold mtV
      rw [zex_0]
      constructor
      · rintro ⟨p, q⟩ j a b
        unfold mtf
        by_cases e : j = x
        · rw [if_pos (Or.inl e)]
        · have p1 := p j a (by omega)
          have q1 := q j a (by omega)
          rw [if_neg e] at p1 q1
          rw [if_neg (fun w => w.elim e e), if_neg]
          rintro (w | w)
          · exact w p1
          · exact w q1
      · intro w
        have w1 : ∀ j : Int, 0 ≤ j → j < C t 2 → j ≠ x → hd C t x j v (C 68 j) = 0 ∧ hd C t j x (C 68 j) v = 0 := fun j a b e => by
          have z := w j a (by omega)
          unfold mtf at z
          rw [if_neg (fun w => w.elim e e)] at z
          by_cases k : hd C t x j v (C 68 j) ≠ 0 ∨ hd C t j x (C 68 j) v ≠ 0
          · rw [if_pos k] at z; exact absurd z (by decide)
          · exact ⟨Classical.byContradiction (fun q => k (Or.inl q)), Classical.byContradiction (fun q => k (Or.inr q))⟩
        refine ⟨fun j a b => ?_, fun j a b => ?_⟩
        · by_cases e : j = x
          · rw [if_pos e]
          · rw [if_neg e]; exact (w1 j a b e).1
        · by_cases e : j = x
          · rw [if_pos e]
          · rw [if_neg e]; exact (w1 j a b e).2
    by_cases d : mtV C t x x v = 0
    · rw [if_pos ⟨c.1, c.2, d⟩]
      exact ⟨fun _ => ⟨c, z.2 d⟩, fun _ => by decide⟩
    · rw [if_neg (fun q => d q.2.2)]
      exact ⟨fun q => absurd rfl q, fun q => absurd (z.1 q.2) d⟩
  · rw [if_neg (fun q => c ⟨q.1, q.2.1⟩)]
    exact ⟨fun q => absurd rfl q, fun q => absurd q.1 c⟩
theorem db_0 {d : Int} (hd : 0 ≤ d ∧ d ≤ 99) : dbR d 0 = if 0 ≤ d ∧ d ≤ 99 then d else -1 := by
  unfold dbR
  rw [if_neg (by decide), show (0 : Int).tdiv 2 = 0 from rfl, Int.add_zero]
theorem db_1 {d s : Int} (hs : 1 ≤ s) : dbR d (2 * s - 1) = if 0 ≤ d - s ∧ d - s ≤ 99 then d - s else -1 := by
  unfold dbR
  rw [Int.tmod_eq_emod_of_nonneg (by omega), if_pos (by omega), show 2 * s - 1 + 1 = 2 * s by omega, Int.tdiv_eq_ediv_of_nonneg (by omega), show 2 * s / 2 = s by omega]
theorem db_2 {d s : Int} (hs : 1 ≤ s) : dbR d (2 * s) = if 0 ≤ d + s ∧ d + s ≤ 99 then d + s else -1 := by
  unfold dbR
  rw [Int.tmod_eq_emod_of_nonneg (by omega), if_neg (by omega), Int.tdiv_eq_ediv_of_nonneg (by omega), show 2 * s / 2 = s by omega]
theorem hi_s {f F : Int → Int} {d y k : Int} {n : Nat} (hF : ∀ v, F v ≠ 0 ↔ (0 ≤ v ∧ v ≤ 99) ∧ f v = 0) (e : dbR d k = if 0 ≤ y ∧ y ≤ 99 then y else -1) : hiR f d (n + 1) k = if F y ≠ 0 then y else hiR f d n (k + 1) := by
  have z := hF y
  show (if dbR d k < 0 then hiR f d n (k + 1) else if f (dbR d k) = 0 then dbR d k else hiR f d n (k + 1)) = _
  rw [e]
  by_cases c : 0 ≤ y ∧ y ≤ 99
  · rw [if_pos c, if_neg (by omega)]
    by_cases q : f y = 0
    · rw [if_pos q, if_pos (z.2 ⟨c, q⟩)]
    · rw [if_neg q, if_neg (fun w => q (z.1 w).2)]
  · rw [if_neg c, if_pos (by decide), if_neg (fun w => c (z.1 w).1)]
theorem hi_eq {f F : Int → Int} {d : Int} (hd : 0 ≤ d ∧ d ≤ 99) (hF : ∀ v, F v ≠ 0 ↔ (0 ≤ v ∧ v ≤ 99) ∧ f v = 0) : ∀ (n : Nat) (s : Int), 1 ≤ s → s + n = 100 → hiR f d (2 * n + 1) (2 * s - 1) = fhF F d n s
  | 0, s, h1, h2 => by
    rw [hi_s (n := 0) hF (db_1 h1), if_neg]
    · rfl
    · intro w
      have := (hF _).1 w
      omega
  | n + 1, s, h1, h2 => by
    rw [show 2 * (n + 1) + 1 = (2 * n + 1 + 1) + 1 by omega, hi_s hF (db_1 h1), show 2 * s - 1 + 1 = 2 * s by omega, hi_s hF (db_2 h1), show 2 * s + 1 = 2 * (s + 1) - 1 by omega, hi_eq hd hF n (s + 1) (by omega) (by omega)]
    rfl
theorem q_hide {f F : Int → Int} {d : Int} (hd : 0 ≤ d ∧ d ≤ 99) (hF : ∀ v, F v ≠ 0 ↔ (0 ≤ v ∧ v ≤ 99) ∧ f v = 0) : hiR f d 200 0 = fhF F d 100 0 := by
  rw [hi_s (n := 199) hF (db_0 hd), show (0 : Int) + 1 = 2 * 1 - 1 from rfl, show 199 = 2 * 99 + 1 from rfl, hi_eq hd hF 99 1 (by decide) (by decide)]
  show _ = if F (d - 0) ≠ 0 then d - 0 else if F (d + 0) ≠ 0 then d + 0 else fhF F d 99 (0 + 1)
  rw [show d - 0 = d by omega, Int.add_zero]
  by_cases c : F d ≠ 0
  · rw [if_pos c, if_pos c]
  · rw [if_neg c, if_neg c, if_neg c]; rfl
/-- luring one -/
theorem bc_1 : ∀ x : Fin 64, bcnt ((x.val : Nat) : Int) ≤ 6 ∧ ∀ j : Fin 6, kbit ((x.val : Nat) : Int) ((j.val : Nat) : Int) = 1 → 1 ≤ bcnt ((x.val : Nat) : Int) := by decide +kernel
theorem bc_p {x o : Int} (h : 0 ≤ x ∧ x ≤ 63) (ho : 0 ≤ o ∧ o < 6) : bcnt x ≤ 6 ∧ (kbit x o = 1 → 1 ≤ bcnt x) := by
  have z := bc_1 ⟨x.toNat, by omega⟩
  rw [show ((x.toNat : Nat) : Int) = x by omega] at z
  refine ⟨z.1, fun k => ?_⟩
  have q := z.2 ⟨o.toNat, by omega⟩
  rw [show ((o.toNat : Nat) : Int) = o by omega] at q
  exact q k
def stp (g : Int → Int) (p : Int × Int) (y : Int) : Int × Int := if g y < p.2 then (y, g y) else p
def LJr (bR few : Int) (p : Int × Int) : Prop := (bR = -2 ∧ p.1 = -2 ∧ p.2 = 7) ∨ (bR = p.1 ∧ 0 ≤ p.1 ∧ p.2 = few ∧ 1 ≤ few ∧ few ≤ 6)
theorem lu_s {f g : Int → Int} {o d y k bR few : Int} {n : Nat} {p : Int × Int} (ho : 0 ≤ o ∧ o < 6) (hf : ∀ v : Int, 0 ≤ v → v ≤ 99 → 0 ≤ f v ∧ f v ≤ 63) (hg : ∀ v : Int, g v = if 0 ≤ v ∧ v ≤ 99 then (if kbit (f v) o = 1 then bcnt (f v) else 7) else 7) (e : dbR d k = if 0 ≤ y ∧ y ≤ 99 then y else -1) (J : LJr bR few p) : ∃ bR' few', luR f o d (n + 1) k bR few = luR f o d n (k + 1) bR' few' ∧ LJr bR' few' (stp g p y) := by
  have s : luR f o d (n + 1) k bR few = if dbR d k < 0 then luR f o d n (k + 1) bR few else if kbit (f (dbR d k)) o = 0 ∨ (0 ≤ bR ∧ few ≤ myR (f (dbR d k))) then luR f o d n (k + 1) bR few else luR f o d n (k + 1) (dbR d k) (myR (f (dbR d k))) := rfl
  rw [s, e]
  have gy := hg y
  unfold stp
  by_cases c : 0 ≤ y ∧ y ≤ 99
  · have fy := hf y c.1 c.2
    have bp := bc_p fy ho
    rw [if_pos c, if_neg (by omega), my_eq fy]
    rw [if_pos c] at gy
    rcases kbit01 (f y) o with z | z
    · rw [if_pos (Or.inl z)]
      rw [if_neg (by omega)] at gy
      refine ⟨bR, few, rfl, ?_⟩
      rw [if_neg]
      · exact J
      · rw [gy]
        rcases J with ⟨_, _, j⟩ | ⟨_, _, j, j2, j3⟩ <;> omega
    · rw [if_pos z] at gy
      have b1 := bp.2 z
      rcases J with ⟨j1, j2, j3⟩ | ⟨j1, j2, j3, j4, j5⟩
      · rw [if_neg (by omega)]
        refine ⟨y, bcnt (f y), rfl, ?_⟩
        rw [if_pos (by omega)]
        exact Or.inr ⟨rfl, c.1, by rw [gy], b1, bp.1⟩
      · by_cases w : few ≤ bcnt (f y)
        · rw [if_pos (Or.inr ⟨by omega, w⟩)]
          refine ⟨bR, few, rfl, ?_⟩
          rw [if_neg (by omega)]
          exact Or.inr ⟨j1, j2, j3, j4, j5⟩
        · rw [if_neg (by omega)]
          refine ⟨y, bcnt (f y), rfl, ?_⟩
          rw [if_pos (by omega)]
          exact Or.inr ⟨rfl, c.1, by rw [gy], b1, bp.1⟩
  · rw [if_neg c, if_pos (by decide)]
    rw [if_neg c] at gy
    refine ⟨bR, few, rfl, ?_⟩
    rw [if_neg]
    · exact J
    · rcases J with ⟨_, _, j⟩ | ⟨_, _, j, j2, j3⟩ <;> omega
theorem lu_stay {f : Int → Int} {o d bR : Int} (ho : 0 ≤ o ∧ o < 6) (hf : ∀ v : Int, 0 ≤ v → v ≤ 99 → 0 ≤ f v ∧ f v ≤ 63) (hb : 0 ≤ bR) (hd : ∀ k, dbR d k < 0 ∨ (0 ≤ dbR d k ∧ dbR d k ≤ 99)) : ∀ (n : Nat) (k : Int), luR f o d n k bR 1 = bR
  | 0, k => rfl
  | n + 1, k => by
    have ih := lu_stay ho hf hb hd n (k + 1)
    show (if dbR d k < 0 then luR f o d n (k + 1) bR 1 else if kbit (f (dbR d k)) o = 0 ∨ (0 ≤ bR ∧ 1 ≤ myR (f (dbR d k))) then luR f o d n (k + 1) bR 1 else luR f o d n (k + 1) (dbR d k) (myR (f (dbR d k)))) = bR
    by_cases c : dbR d k < 0
    · rw [if_pos c]; exact ih
    · have r := (hd k).resolve_left c
      have fy := hf _ r.1 r.2
      have bp := bc_p fy ho
      rw [if_neg c, if_pos]
      · exact ih
      · rcases kbit01 (f (dbR d k)) o with z | z
        · exact Or.inl z
        · exact Or.inr ⟨hb, by rw [my_eq fy]; exact bp.2 z⟩
theorem db_r (d k : Int) : dbR d k < 0 ∨ (0 ≤ dbR d k ∧ dbR d k ≤ 99) := by
  unfold dbR
  split
  · split <;> omega
  · split <;> omega
theorem fl_s {g : Int → Int} {d s : Int} {n : Nat} {p : Int × Int} : flF g d (n + 1) s p.1 p.2 = if p.2 ≤ 1 then p.1 else flF g d n (s + 1) (stp g (stp g p (d - s)) (d + s)).1 (stp g (stp g p (d - s)) (d + s)).2 := by
  show (if p.2 ≤ 1 then p.1 else flF g d n (s + 1) (if g (d + s) < (if g (d - s) < p.2 then g (d - s) else p.2) then d + s else if g (d - s) < p.2 then d - s else p.1) (if g (d + s) < (if g (d - s) < p.2 then g (d - s) else p.2) then g (d + s) else if g (d - s) < p.2 then g (d - s) else p.2)) = _
  congr 1
  unfold stp
  by_cases c : g (d - s) < p.2
  · rw [if_pos c, if_pos c, if_pos c]
    by_cases e : g (d + s) < g (d - s)
    · rw [if_pos e, if_pos e, if_pos e]
    · rw [if_neg e, if_neg e, if_neg e]
  · rw [if_neg c, if_neg c, if_neg c]
    by_cases e : g (d + s) < p.2
    · rw [if_pos e, if_pos e, if_pos e]
    · rw [if_neg e, if_neg e, if_neg e]
theorem lu_end {f : Int → Int} {o d bR few : Int} {p : Int × Int} (ho : 0 ≤ o ∧ o < 6) (hf : ∀ v : Int, 0 ≤ v → v ≤ 99 → 0 ≤ f v ∧ f v ≤ 63) (J : LJr bR few p) (h : p.2 ≤ 1) (n : Nat) (k : Int) : luR f o d n k bR few = p.1 := by
  rcases J with ⟨_, _, j⟩ | ⟨j1, j2, j3, j4, j5⟩
  · omega
  · have : few = 1 := by omega
    rw [this, lu_stay ho hf (by omega) (db_r d) n k, j1]
theorem lu_eq {f g : Int → Int} {o d : Int} (ho : 0 ≤ o ∧ o < 6) (hd : 0 ≤ d ∧ d ≤ 99) (hf : ∀ v : Int, 0 ≤ v → v ≤ 99 → 0 ≤ f v ∧ f v ≤ 63) (hg : ∀ v : Int, g v = if 0 ≤ v ∧ v ≤ 99 then (if kbit (f v) o = 1 then bcnt (f v) else 7) else 7) : ∀ (n : Nat) (s bR few : Int) (p : Int × Int), 1 ≤ s → s + n = 100 → LJr bR few p → luR f o d (2 * n + 1) (2 * s - 1) bR few = flF g d n s p.1 p.2
  | 0, s, bR, few, p, h1, h2, J => by
    have e : luR f o d 1 (2 * s - 1) bR few = bR := by
      have q : dbR d (2 * s - 1) < 0 := by rw [db_1 h1, if_neg (by omega)]; decide
      show (if dbR d (2 * s - 1) < 0 then bR else _) = bR
      rw [if_pos q]
    show luR f o d 1 (2 * s - 1) bR few = p.1
    rw [e]
    rcases J with ⟨j1, j2, _⟩ | ⟨j1, _⟩
    · rw [j1, j2]
    · exact j1
  | n + 1, s, bR, few, p, h1, h2, J => by
    rw [fl_s]
    by_cases c : p.2 ≤ 1
    · rw [if_pos c]; exact lu_end ho hf J c _ _
    · rw [if_neg c, show 2 * (n + 1) + 1 = (2 * n + 1 + 1) + 1 by omega]
      obtain ⟨b1, f1, e1, J1⟩ := lu_s (n := 2 * n + 1 + 1) (f := f) (g := g) (d := d) (k := 2 * s - 1) ho hf hg (db_1 h1) J
      rw [e1, show 2 * s - 1 + 1 = 2 * s by omega]
      obtain ⟨b2, f2, e2, J2⟩ := lu_s (n := 2 * n + 1) (f := f) (g := g) (d := d) (k := 2 * s) ho hf hg (db_2 h1) J1
      rw [e2, show 2 * s + 1 = 2 * (s + 1) - 1 by omega]
      exact lu_eq ho hd hf hg n (s + 1) b2 f2 _ (by omega) (by omega) J2
theorem q_lure {f g : Int → Int} {o d : Int} (ho : 0 ≤ o ∧ o < 6) (hd : 0 ≤ d ∧ d ≤ 99) (hf : ∀ v : Int, 0 ≤ v → v ≤ 99 → 0 ≤ f v ∧ f v ≤ 63) (hg : ∀ v : Int, g v = if 0 ≤ v ∧ v ≤ 99 then (if kbit (f v) o = 1 then bcnt (f v) else 7) else 7) : luR f o d 200 0 (-2) 0 = flF g d 100 0 (-2) 7 := by
  obtain ⟨b1, f1, e1, J1⟩ := lu_s (n := 199) (f := f) (g := g) (d := d) (k := 0) (bR := -2) (few := 0) (p := (-2, 7)) ho hf hg (db_0 hd) (Or.inl ⟨rfl, rfl, rfl⟩)
  have z := lu_eq ho hd hf hg 99 1 b1 f1 _ (by decide) (by decide) J1
  rw [e1]
  have e : flF g d 100 0 (-2) 7 = flF g d 99 1 (stp g (-2, 7) d).1 (stp g (-2, 7) d).2 := by
    have q := fl_s (g := g) (d := d) (s := 0) (n := 99) (p := ((-2 : Int), (7 : Int)))
    rw [if_neg (by decide), show d - 0 = d by omega, Int.add_zero] at q
    have w : stp g (stp g (-2, 7) d) d = stp g (-2, 7) d := by
      unfold stp
      by_cases c : g d < 7
      · rw [if_pos c]; exact if_neg (fun z => absurd z (Int.lt_irrefl _))
      · rw [if_neg c, if_neg c]
    rw [w] at q
    exact q
  rw [e]
  exact z
theorem lu_g {t : Nat} {C R : zM} {x o : Int} (h : RH t 67 1 C R) (hx : 0 ≤ x ∧ x < C t 2) (v : Int) : luV C t x o v = if 0 ≤ v ∧ v ≤ 99 then (if kbit (hoR (dlR R x v) 1 x) o = 1 then bcnt (hoR (dlR R x v) 1 x) else 7) else 7 := by
  unfold luV
  by_cases c : 0 ≤ v ∧ v ≤ 99
  · rw [if_pos c, if_pos c, ho_d h hx c]
  · rw [if_neg c, if_neg c]
end ZEQA
