section ZEQB
/-- the best so far: fewest steps, then the lowest first dial, then the lowest second -/
def Dst (d e x y : Int) : Int := iabs (x - d) + iabs (y - e)
def Bst (ok : Int → Int → Prop) (d e : Int) (S : Int → Int → Prop) (x y : Int) : Prop := ok x y ∧ S x y ∧ ∀ x' y' : Int, S x' y' → ok x' y' → Dst d e x y < Dst d e x' y' ∨ (Dst d e x y = Dst d e x' y' ∧ (x < x' ∨ (x = x' ∧ y ≤ y')))
def GB (ok : Int → Int → Prop) (d e : Int) (S : Int → Int → Prop) (p : Int × Int) : Prop := (p.1 = -1 ∧ ∀ x y : Int, S x y → ¬ ok x y) ∨ ∃ x y : Int, (0 ≤ x ∧ x ≤ 99 ∧ 0 ≤ y ∧ y ≤ 99) ∧ p = (100 * x + y, Dst d e x y) ∧ Bst ok d e S x y
def Sxy (x y : Int) : Int → Int → Prop := fun x' y' => (0 ≤ x' ∧ x' < x ∧ 0 ≤ y' ∧ y' < 100) ∨ (x' = x ∧ 0 ≤ y' ∧ y' < y)
theorem GB.sub {ok : Int → Int → Prop} {d e : Int} {S S' : Int → Int → Prop} {p : Int × Int} (h : GB ok d e S p) (a : ∀ x y, S x y ↔ S' x y) : GB ok d e S' p := by
  rcases h with ⟨h1, h2⟩ | ⟨x, y, r, hp, o, s, m⟩
  · exact Or.inl ⟨h1, fun x y q => h2 x y ((a x y).2 q)⟩
  · exact Or.inr ⟨x, y, r, hp, o, (a x y).1 s, fun x' y' q w => m x' y' ((a x' y').2 q) w⟩
theorem si_eq {ok : Int → Int → Prop} {f : Int → Int} {d e x : Int} (hx : 0 ≤ x ∧ x ≤ 99) (hf : ∀ y : Int, 0 ≤ y → y ≤ 99 → (f y ≠ 0 ↔ ok x y)) : ∀ (n : Nat) (y : Int) (p : Int × Int), 0 ≤ y → y + n = 100 → GB ok d e (Sxy x y) p → GB ok d e (Sxy x 100) (siR f x d e n y p)
  | 0, y, p, _, h1, h => h.sub (fun x' y' => by unfold Sxy; omega)
  | n + 1, y, p, h0, h1, h => by
    unfold siR
    refine si_eq hx hf n (y + 1) _ (by omega) (by omega) ?_
    have fy := hf y h0 (by omega)
    have ed : iabs (x - d) + iabs (y - e) = Dst d e x y := rfl
    rw [ed]
    have st : ∀ x' y', Sxy x (y + 1) x' y' → Sxy x y x' y' ∨ (x' = x ∧ y' = y) := fun x' y' q => by unfold Sxy at *; omega
    have ts : ∀ x' y', Sxy x y x' y' → Sxy x (y + 1) x' y' := fun x' y' q => by unfold Sxy at *; omega
    have me : Sxy x (y + 1) x y := by unfold Sxy; omega
    rcases h with ⟨g1, g2⟩ | ⟨u, v, r, hp, o, s, m⟩
    · rw [if_neg (by omega)]
      by_cases c : f y = 0
      · rw [if_pos c]
        refine Or.inl ⟨g1, fun x' y' q w => ?_⟩
        rcases st x' y' q with z | ⟨z1, z2⟩
        · exact g2 x' y' z w
        · rw [z1, z2] at w; exact fy.2 w c
      · rw [if_neg c]
        refine Or.inr ⟨x, y, ⟨hx.1, hx.2, h0, by omega⟩, rfl, fy.1 c, me, fun x' y' q w => ?_⟩
        rcases st x' y' q with z | ⟨z1, z2⟩
        · exact absurd w (g2 x' y' z)
        · rw [z1, z2]; exact Or.inr ⟨rfl, Or.inr ⟨rfl, Int.le_refl _⟩⟩
    · have p2 : p.2 = Dst d e u v := by rw [hp]
      have p1 : p.1 = 100 * u + v := by rw [hp]
      rw [p1, p2]
      have lx : u < x ∨ (u = x ∧ v < y) := by unfold Sxy at s; omega
      by_cases c : Dst d e u v ≤ Dst d e x y
      · rw [if_pos ⟨by omega, c⟩]
        refine Or.inr ⟨u, v, r, hp, o, ts _ _ s, fun x' y' q w => ?_⟩
        rcases st x' y' q with z | ⟨z1, z2⟩
        · exact m x' y' z w
        · rw [z1, z2]; omega
      · rw [if_neg (fun z => c z.2)]
        by_cases k : f y = 0
        · rw [if_pos k]
          refine Or.inr ⟨u, v, r, hp, o, ts _ _ s, fun x' y' q w => ?_⟩
          rcases st x' y' q with z | ⟨z1, z2⟩
          · exact m x' y' z w
          · rw [z1, z2] at w; exact absurd k (fy.2 w)
        · rw [if_neg k]
          refine Or.inr ⟨x, y, ⟨hx.1, hx.2, h0, by omega⟩, rfl, fy.1 k, me, fun x' y' q w => ?_⟩
          rcases st x' y' q with z | ⟨z1, z2⟩
          · have := m x' y' z w
            refine Or.inl ?_
            omega
          · rw [z1, z2]; exact Or.inr ⟨rfl, Or.inr ⟨rfl, Int.le_refl _⟩⟩
theorem so_o {ok : Int → Int → Prop} {f : Int → Int → Int} {d e : Int} (hf : ∀ x y : Int, 0 ≤ x → x ≤ 99 → 0 ≤ y → y ≤ 99 → (f x y ≠ 0 ↔ ok x y)) : ∀ (n : Nat) (x : Int) (p : Int × Int), 0 ≤ x → x + n = 100 → GB ok d e (Sxy x 0) p → GB ok d e (Sxy 100 0) (soO f d e n x p)
  | 0, x, p, _, h1, h => h.sub (fun x' y' => by unfold Sxy; omega)
  | n + 1, x, p, h0, h1, h => by
    unfold soO
    refine so_o hf n (x + 1) _ (by omega) (by omega) ?_
    have z := si_eq (ok := ok) (f := f x) (d := d) (e := e) (x := x) ⟨h0, by omega⟩ (fun y a b => hf x y h0 (by omega) a b) 100 0 p (by omega) (by omega) h
    exact z.sub (fun x' y' => by unfold Sxy; omega)
/-- the class's way: by steps, then by the first dial -/
abbrev okC (M : zM) (t : Nat) (h o x y : Int) : Prop := mtV M t h o x = 0 ∧ prV M t h o x y ≠ 0
theorem iabs_e {a b k : Int} (hk : 0 ≤ k) (h : iabs (a - b) = k) : a = b - k ∨ a = b + k := by unfold iabs at h; split at h <;> omega
theorem iabs_m {b k : Int} (hk : 0 ≤ k) : iabs (b - k - b) = k ∧ iabs (b + k - b) = k := by unfold iabs; constructor <;> split <;> omega
theorem fp_i {M : zM} {t : Nat} {h o d e s : Int} : ∀ (n : Nat) (x : Int), (∀ x' : Int, x ≤ x' → x' < x + n → iabs (x' - d) ≤ s) → (fpI M t h o d e s n x = none ∧ ∀ x' y' : Int, x ≤ x' → x' < x + n → okC M t h o x' y' → Dst d e x' y' ≠ s) ∨ (∃ u v, fpI M t h o d e s n x = some (u, v) ∧ (x ≤ u ∧ u < x + n) ∧ okC M t h o u v ∧ Dst d e u v = s ∧ ∀ x' y' : Int, x ≤ x' → x' < x + n → okC M t h o x' y' → Dst d e x' y' = s → u < x' ∨ (u = x' ∧ v ≤ y'))
  | 0, x, _ => Or.inl ⟨rfl, fun x' y' a b => by omega⟩
  | n + 1, x, hr => by
    have k0 := hr x (by omega) (by omega)
    have im := iabs_m (b := e) (k := s - iabs (x - d)) (by omega)
    have dx : ∀ y', Dst d e x y' = s → y' = e - (s - iabs (x - d)) ∨ y' = e + (s - iabs (x - d)) := fun y' q => iabs_e (by omega) (by unfold Dst at q; omega)
    unfold fpI
    by_cases c1 : mtV M t h o x = 0 ∧ prV M t h o x (e - (s - iabs (x - d))) ≠ 0
    · rw [if_pos c1]
      refine Or.inr ⟨x, _, rfl, by omega, c1, by unfold Dst; omega, fun x' y' a b k q => ?_⟩
      by_cases z : x' = x
      · refine Or.inr ⟨z.symm, ?_⟩
        rw [z] at q
        rcases dx y' q with w | w <;> omega
      · exact Or.inl (by omega)
    · rw [if_neg c1]
      by_cases c2 : mtV M t h o x = 0 ∧ prV M t h o x (e + (s - iabs (x - d))) ≠ 0
      · rw [if_pos c2]
        refine Or.inr ⟨x, _, rfl, by omega, c2, by unfold Dst; omega, fun x' y' a b k q => ?_⟩
        by_cases z : x' = x
        · refine Or.inr ⟨z.symm, ?_⟩
          rw [z] at q k
          rcases dx y' q with w | w
          · rw [w] at k; exact absurd k c1
          · omega
        · exact Or.inl (by omega)
      · rw [if_neg c2]
        rcases fp_i (M := M) (t := t) (h := h) (o := o) (d := d) (e := e) (s := s) n (x + 1) (fun x' a b => hr x' (by omega) (by omega)) with ⟨z1, z2⟩ | ⟨u, v, z1, z2, z3, z4, z5⟩
        · refine Or.inl ⟨z1, fun x' y' a b k q => ?_⟩
          by_cases z : x' = x
          · rw [z] at q k
            rcases dx y' q with w | w
            · rw [w] at k; exact c1 k
            · rw [w] at k; exact c2 k
          · exact z2 x' y' (by omega) (by omega) k q
        · refine Or.inr ⟨u, v, z1, by omega, z3, z4, fun x' y' a b k q => ?_⟩
          by_cases z : x' = x
          · rw [z] at q k
            rcases dx y' q with w | w
            · rw [w] at k; exact absurd k c1
            · rw [w] at k; exact absurd k c2
          · exact z5 x' y' (by omega) (by omega) k q
theorem fp_o {M : zM} {t : Nat} {h o d e : Int} (hd : 0 ≤ d ∧ d ≤ 99) : ∀ (n : Nat) (s : Int), 0 ≤ s → (fpO M t h o d e n s = none ∧ ∀ x' y' : Int, 0 ≤ x' → x' ≤ 99 → okC M t h o x' y' → Dst d e x' y' < s ∨ s + n ≤ Dst d e x' y') ∨ (∃ u v s', fpO M t h o d e n s = some (u, v, s') ∧ (0 ≤ u ∧ u ≤ 99) ∧ okC M t h o u v ∧ Dst d e u v = s' ∧ ∀ x' y' : Int, 0 ≤ x' → x' ≤ 99 → okC M t h o x' y' → Dst d e x' y' < s ∨ s' < Dst d e x' y' ∨ (s' = Dst d e x' y' ∧ (u < x' ∨ (u = x' ∧ v ≤ y'))))
  | 0, s, _ => Or.inl ⟨rfl, fun x' y' _ _ _ => by omega⟩
  | n + 1, s, h0 => by
    have lo : (0 : Int) ≤ (if 0 < d - s then d - s else 0) ∧ (if 0 < d - s then d - s else 0) ≤ d := by split <;> omega
    have hi : d ≤ (if d + s < 99 then d + s else 99) ∧ (if d + s < 99 then d + s else 99) ≤ 99 := by split <;> omega
    obtain ⟨a, ea⟩ : ∃ a, a = (if 0 < d - s then d - s else (0 : Int)) := ⟨_, rfl⟩
    obtain ⟨b, eb⟩ : ∃ b, b = (if d + s < 99 then d + s else (99 : Int)) := ⟨_, rfl⟩
    have eO : fpO M t h o d e (n + 1) s = match fpI M t h o d e s (b - a + 1).toNat a with | some p => some (p.1, p.2, s) | none => fpO M t h o d e n (s + 1) := by rw [ea, eb]; rfl
    rw [← ea] at lo
    rw [← eb] at hi
    have ina : ∀ x' : Int, 0 ≤ x' → x' ≤ 99 → iabs (x' - d) ≤ s → a ≤ x' ∧ x' ≤ b := fun x' p q w => by
      rw [ea, eb]
      unfold iabs at w
      split at w <;> split <;> split <;> omega
    have inb : ∀ x' : Int, a ≤ x' → x' ≤ b → iabs (x' - d) ≤ s := fun x' p q => by
      rw [ea] at p
      rw [eb] at q
      unfold iabs
      split at p <;> split at q <;> split <;> omega
    have dn : ∀ x' y' : Int, iabs (x' - d) ≤ Dst d e x' y' := fun x' y' => by unfold Dst; have := (iabs_b (y' - e)).1; omega
    rw [eO]
    rcases fp_i (M := M) (t := t) (h := h) (o := o) (d := d) (e := e) (s := s) (b - a + 1).toNat a (fun x' p q => inb x' p (by omega)) with ⟨z1, z2⟩ | ⟨u, v, z1, z2, z3, z4, z5⟩
    · rw [z1]
      have ne : ∀ x' y' : Int, 0 ≤ x' → x' ≤ 99 → okC M t h o x' y' → Dst d e x' y' ≠ s := fun x' y' p q k w => by
        have r := ina x' p q (by have := dn x' y'; omega)
        exact z2 x' y' r.1 (by omega) k w
      rcases fp_o (M := M) (t := t) (h := h) (o := o) (d := d) (e := e) hd n (s + 1) (by omega) with ⟨w1, w2⟩ | ⟨u, v, s', w1, w2, w3, w4, w5⟩
      · refine Or.inl ⟨w1, fun x' y' p q k => ?_⟩
        have := w2 x' y' p q k
        have := ne x' y' p q k
        omega
      · refine Or.inr ⟨u, v, s', w1, w2, w3, w4, fun x' y' p q k => ?_⟩
        have := w5 x' y' p q k
        have := ne x' y' p q k
        omega
    · rw [z1]
      refine Or.inr ⟨u, v, s, rfl, by omega, z3, z4, fun x' y' p q k => ?_⟩
      by_cases w : Dst d e x' y' = s
      · have r := ina x' p q (by have := dn x' y'; omega)
        exact Or.inr (Or.inr ⟨w.symm, z5 x' y' r.1 (by omega) k w⟩)
      · omega
theorem q_secret0 {M : zM} {t : Nat} {h o d e w : Int} {f : Int → Int → Int} (hdd : 0 ≤ d ∧ d ≤ 99) (he : 0 ≤ e ∧ e ≤ 99) (hw : 0 ≤ w ∧ w ≤ 2) (hf : ∀ x y : Int, 0 ≤ x → x ≤ 99 → 0 ≤ y → y ≤ 99 → (f x y ≠ 0 ↔ okC M t h o x y)) : svR w (soO f d e 100 0 (-1, 0)) = scV w (fpO M t h o d e 199 0) := by
  have yr : ∀ x y : Int, okC M t h o x y → 0 ≤ y ∧ y ≤ 99 := fun x y k => by
    have z := k.2
    unfold prV at z
    by_cases c : 0 ≤ y ∧ y ≤ 99 ∧ mtV M t o h y = 0 ∧ hd M t h o x y ≠ 0 ∧ hd M t o h y x ≠ 0
    · exact ⟨c.1, c.2.1⟩
    · rw [if_neg c] at z; exact absurd rfl z
  have g := so_o (ok := okC M t h o) (f := f) (d := d) (e := e) hf 100 0 (-1, 0) (by omega) (by omega) (Or.inl ⟨rfl, fun x y q => by unfold Sxy at q; omega⟩)
  have cls := fp_o (M := M) (t := t) (h := h) (o := o) (d := d) (e := e) hdd 199 0 (by omega)
  have D0 : ∀ x y : Int, 0 ≤ x → x ≤ 99 → 0 ≤ y → y ≤ 99 → 0 ≤ Dst d e x y ∧ Dst d e x y ≤ 198 := fun x y a b c k => by
    unfold Dst iabs
    split <;> split <;> omega
  rcases cls with ⟨c1, c2⟩ | ⟨u, v, s', c1, c2, c3, c4, c5⟩
  · rcases g with ⟨g1, g2⟩ | ⟨x, y, r, hp, o1, s, m⟩
    · rw [c1]
      unfold svR scV
      rw [if_pos (by omega)]
    · have := c2 x y r.1 r.2.1 o1
      have := D0 x y r.1 r.2.1 r.2.2.1 r.2.2.2
      omega
  · have vr := yr u v c3
    rcases g with ⟨g1, g2⟩ | ⟨x, y, r, hp, o1, s, m⟩
    · exact absurd c3 (g2 u v (Or.inl (by omega)))
    · have m1 := m u v (Or.inl (by omega)) c3
      have m2 := c5 x y r.1 r.2.1 o1
      have p0 := D0 x y r.1 r.2.1 r.2.2.1 r.2.2.2
      have eu : x = u := by omega
      have ev : y = v := by omega
      rw [c1, hp]
      unfold svR scV
      have td := Int.tdiv_eq_ediv_of_nonneg (a := 100 * x + y) (b := 100) (by omega)
      have tm := Int.tmod_eq_emod_of_nonneg (a := 100 * x + y) (b := 100) (by omega)
      show (if 100 * x + y < 0 then -2 else if w = 0 then (100 * x + y).tdiv 100 else if w = 1 then (100 * x + y).tmod 100 else Dst d e x y) = if w = 0 then u else if w = 1 then v else s'
      rw [if_neg (by omega), td, tm, eu, ev, show (100 * u + v) / 100 = u by omega, show (100 * u + v) % 100 = v by omega, c4]
theorem zall_1 {f : Int → Int} : ∀ (n : Nat) (i : Int), zall f n i ≠ 0 ↔ ∀ j : Int, i ≤ j → j < i + n → f j ≠ 0
  | 0, i => ⟨fun _ j a b => by omega, fun _ => by show (1 : Int) ≠ 0; decide⟩
  | n + 1, i => by
    have ih := zall_1 (f := f) n (i + 1)
    unfold zall
    by_cases c : f i = 0
    · rw [if_pos c]
      exact ⟨fun q => absurd rfl q, fun q => absurd c (q i (by omega) (by omega))⟩
    · rw [if_neg c, ih]
      constructor
      · intro q j a b
        by_cases e : j = i
        · rw [e]; exact c
        · exact q j (by omega) (by omega)
      · intro q j a b; exact q j (by omega) (by omega)
theorem hr_d2 {C : zM} {t : Nat} {a c x y p q : Int} (ht : t ≤ 25) : hrM (sm (sm C (67 + 1) a x) (67 + 1) c y) t 67 p q = hd C t p q (us (us (C (67 + 1)) a x) c y p) (us (us (C (67 + 1)) a x) c y q) := by
  unfold hrM hd
  rw [lwf_of (C := C) (by rw [sm_n (by omega), sm_n (by omega)]) (by rw [sm_n (by omega), sm_n (by omega)])]
  simp (disch := decide) only [sm_n, sm_k]
theorem se_eq {t : Nat} {C R : zM} {a c x y : Int} (h : RH t 67 1 C R) (ha : 0 ≤ a ∧ a < C t 2) (hc : 0 ≤ c ∧ c < C t 2) (ne : a ≠ c) (hx : 0 ≤ x ∧ x ≤ 99) (hy : 0 ≤ y ∧ y ≤ 99) : seF R a c x y ≠ 0 ↔ okC C t a c x y := by
  have n6 := h.n.1
  have ht := h.2.2.2.2.1
  have g := (h.dl (Or.inr rfl) (x := a) ⟨ha.1, by omega⟩ hx).dl (Or.inr rfl) (x := c) ⟨hc.1, by omega⟩ hy
  rw [show 6 * (1 : Int) + a = 6 + a by omega, show 6 * (1 : Int) + c = 6 + c by omega] at g
  have et : sm (sm C (67 + 1) a x) (67 + 1) c y t 2 = C t 2 := by rw [sm_n (by omega), sm_n (by omega)]
  have e12 : d2R R a c x y 209 12 = C t 2 := by have := g.n.2; rw [et] at this; exact this
  have hr : ∀ p q : Int, 0 ≤ p → p < C t 2 → 0 ≤ q → q < C t 2 → p ≠ q → hrR (d2R R a c x y) 1 p q = hd C t p q (us (us (C (67 + 1)) a x) c y p) (us (us (C (67 + 1)) a x) c y q) := fun p q p0 p1 q0 q1 pq => by
    have z := g.hr (x := p) (y := q) (by rw [et]; exact ⟨p0, p1⟩) (by rw [et]; exact ⟨q0, q1⟩)
    rw [if_neg pq, hr_d2 ht] at z
    exact z
  have ua : us (us (C (67 + 1)) a x) c y a = x := by rw [us_n ne, us_s]
  have uc : us (us (C (67 + 1)) a x) c y c = y := us_s _ _ _
  have uo : ∀ o : Int, o ≠ a → o ≠ c → us (us (C (67 + 1)) a x) c y o = C 68 o := fun o p q => by rw [us_n q, us_n p]
  have h1 := hr a c ha.1 ha.2 hc.1 hc.2 ne
  have h2 := hr c a hc.1 hc.2 ha.1 ha.2 (Ne.symm ne)
  rw [ua, uc] at h1 h2
  have mt1 : ∀ p b v : Int, (mtV C t p b v = 0 ↔ ∀ j : Int, 0 ≤ j → j < C t 2 → j ≠ p → j ≠ b → hd C t p j v (C 68 j) = 0 ∧ hd C t j p (C 68 j) v = 0) := fun p b v => by
    unfold mtV
    rw [zex_0]
    constructor
    · intro w j j0 j1 e1 e2
      have z := w j j0 (by omega)
      unfold mtf at z
      rw [if_neg (fun w => w.elim e1 e2)] at z
      by_cases k : hd C t p j v (C 68 j) ≠ 0 ∨ hd C t j p (C 68 j) v ≠ 0
      · rw [if_pos k] at z; exact absurd z (by decide)
      · exact ⟨Classical.byContradiction (fun q => k (Or.inl q)), Classical.byContradiction (fun q => k (Or.inr q))⟩
    · intro w j j0 j1
      unfold mtf
      by_cases e : j = p ∨ j = b
      · rw [if_pos e]
      · rw [if_neg e, if_neg]
        have z := w j j0 (by omega) (fun q => e (Or.inl q)) (fun q => e (Or.inr q))
        rintro (k | k)
        · exact k z.1
        · exact k z.2
  have pr : prV C t a c x y ≠ 0 ↔ mtV C t c a y = 0 ∧ hd C t a c x y ≠ 0 ∧ hd C t c a y x ≠ 0 := by
    unfold prV
    by_cases k : 0 ≤ y ∧ y ≤ 99 ∧ mtV C t c a y = 0 ∧ hd C t a c x y ≠ 0 ∧ hd C t c a y x ≠ 0
    · rw [if_pos k]; exact ⟨fun _ => k.2.2, fun _ => by decide⟩
    · rw [if_neg k]; exact ⟨fun q => absurd rfl q, fun q => absurd ⟨hy.1, hy.2, q⟩ k⟩
  unfold okC
  rw [pr, mt1, mt1]
  unfold seF seR
  rw [h1, h2, e12]
  by_cases k : hd C t a c x y = 0 ∨ hd C t c a y x = 0
  · rw [if_pos k]
    exact ⟨fun q => absurd rfl q, fun q => k.elim (fun z => absurd z q.2.2.1) (fun z => absurd z q.2.2.2)⟩
  · rw [if_neg k, zall_1]
    have k1 : hd C t a c x y ≠ 0 := fun q => k (Or.inl q)
    have k2 : hd C t c a y x ≠ 0 := fun q => k (Or.inr q)
    constructor
    · intro w
      have v : ∀ j : Int, 0 ≤ j → j < C t 2 → j ≠ a → j ≠ c → (hd C t a j x (C 68 j) = 0 ∧ hd C t c j y (C 68 j) = 0) ∧ (hd C t j a (C 68 j) x = 0 ∧ hd C t j c (C 68 j) y = 0) := fun j j0 j1 e1 e2 => by
        have z := w j j0 (by omega)
        rw [if_neg (fun q => q.elim e1 e2)] at z
        have z1 := hr a j ha.1 ha.2 j0 j1 (Ne.symm e1)
        have z2 := hr c j hc.1 hc.2 j0 j1 (Ne.symm e2)
        have z3 := hr j a j0 j1 ha.1 ha.2 e1
        have z4 := hr j c j0 j1 hc.1 hc.2 e2
        rw [ua, uo j e1 e2] at z1 z3
        rw [uc, uo j e1 e2] at z2 z4
        rw [z1, z2, z3, z4] at z
        by_cases q : hd C t a j x (C 68 j) ≠ 0 ∨ hd C t c j y (C 68 j) ≠ 0 ∨ hd C t j a (C 68 j) x ≠ 0 ∨ hd C t j c (C 68 j) y ≠ 0
        · rw [if_pos q] at z; exact absurd rfl z
        · omega
      exact ⟨fun j j0 j1 e1 e2 => ⟨(v j j0 j1 e1 e2).1.1, (v j j0 j1 e1 e2).2.1⟩, fun j j0 j1 e1 e2 => ⟨(v j j0 j1 e2 e1).1.2, (v j j0 j1 e2 e1).2.2⟩, k1, k2⟩
    · rintro ⟨m1, m2, _, _⟩ j j0 j1
      by_cases e : j = a ∨ j = c
      · rw [if_pos e]; decide
      · have e1 : j ≠ a := fun q => e (Or.inl q)
        have e2 : j ≠ c := fun q => e (Or.inr q)
        have z1 := hr a j ha.1 ha.2 j0 (by omega) (Ne.symm e1)
        have z2 := hr c j hc.1 hc.2 j0 (by omega) (Ne.symm e2)
        have z3 := hr j a j0 (by omega) ha.1 ha.2 e1
        have z4 := hr j c j0 (by omega) hc.1 hc.2 e2
        rw [ua, uo j e1 e2] at z1 z3
        rw [uc, uo j e1 e2] at z2 z4
        have a1 := m1 j j0 (by omega) e1 e2
        have a2 := m2 j j0 (by omega) e2 e1
        rw [if_neg e, if_neg]
        · decide
        · rw [z1, z2, z3, z4]; omega
end ZEQB
