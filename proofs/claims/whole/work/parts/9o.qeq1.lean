section ZEQ4
theorem zbits_k {f : Int → Int} {n : Int} (hn : 0 ≤ n ∧ n ≤ 6) (h : ∀ j : Int, 0 ≤ j → j < 6 → n ≤ j → f j = 0) : zbits f n.toNat 0 0 = zbits f 6 0 0 := by
  have g := fun j a b c => h j a b c
  rcases n6 hn with ⟨e, e2⟩ | ⟨e, e2⟩ | ⟨e, e2⟩ | ⟨e, e2⟩ | ⟨e, e2⟩ | ⟨e, e2⟩ | ⟨e, e2⟩ <;> rw [e] <;> simp only [zbits] <;>
    (try have g0 := g 0 (by omega) (by omega) (by omega)) <;> (try have g1 := g (0 + 1) (by omega) (by omega) (by omega)) <;> (try have g2 := g (0 + 1 + 1) (by omega) (by omega) (by omega)) <;> (try have g3 := g (0 + 1 + 1 + 1) (by omega) (by omega) (by omega)) <;> (try have g4 := g (0 + 1 + 1 + 1 + 1) (by omega) (by omega) (by omega)) <;> (try have g5 := g (0 + 1 + 1 + 1 + 1 + 1) (by omega) (by omega) (by omega)) <;>
    (try rw [if_pos g5]) <;> (try rw [if_pos g4]) <;> (try rw [if_pos g3]) <;> (try rw [if_pos g2]) <;> (try rw [if_pos g1]) <;> (try rw [if_pos g0])
theorem zb_dec : ∀ x : Fin 64, zbits (fun o => kbit ((x.val : Nat) : Int) o) 6 0 0 = ((x.val : Nat) : Int) := by decide +kernel
theorem zb_eq {x : Int} (h : 0 ≤ x ∧ x ≤ 63) : zbits (fun o => kbit x o) 6 0 0 = x := by
  have z := zb_dec ⟨x.toNat, by omega⟩
  rw [show ((x.toNat : Nat) : Int) = x by omega] at z
  exact z
/-- whom one knows, who knows one -/
theorem kn_eq {t a : Nat} {b x : Int} {C R : zM} (k : TKp t C R) (s : SRl t a b C R) (i : ToI C t ∧ StI C a) (hx : 0 ≤ x ∧ x < 6) : knR R b x = C (a + 3) x := by
  have n := i.1.1
  unfold knR
  rw [k.1.1, zbits_k n (fun j a b c => by
    have w := s.2.2.2.1 x j hx.1 hx.2 a b
    rw [show ∀ q : Int, 36 * q + 6 * x + j = 36 * q + (6 * x + j) from fun q => by omega] at w
    exact w.2 (Or.inr c))]
  have e : zbits (fun o => R 237 (36 * b + (6 * x + o))) 6 0 0 = zbits (fun o => kbit (C (a + 3) x) o) 6 0 0 := zbits_cong _ _ _ (fun j j0 j1 => by
    have w := s.2.2.2.1 x j hx.1 hx.2 j0 (by omega)
    rw [show 36 * b + 6 * x + j = 36 * b + (6 * x + j) by omega] at w
    rw [w.1])
  rw [e]
  exact zb_eq (i.2.2.2.1 x hx.1 hx.2)
theorem kw_eq {t a : Nat} {b x : Int} {C R : zM} (k : TKp t C R) (s : SRl t a b C R) (i : ToI C t ∧ StI C a) (hx : 0 ≤ x ∧ x < 6) : kwR R b x = kwC C a x := by
  have n := i.1.1
  unfold kwR kwC
  rw [k.1.1, zbits_k n (fun j a b c => by
    have w := s.2.2.2.1 j x a b hx.1 hx.2
    rw [show ∀ q : Int, 36 * q + 6 * j + x = 36 * q + (6 * j + x) from fun q => by omega] at w
    exact w.2 (Or.inl c))]
  exact zbits_cong _ _ _ (fun j j0 j1 => by
    have w := s.2.2.2.1 j x j0 (by omega) hx.1 hx.2
    rw [show 36 * b + 6 * j + x = 36 * b + (6 * j + x) by omega] at w
    rw [w.1])
theorem rfI_cg {b b' : Int → Int} {rc : Int} : ∀ (n : Nat) (i mo : Int), (∀ j, i ≤ j → j < i + n → b j = b' j) → rfI b rc n i mo = rfI b' rc n i mo
  | 0, i, mo, _ => rfl
  | n + 1, i, mo, h => by
    unfold rfI
    rw [h i (by omega) (by omega), rfI_cg n (i + 1) _ (fun j x y => h j (by omega) (by omega))]
theorem rfO_cg {b b' : Int → Int} {hs : Nat} (h : ∀ j : Int, 0 ≤ j → j < hs → b j = b' j) : ∀ (n : Nat) (rc : Int), rfO b hs n rc = rfO b' hs n rc
  | 0, rc => rfl
  | n + 1, rc => by
    unfold rfO
    rw [rfI_cg hs 0 rc (fun j x y => h j x (by omega)), rfO_cg h n]
theorem q_passed {t : Nat} {C R Mb : zM} (h : RN t C R) (hb : Pb R Mb) (n : Nat) (x : Int) : rfO (hoR Mb 0) (R 209 12).toNat n x = rfO (fun j => hoC C t j) (C t 2).toNat n x := by
  have n6 := h.2.2.2.1.1.1
  rw [h.1.1.1]
  exact rfO_cg (fun j a b => (h.pb hb).ho ⟨a, by omega⟩) n x
theorem q_gossip {t : Nat} {C R : zM} (h : RN t C R) (n : Nat) (x : Int) : rfO (knR R 0) (R 209 12).toNat n x = rfO (fun j => C 64 j) (C t 2).toNat n x := by
  have n6 := h.2.2.2.1.1.1
  rw [h.1.1.1]
  exact rfO_cg (fun j a b => kn_eq h.1 h.2.1 h.2.2.2.1 ⟨a, by omega⟩) n x
theorem or_dec : ∀ x y : Fin 64, (b_ior ((x.val : Nat) : Int) ((y.val : Nat) : Int) = 0 ↔ x.val = 0 ∧ y.val = 0) := by decide +kernel
theorem or_0 {x y : Int} (hx : 0 ≤ x ∧ x ≤ 63) (hy : 0 ≤ y ∧ y ≤ 63) : b_ior x y = 0 ↔ x = 0 ∧ y = 0 := by
  have z := or_dec ⟨x.toNat, by omega⟩ ⟨y.toNat, by omega⟩
  rw [show ((x.toNat : Nat) : Int) = x by omega, show ((y.toNat : Nat) : Int) = y by omega] at z
  rw [z]
  constructor
  · rintro ⟨a, b⟩
    have a' : x.toNat = 0 := a
    have b' : y.toNat = 0 := b
    omega
  · rintro ⟨a, b⟩
    exact ⟨show x.toNat = 0 by omega, show y.toNat = 0 by omega⟩
theorem q_alone {t : Nat} {C R Mb : zM} (h : RN t C R) (hb : Pb R Mb) : zbits (fun x => if b_ior (hbR Mb 0 x) (hoR Mb 0 x) = 0 then 1 else 0) (R 209 12).toNat 0 0 = zbits (fun j => if hbC C t j = 0 ∧ hoC C t j = 0 then 1 else 0) (C t 2).toNat 0 0 := by
  have n6 := h.2.2.2.1.1.1
  have rh := h.pb hb
  rw [h.1.1.1]
  refine zbits_cong _ _ _ (fun j a b => ?_)
  have e1 : hbR Mb 0 j = hbC C t j := rh.hb ⟨a, by omega⟩
  have e2 : hoR Mb 0 j = hoC C t j := rh.ho ⟨a, by omega⟩
  have i1 : 0 ≤ hbC C t j ∧ hbC C t j ≤ 63 := zbits_in _ _ _ _ (by omega) (by omega) (by omega)
  have i2 : 0 ≤ hoC C t j ∧ hoC C t j ≤ 63 := zbits_in _ _ _ _ (by omega) (by omega) (by omega)
  rw [e1, e2]
  have z := or_0 i1 i2
  by_cases c : hbC C t j = 0 ∧ hoC C t j = 0
  · rw [if_pos c, if_pos (z.2 c)]
  · rw [if_neg c, if_neg (fun q => c (z.1 q))]
/-- what a house is -/
def hsC9 (C : zM) (t : Nat) (w h : Int) : Int := if w = 0 then C 62 h else if w = 1 then C 63 h else if w = 2 then hbC C t h else if w = 3 then hoC C t h else if w = 4 then C 64 h else if w = 5 then kwC C 61 h else C 65 h
theorem q_house {t : Nat} {C R Mb : zM} (h : RN t C R) (hb : Pb R Mb) {w x : Int} (hx : 0 ≤ x ∧ x < C t 2) : hsR Mb w x = hsC9 C t w x := by
  have n6 := h.2.2.2.1.1.1
  have rh := h.pb hb
  have d := rh.2.1.1 x hx.1 hx.2
  rw [show 6 * (0 : Int) + x = x by omega] at d
  have k := (rh.2.1.2.1 x hx.1 (by omega)).1
  rw [show 6 * (0 : Int) + x = x by omega] at k
  unfold hsR hsC9
  rw [d.1, d.2, k, rh.hb hx, rh.ho hx, kn_eq rh.1 rh.2.1 rh.2.2.2.1 ⟨hx.1, by omega⟩, kw_eq rh.1 rh.2.1 rh.2.2.2.1 ⟨hx.1, by omega⟩]
  rfl
/-- ahead -/
theorem q_ahead {t : Nat} {C R Mg Mb : zM} (h : RN t C R) (h5 : C 61 5 ≤ 9000) (hg : GsR t C Mg) (hb : LtR R Mb) {n w x : Int} (hn : 0 ≤ n ∧ n ≤ 99) (hx : w = 0 ∨ w = 1 ∨ (0 ≤ x ∧ x < C t 2)) : ahR R (goR 1 n.toNat Mb) w x = ahv C (passM t 67 n.toNat Mg) w x := by
  have rb := h.gs hg hb
  have g5 : Mg 67 5 = C 61 5 := by
    obtain ⟨M1, cy, rfl⟩ := hg
    rw [agM_n t M1 (by decide)]; exact cy.2.2.1
  have rp := rb.pass n.toNat _ _ (by omega)
  have tn : passM t 67 n.toNat Mg t 2 = C t 2 := by
    have a1 := rp.1.1.1
    have a2 : goR 1 n.toNat Mb 209 12 = _ := a1
    rw [passM_Fa t 67 n.toNat Mg t (by have := h.2.2.2.2.1; omega)]
    obtain ⟨M1, cy, rfl⟩ := hg
    rw [agM_n t M1 (by have := h.2.2.2.2.1; omega), cy.2.2.2.2 t (by have := h.2.2.2.2.1; omega)]
  unfold ahR ahv
  rw [pairs_eq rp.1 rp.2.1 rp.2.2.2.1, pairs_eq h.1 h.2.1 h.2.2.2.1, heard_eq rp.2.1, heard_eq h.2.1]
  by_cases w0 : w = 0
  · rw [if_pos w0, if_pos w0]
  · rw [if_neg w0, if_neg w0]
    by_cases w1 : w = 1
    · rw [if_pos w1, if_pos w1]
    · rw [if_neg w1, if_neg w1]
      have hx2 : 0 ≤ x ∧ x < C t 2 := by omega
      have d := rp.2.1.1 x hx2.1 (by rw [tn]; exact hx2.2)
      rw [d.1, d.2]
/-- the first two who know one another -/
theorem z2_i {t : Nat} {C R : zM} (s : SRl t 67 1 C R) {a : Int} (ha : 0 ≤ a ∧ a < 6) : ∀ (n : Nat) (c : Int), 0 ≤ c → c + n ≤ 6 → z2iR R a n c = z2in (C (67 + 3)) a n c
  | 0, c, _, _ => rfl
  | n + 1, c, c0, c1 => by
    unfold z2iR z2in
    have w1 := (s.2.2.2.1 a c ha.1 ha.2 c0 (by omega)).1
    have w2 := (s.2.2.2.1 c a c0 (by omega) ha.1 ha.2).1
    rw [show 36 * (1 : Int) + 6 * a + c = 36 + 6 * a + c by omega] at w1
    rw [show 36 * (1 : Int) + 6 * c + a = 36 + 6 * c + a by omega] at w2
    rw [w1, w2, z2_i s ha n (c + 1) (by omega) (by omega)]
    have e : (kbit (C (67 + 3) a) c ≠ 0 ∧ kbit (C (67 + 3) c) a ≠ 0) ↔ (kbit (C (67 + 3) a) c = 1 ∧ kbit (C (67 + 3) c) a = 1) := by
      have k1 := kbit01 (C (67 + 3) a) c
      have k2 := kbit01 (C (67 + 3) c) a
      omega
    by_cases z : kbit (C (67 + 3) a) c = 1 ∧ kbit (C (67 + 3) c) a = 1
    · rw [if_pos z, if_pos (e.2 z)]
    · rw [if_neg z, if_neg (fun q => z (e.1 q))]
theorem z2_o {t : Nat} {C R : zM} (s : SRl t 67 1 C R) {N : Int} (hN : N ≤ 6) (h12 : R 209 12 = N) : ∀ (n : Nat) (i : Int), 0 ≤ i → i + n ≤ N → (z2oR R n i = none ∧ z2out (C (67 + 3)) N n i = -1) ∨ (∃ r, z2oR R n i = some r ∧ z2out (C (67 + 3)) N n i = r ∧ r ≠ -1)
  | 0, i, _, _ => Or.inl ⟨rfl, rfl⟩
  | n + 1, i, i0, i1 => by
    have e := z2_i s (a := i) ⟨i0, by omega⟩ (N - (i + 1)).toNat (i + 1) (by omega) (by omega)
    unfold z2oR z2out
    rw [h12, e]
    cases hz : z2in (C (67 + 3)) i (N - (i + 1)).toNat (i + 1) with
    | none => exact z2_o s hN h12 n (i + 1) (by omega) (by omega)
    | some r =>
      have q := z2in_in _ _ _ _ _ i0 (by omega) (by omega) (by omega) hz
      exact Or.inr ⟨r, rfl, rfl, by omega⟩
theorem q_first {t : Nat} {w : Int} : ∀ (n : Nat) (k : Int) (C R : zM), RB False t 67 1 C R → C 67 5 + n ≤ 9999 → fsG w (n + 1) k R = fsR w (fsF t n k C) := by
  intro n
  induction n with
  | zero =>
    intro k C R h h5
    have nn := h.n
    have z := z2_o h.2.1 (N := C t 2) nn.1.2 nn.2 (C t 2).toNat 0 (by omega) (by omega)
    unfold fsG fsF fsR ftC
    rw [nn.2]
    rcases z with ⟨z1, z2⟩ | ⟨r, z1, z2, z3⟩
    · rw [z1, z2]; rfl
    · rw [z1, z2]
      show (if w = 0 then k else r) = if r = -1 then -2 else if w = 0 then k else r
      rw [if_neg z3]
  | succ n ih =>
    intro k C R h h5
    have nn := h.n
    have z := z2_o h.2.1 (N := C t 2) nn.1.2 nn.2 (C t 2).toNat 0 (by omega) (by omega)
    have f5 : hourM t 67 C 67 5 = C 67 5 + 1 := by unfold hourM; rw [sm_s]
    have i := ih (k + 1) _ _ (h.hour (by omega)) (by rw [f5]; omega)
    have eF : fsF t (n + 1) k C = if ftC C t = -1 then fsF t n (k + 1) (hourM t 67 C) else (k, ftC C t) := rfl
    have eG : fsG w (n + 1 + 1) k R = match z2oR R (R 209 12).toNat 0 with | some r => (if w = 0 then k else r) | none => fsG w (n + 1) (k + 1) (hourR 1 R) := rfl
    rw [eF, eG, nn.2]
    rcases z with ⟨z1, z2⟩ | ⟨r, z1, z2, z3⟩
    · have : ftC C t = -1 := z2
      rw [z1, if_pos this]; exact i
    · have : ftC C t = r := z2
      rw [z1, this, if_neg z3]
      show (if w = 0 then k else r) = if r = -1 then -2 else if w = 0 then k else r
      rw [if_neg z3]
theorem q_next {t : Nat} {b i : Int} (hi : 0 ≤ i ∧ i < 36) : ∀ (n : Nat) (k : Int) (C R : zM), RB False t 67 1 C R → C 67 5 + n ≤ 9999 → nhG b (36 + i) n k R = nhF t b i n k C := by
  intro n
  induction n with
  | zero => intro k C R _ _; rfl
  | succ n ih =>
    intro k C R h h5
    have f5 : hourM t 67 C 67 5 = C 67 5 + 1 := by unfold hourM; rw [sm_s]
    have g := h.hour (by omega)
    have z := g.2.1.2.2.1 i hi.1 hi.2
    rw [show 36 * (1 : Int) + i = 36 + i by omega] at z
    unfold nhG nhF
    rw [z, ih (k + 1) _ _ g (by rw [f5]; omega)]
end ZEQ4
