section ZCALL4
theorem REL.nt {t d : Nat} {C C' R R' : zM} (h : REL t d C R) (b : NT C' R' ∧ NI C') (hc : ∀ k : Nat, ¬ (201 ≤ k ∧ k ≤ 206) → C' k = C k) (hr : ∀ (k : Nat) (i : Int), k ≠ 239 → ¬ (k = 209 ∧ (i = 2 ∨ i = 61 ∨ i = 62)) → R' k i = R k i) : REL t d C' R' := by
  have td := h.td
  obtain ⟨⟨a1, a2, a3⟩, _, ⟨⟨c1, c2⟩, c3⟩, e, ⟨f1, f2⟩, ⟨g0, ⟨l1, l2, l3⟩, g2, g3⟩, ⟨i1, i2, i3⟩, _⟩ := h
  have n6 := a1.n6
  have r : ∀ k : Nat, k ≠ 209 → k ≠ 239 → R' k = R k := fun k x y => funext fun i => hr k i y (by omega)
  have r9 : ∀ i : Int, ¬ (i = 2 ∨ i = 61 ∨ i = 62) → R' 209 i = R 209 i := fun i x => hr 209 i (by decide) (by omega)
  have et := hc t (by omega)
  obtain ⟨⟨x1, ⟨x2, x3, x4⟩, x5, x7⟩, x6⟩ := f1
  have lr : ∀ w : Int, LrI R w → LrI R' w := fun w q => LrI_of (r _ (by decide) (by decide)) (r _ (by decide) (by decide)) (r _ (by decide) (by decide)) (r _ (by decide) (by decide)) (r _ (by decide) (by decide)) (r _ (by decide) (by decide)) q
  refine ⟨⟨a1.of (fun k hk => hc k (by omega)) (by rw [hc 50 (by omega)]) (fun k hk => r k (by omega) (by omega)) (fun i hi => r9 i (by omega)), a2.of n6.2 (by rw [et]) (fun k hk => hc k (by omega)) (by rw [hc 61 (by omega)]) (by rw [hc 61 (by omega)]) (r 241 (by decide) (by decide)) (r9 65 (by omega)), a3.of n6.2 (by rw [et]) (fun k hk => hc k (by omega)) (by rw [hc 2 (by omega)]) (r 242 (by decide) (by decide)) (fun i hi => r9 i (by omega))⟩, b, ⟨⟨by rw [r 210 (by decide) (by decide), hc 3 (by omega)]; exact c1, by rw [r9 1 (by omega), hc 2 (by omega)]; exact c2⟩, by rw [hc 2 (by omega)]; exact c3⟩, ⟨by rw [r9 4 (by omega), hc 42 (by omega)]; exact e.1, by rw [r9 5 (by omega), hc 42 (by omega)]; exact e.2⟩, ⟨⟨⟨?_, ⟨lr 0 x2, lr 1 x3, lr 2 x4⟩, x5.of9 (fun k i hk => by rw [r k (by omega) (by omega)]), by rw [r9 60 (by omega)]; exact x7⟩, by rw [r9 54 (by omega)]; exact x6⟩, f2.c9 (fun k x y => r k (by omega) (by omega))⟩, ⟨by rw [hc 61 (by omega)]; exact g0, ⟨l1.c9 (hc _ (by omega)) (hc _ (by omega)), l2.c9 (hc _ (by omega)) (hc _ (by omega)), l3.c9 (hc _ (by omega)) (hc _ (by omega))⟩, g2.of (by rw [et]) (hc _ (by omega)) (hc _ (by omega)) (hc _ (by omega)) (by rw [et]; exact Int.le_refl _), g3.eq (fun q x y => hc q (by omega))⟩, ⟨by rw [hc 44 (by omega)]; exact i1, by rw [hc 1 (by omega)]; exact i2, by rw [r 211 (by decide) (by decide)]; exact i3⟩, td⟩
  unfold TxI at *
  rw [r9 12 (by omega), r9 13 (by omega), r9 14 (by omega), r 213 (by decide) (by decide), r 215 (by decide) (by decide), r 216 (by decide) (by decide), r 217 (by decide) (by decide), r 218 (by decide) (by decide), r 219 (by decide) (by decide), r 220 (by decide) (by decide), r 221 (by decide) (by decide), r 222 (by decide) (by decide)]
  exact x1
theorem naM_n {C : zM} {w x y z b : Int} {k : Nat} (hk : ¬ (201 ≤ k ∧ k ≤ 206)) : naM C w x y z b k = C k := by
  unfold naM
  rw [sm_n (by omega), sm_n (by omega), sm_n (by omega), sm_n (by omega), sm_n (by omega), sm_n (by omega)]
theorem lyM_n {R : zM} {w x y b : Int} {k : Nat} {i : Int} (hk : k ≠ 239) (h9 : ¬ (k = 209 ∧ i = 61)) : lyM R w x y b k i = R k i := by
  unfold lyM
  by_cases e : k = 209
  · subst e; rw [sm_k, us_n (by omega), sm_n (by decide), sm_n (by decide), sm_n (by decide), sm_n (by decide)]
  · rw [sm_n e, sm_n hk, sm_n hk, sm_n hk, sm_n hk]
theorem f_lay {t d : Nat} {M M1 M2 : zM} {w x y z b y2 b2 r1 r2 : Int} {A B : Prop} (h : REL t d M M) (ab : Up M M1 → (B ↔ A)) (hc : (¬ A ∧ r1 = -1 ∧ M1 = M) ∨ (¬ (¬ A) ∧ ((24 ≤ M 201 6 ∧ r1 = -1 ∧ M1 = M) ∨ (M 201 6 < 24 ∧ r1 = M 201 6 ∧ M1 = naM M w x y z b)))) (hr : (¬ B ∧ r2 = -1 ∧ M2 = sm M1 209 2 0) ∨ (¬ (¬ B) ∧ ((24 ≤ M1 209 61 ∧ r2 = -1 ∧ M2 = sm M1 209 2 0) ∨ (M1 209 61 < 24 ∧ r2 = M1 209 61 ∧ M2 = lyM (sm M1 209 2 0) w x y2 b2)))) (hw : 0 ≤ w ∧ w ≤ 2) (hx : ¬ (¬ A) → 0 ≤ x ∧ x ≤ 99) (h0 : w = 0 → y2 = y) (hq : ¬ (¬ A) → w = 1 → (y2 = 6 * y + z ∧ 1 ≤ x ∧ x ≤ 60) ∧ (0 ≤ y ∧ y < 6) ∧ (0 ≤ z ∧ z < 6)) (h2 : ¬ (¬ A) → w = 2 → x < M 201 6) (hb : w ≠ 2 → b2 = b) (hb1 : b = 0 ∨ b = 1) : r2 = r1 ∧ REL t d M2 M2 := by
  have up : Up M M1 := by
    rcases hc with ⟨_, _, e⟩ | ⟨_, ⟨_, _, e⟩ | ⟨_, _, e⟩⟩
    · rw [e]; exact Up.rf M
    · rw [e]; exact Up.rf M
    · rw [e]; exact fun k hk => naM_n (by omega)
  have h1 := h.up up
  rw [ab up, h1.2.1.1.1.1] at hr
  rcases hc with ⟨nc, e1, e⟩ | ⟨nc, hc⟩
  · rcases hr with ⟨_, e2, e3⟩ | ⟨q, _⟩
    · rw [e1, e2, e3, e]; exact ⟨rfl, h.no⟩
    · exact absurd nc q
  · rcases hr with ⟨q, _⟩ | ⟨_, hr⟩
    · exact absurd q nc
    · rcases hc with ⟨q1, e1, e⟩ | ⟨q1, e1, e⟩
      · rcases hr with ⟨_, e2, e3⟩ | ⟨q2, _⟩
        · rw [e1, e2, e3, e]; exact ⟨rfl, h.no⟩
        · omega
      · rcases hr with ⟨q2, _⟩ | ⟨_, e2, e3⟩
        · omega
        · have nt : NT M (sm M1 209 2 0) := h1.2.1.1.of (fun _ _ _ => rfl) (by rw [sm_n (by decide)]) (fun i hi => by rw [sm_k, us_n (by omega)])
          have w1 := e_note (w := w) (x := x) (y := y) (z := z) (b := b) (y2 := y2) (b2 := b2) nt h1.2.1.2 q1 hw (hx nc) h0 (hq nc) (h2 nc) hb hb1
          rw [← e, ← e3] at w1
          have r0 : ∀ (k : Nat) (i : Int), k ≠ 239 → ¬ (k = 209 ∧ (i = 2 ∨ i = 61 ∨ i = 62)) → M2 k i = M1 k i := fun k i y z => by
            rw [e3, lyM_n y (by omega)]
            by_cases q : k = 209
            · subst q; rw [sm_k, us_n (by omega)]
            · rw [sm_n q]
          exact ⟨by rw [e1, e2], (h1.nt w1 (fun k hk => by rw [e]; exact naM_n hk) r0).lo (fun k hk => funext fun i => r0 k i (by omega) (by omega))⟩
theorem f_note {t d : Nat} {M M1 M2 : zM} {x k b r1 r2 : Int} (h : REL t d M M) (rb : b = 0 ∨ b = 1) (hc : ((¬ (0 ≤ x ∧ x ≤ 99 ∧ 0 ≤ k ∧ k ≤ 9)) ∧ r1 = -1 ∧ M1 = M) ∨ (¬ (¬ (0 ≤ x ∧ x ≤ 99 ∧ 0 ≤ k ∧ k ≤ 9)) ∧ ((24 ≤ M 201 6 ∧ r1 = -1 ∧ M1 = M) ∨ (M 201 6 < 24 ∧ r1 = M 201 6 ∧ M1 = naM M 0 x k 0 b)))) (hr : ((¬ (0 ≤ x ∧ x ≤ 99 ∧ 0 ≤ k ∧ k ≤ 9)) ∧ r2 = -1 ∧ M2 = sm M1 209 2 0) ∨ (¬ (¬ (0 ≤ x ∧ x ≤ 99 ∧ 0 ≤ k ∧ k ≤ 9)) ∧ ((24 ≤ M1 209 61 ∧ r2 = -1 ∧ M2 = sm M1 209 2 0) ∨ (M1 209 61 < 24 ∧ r2 = M1 209 61 ∧ M2 = lyM (sm M1 209 2 0) 0 x k b)))) : r2 = r1 ∧ REL t d M2 M2 :=
  f_lay h (fun _ => Iff.rfl) hc hr (by decide) (fun q => by have := Decidable.not_not.mp q; omega) (fun _ => rfl) (fun _ q => absurd q (by decide)) (fun _ q => absurd q (by decide)) (fun _ => rfl) rb
theorem f_see {t d : Nat} {M M1 M2 : zM} {x u o b r1 r2 : Int} (h : REL t d M M) (rb : b = 0 ∨ b = 1) (hc : ((¬ (1 ≤ x ∧ x ≤ 60 ∧ two (M t 2) u o)) ∧ r1 = -1 ∧ M1 = M) ∨ (¬ (¬ (1 ≤ x ∧ x ≤ 60 ∧ two (M t 2) u o)) ∧ ((24 ≤ M 201 6 ∧ r1 = -1 ∧ M1 = M) ∨ (M 201 6 < 24 ∧ r1 = M 201 6 ∧ M1 = naM M 1 x u o b)))) (hr : ((¬ (1 ≤ x ∧ x ≤ 60 ∧ two (M1 209 12) u o)) ∧ r2 = -1 ∧ M2 = sm M1 209 2 0) ∨ (¬ (¬ (1 ≤ x ∧ x ≤ 60 ∧ two (M1 209 12) u o)) ∧ ((24 ≤ M1 209 61 ∧ r2 = -1 ∧ M2 = sm M1 209 2 0) ∨ (M1 209 61 < 24 ∧ r2 = M1 209 61 ∧ M2 = lyM (sm M1 209 2 0) 1 x (6 * u + o) b)))) : r2 = r1 ∧ REL t d M2 M2 := by
  have n6 := h.1.1.n6
  refine f_lay h (fun up => by rw [(h.up up).n]) hc hr (by decide) (fun q => ?_) (fun q => absurd q (by decide)) (fun q _ => ?_) (fun _ q => absurd q (by decide)) (fun _ => rfl) rb
  · have := Decidable.not_not.mp q; omega
  · have z := Decidable.not_not.mp q
    unfold two at z
    omega
theorem f_strike {t d : Nat} {M M1 M2 : zM} {x r1 r2 : Int} (h : REL t d M M) (hc : ((¬ (0 ≤ x ∧ x < M 201 6)) ∧ r1 = -1 ∧ M1 = M) ∨ (¬ (¬ (0 ≤ x ∧ x < M 201 6)) ∧ ((24 ≤ M 201 6 ∧ r1 = -1 ∧ M1 = M) ∨ (M 201 6 < 24 ∧ r1 = M 201 6 ∧ M1 = naM M 2 x 0 0 1)))) (hr : ((¬ (0 ≤ x ∧ x < M1 209 61)) ∧ r2 = -1 ∧ M2 = sm M1 209 2 0) ∨ (¬ (¬ (0 ≤ x ∧ x < M1 209 61)) ∧ ((24 ≤ M1 209 61 ∧ r2 = -1 ∧ M2 = sm M1 209 2 0) ∨ (M1 209 61 < 24 ∧ r2 = M1 209 61 ∧ M2 = lyM (sm M1 209 2 0) 2 x 0 0)))) : r2 = r1 ∧ REL t d M2 M2 := by
  have n6 := h.2.1.2.1
  refine f_lay h (fun up => by rw [(h.up up).2.1.1.1.1]) hc hr (by decide) (fun q => ?_) (fun q => absurd q (by decide)) (fun _ q => absurd q (by decide)) (fun q _ => (Decidable.not_not.mp q).2) (fun q => absurd rfl q) (Or.inr rfl)
  have := Decidable.not_not.mp q
  omega
theorem f_known {t d : Nat} {M M1 M2 : zM} {x r1 r2 : Int} (h : REL t d M M) (hc : (¬ (-1 ≤ x ∧ x ≤ M 201 6) ∧ r1 = 0 ∧ M1 = M) ∨ ((-1 ≤ x ∧ x ≤ M 201 6) ∧ r1 = 1 ∧ M1 = sm M 201 7 x)) (hr : (¬ (-1 ≤ x ∧ x ≤ M1 209 61) ∧ r2 = 0 ∧ M2 = sm M1 209 2 0) ∨ ((-1 ≤ x ∧ x ≤ M1 209 61) ∧ r2 = 1 ∧ M2 = sm (sm M1 209 2 0) 209 62 x)) : r2 = r1 ∧ REL t d M2 M2 := by
  have up : Up M M1 := by
    rcases hc with ⟨_, _, e⟩ | ⟨_, _, e⟩
    · rw [e]; exact Up.rf M
    · rw [e]; exact (Up.rf M).sm (by decide) _ _
  have h1 := h.up up
  rw [h1.2.1.1.1.1] at hr
  rcases hc with ⟨nc, e1, e⟩ | ⟨nc, e1, e⟩
  · rcases hr with ⟨_, e2, e3⟩ | ⟨q, _⟩
    · rw [e1, e2, e3, e]; exact ⟨rfl, h.no⟩
    · exact absurd q nc
  · rcases hr with ⟨q, _⟩ | ⟨_, e2, e3⟩
    · exact absurd nc q
    · have w1 := e_known h1.2.1.1 h1.2.1.2 nc
      rw [← e, ← e3] at w1
      have r0 : ∀ (k : Nat) (i : Int), k ≠ 239 → ¬ (k = 209 ∧ (i = 2 ∨ i = 61 ∨ i = 62)) → M2 k i = M1 k i := fun k i y z => by
        rw [e3]
        by_cases q : k = 209
        · subst q; rw [sm_k, us_n (by omega), sm_k, us_n (by omega)]
        · rw [sm_n q, sm_n q]
      exact ⟨by rw [e1, e2], (h1.nt w1 (fun k hk => by rw [e, sm_n (by omega)]) r0).lo (fun k hk => funext fun i => r0 k i (by omega) (by omega))⟩
/-- bytes fed -/
theorem f_feed {t d : Nat} {M M1 M2 : zM} {a b c e f r1 r2 : Int} (h : REL t d M M) (hc : (700 < M 2 1 + 20 ∧ r1 = -1 ∧ M1 = M) ∨ (M 2 1 + 20 ≤ 700 ∧ r1 = M 2 1 + 20 ∧ M1 = fdC a b c e f M)) (hr : (700 < M1 209 1 + 20 ∧ r2 = -1 ∧ M2 = sm M1 209 2 0) ∨ (M1 209 1 + 20 ≤ 700 ∧ r2 = M1 209 1 + 20 ∧ M2 = sm (fdR a b c e f 20 0 (sm M1 209 2 0)) 209 1 (M1 209 1 + 20))) : r2 = r1 ∧ REL t d M2 M2 := by
  have t9 := h.t9
  obtain ⟨k1, k2, k3, k4⟩ := fc_5 a b c e f M
  have up : Up M M1 := by
    rcases hc with ⟨_, _, e⟩ | ⟨_, _, e⟩
    · rw [e]; exact Up.rf M
    · rw [e]; exact fun k hk => k3 k (by omega) (by omega)
  have h1 := h.up up
  have e91 : M1 209 1 = M 2 1 := h1.2.2.1.1.2
  rw [e91] at hr
  rcases hc with ⟨nc, e1, q⟩ | ⟨nc, e1, q⟩
  · rcases hr with ⟨_, e2, e3⟩ | ⟨q2, _⟩
    · rw [e1, e2, e3, q]; exact ⟨rfl, h.no⟩
    · omega
  · rcases hr with ⟨q2, _⟩ | ⟨_, e2, e3⟩
    · omega
    · refine ⟨by rw [e1, e2], ?_⟩
      have c0 : ∀ k : Nat, k ≠ 2 → k ≠ 3 → M1 k = M k := fun k x y => by rw [q]; exact k3 k x y
      have r0 : ∀ (k : Nat) (i : Int), k ≠ 210 → ¬ (k = 209 ∧ (i = 1 ∨ i = 2)) → M2 k i = M1 k i := fun k i y z => by
        rw [e3]
        by_cases q : k = 209
        · subst q; rw [sm_k, us_n (by omega), fdR_n _ _ _ _ _ _ _ _ y, sm_k, us_n (by omega)]
        · rw [sm_n q, fdR_n _ _ _ _ _ _ _ _ y, sm_n q]
      have r : ∀ k : Nat, k ≠ 209 → k ≠ 210 → M2 k = M1 k := fun k x y => funext fun i => r0 k i y (by omega)
      have r9 : ∀ i : Int, ¬ (i = 1 ∨ i = 2) → M2 209 i = M1 209 i := fun i x => r0 209 i (by decide) (by omega)
      have lo : Lo M1 M2 := fun k hk => r k (by omega) (by omega)
      refine REL.lo ?_ lo
      have td := h1.td
      obtain ⟨⟨a1, a2, a3⟩, ⟨b1, b2⟩, ⟨⟨c1, c2⟩, c3⟩, ef, ⟨f1, f2⟩, ⟨g0, ⟨l1, l2, l3⟩, g2, g3⟩, ⟨i1, i2, i3⟩, _⟩ := h1
      have n6 := a1.n6
      have et := c0 t (by omega) (by omega)
      have m21 : M1 2 1 = M 2 1 + 20 := by rw [q]; exact k2
      have rj : RJ M2 0 := by
        obtain ⟨⟨x1, ⟨x2, x3, x4⟩, x5, x7⟩, x6⟩ := f1
        have lr : ∀ w : Int, LrI M1 w → LrI M2 w := fun w q => LrI_of (r _ (by decide) (by decide)) (r _ (by decide) (by decide)) (r _ (by decide) (by decide)) (r _ (by decide) (by decide)) (r _ (by decide) (by decide)) (r _ (by decide) (by decide)) q
        refine ⟨⟨?_, ⟨lr 0 x2, lr 1 x3, lr 2 x4⟩, x5.of9 (fun k i hk => by rw [r k (by omega) (by omega)]), by rw [r9 60 (by omega)]; exact x7⟩, by rw [r9 54 (by omega)]; exact x6⟩
        unfold TxI at *
        rw [r9 12 (by omega), r9 13 (by omega), r9 14 (by omega), r 213 (by decide) (by decide), r 215 (by decide) (by decide), r 216 (by decide) (by decide), r 217 (by decide) (by decide), r 218 (by decide) (by decide), r 219 (by decide) (by decide), r 220 (by decide) (by decide), r 221 (by decide) (by decide), r 222 (by decide) (by decide)]
        exact x1
      refine ⟨⟨a1.of (fun k hk => c0 k (by omega) (by omega)) (by rw [c0 50 (by decide) (by decide)]) (fun k hk => r k (by omega) (by omega)) (fun i hi => r9 i (by omega)), a2.of n6.2 (by rw [et]) (fun k hk => c0 k (by omega) (by omega)) (by rw [c0 61 (by decide) (by decide)]) (by rw [c0 61 (by decide) (by decide)]) (r 241 (by decide) (by decide)) (r9 65 (by omega)), a3.of n6.2 (by rw [et]) (fun k hk => c0 k (by omega) (by omega)) (by rw [q]; exact k4 10 (by decide)) (r 242 (by decide) (by decide)) (fun i hi => r9 i (by omega))⟩, ⟨b1.of (fun k x y => c0 k (by omega) (by omega)) (r 239 (by decide) (by decide)) (fun i hi => r9 i (by omega)), b2.of (fun k x y => c0 k (by omega) (by omega))⟩, ⟨⟨?_, ?_⟩, by rw [m21]; omega⟩, ⟨by rw [r9 4 (by omega), c0 42 (by decide) (by decide)]; exact ef.1, by rw [r9 5 (by omega), c0 42 (by decide) (by decide)]; exact ef.2⟩, ⟨rj, f2.c9 (fun k x y => r k (by omega) (by omega))⟩, ⟨by rw [c0 61 (by decide) (by decide)]; exact g0, ⟨l1.c9 (c0 _ (by omega) (by omega)) (c0 _ (by omega) (by omega)), l2.c9 (c0 _ (by omega) (by omega)) (c0 _ (by omega) (by omega)), l3.c9 (c0 _ (by omega) (by omega)) (c0 _ (by omega) (by omega))⟩, g2.of (by rw [et]) (c0 _ (by omega) (by omega)) (c0 _ (by omega) (by omega)) (c0 _ (by omega) (by omega)) (by rw [et]; exact Int.le_refl _), g3.eq (fun q x y => c0 q (by omega) (by omega))⟩, ⟨by rw [c0 44 (by decide) (by decide)]; exact i1, by rw [c0 1 (by decide) (by decide)]; exact i2, by rw [r 211 (by decide) (by decide)]; exact i3⟩, td⟩
      · have s1 : sm M1 209 2 0 209 1 = M 2 1 := by rw [sm_k, us_n (by decide), e91]
        rw [e3, sm_n (by decide), fd_20, s1, sm_n (show (210 : Nat) ≠ 209 by decide), c1, q, k1]
      · rw [e3, sm_s, m21]
end ZCALL4
