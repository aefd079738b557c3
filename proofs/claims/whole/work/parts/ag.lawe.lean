section ZLAWD
def UZ (M M1 : zM) : Prop := ∀ k : Nat, k = 0 ∨ 209 ≤ k → M1 k = M k
theorem a_bool {G : zG} {l : Launch} {md : zMd} {Z : zZ} {pc : Nat} {ls : List (Option av)} {st : List av} {lay : List zKd} {P : zP} {M : zM} {k n : Nat} {x : Int} (d0 : decode md.2.2.1 pc = .ok (.ifCond .eq 7, 3)) (d1 : decode md.2.2.1 (pc + 3) = .ok (.iconst 1, 1)) (d2 : decode md.2.2.1 (pc + 4) = .ok (.goto 4, 3)) (d3 : decode md.2.2.1 (pc + 7) = .ok (.iconst 0, 1)) (hx : inR x) (kk : AW G l md Z (pc + 8) ls (aI (if x = 0 then 0 else 1) :: st) lay P M k n) : AW G l md Z pc ls (aI x :: st) lay P M k n := by
  refine a_if_eq (tgt := pc + 7) d0 (by omega) hx (fun q => ?_) (fun q => ?_)
  · rw [if_pos q] at kk
    exact a_iconst d3 kk
  · rw [if_neg q] at kk
    refine a_iconst d1 ?_
    exact a_goto (tgt := pc + 8) d2 (by omega) kk
theorem bo_r (x : Int) : (if x = 0 then (0 : Int) else 1) = 0 ∨ (if x = 0 then (0 : Int) else 1) = 1 := by
  split
  · exact Or.inl rfl
  · exact Or.inr rfl
theorem uz_turn {t d : Nat} {M M1 : zM} {x v r1 : Int} (h : REL t d M M) (hc : ((¬ (0 ≤ x ∧ x < M t 2 ∧ 0 ≤ v ∧ v ≤ 99 ∧ M 62 x ≠ v)) ∧ r1 = 0 ∧ M1 = M) ∨ (¬ (¬ (0 ≤ x ∧ x < M t 2 ∧ 0 ≤ v ∧ v ≤ 99 ∧ M 62 x ≠ v)) ∧ r1 = 1 ∧ ∃ Ma, PsR M Ma ∧ M1 = sm Ma 62 x v)) : UZ M M1 := by
  have t9 := h.t9
  intro k hk
  rcases hc with ⟨_, _, e⟩ | ⟨_, _, Ma, ps, e⟩
  · rw [e]
  · rw [e, sm_n (by omega), ps.fr h.ui (by omega)]
theorem uz_valve {t d : Nat} {M M1 : zM} {x r1 : Int} (h : REL t d M M) (hc : ((¬ (0 ≤ x ∧ x < M t 2)) ∧ r1 = -1 ∧ M1 = M) ∨ (¬ (¬ (0 ≤ x ∧ x < M t 2)) ∧ M 63 x = M (t + 3) x ∧ r1 = -2 ∧ M1 = M) ∨ (¬ (¬ (0 ≤ x ∧ x < M t 2)) ∧ M 63 x ≠ M (t + 3) x ∧ r1 = M (t + 3) x ∧ ∃ Ma, PsR M Ma ∧ M1 = sm Ma 63 x (M (t + 3) x))) : UZ M M1 := by
  have t9 := h.t9
  intro k hk
  rcases hc with ⟨_, _, e⟩ | ⟨_, _, _, e⟩ | ⟨_, _, _, Ma, ps, e⟩
  · rw [e]
  · rw [e]
  · rw [e, sm_n (by omega), ps.fr h.ui (by omega)]
theorem uz_make {t d : Nat} {M M1 : zM} {x v r1 : Int} (h : REL t d M M) (hc : ((¬ (0 ≤ x ∧ x < M t 2 ∧ 1 ≤ v ∧ v ≤ 9)) ∧ r1 = -1 ∧ M1 = M) ∨ (¬ (¬ (0 ≤ x ∧ x < M t 2 ∧ 1 ≤ v ∧ v ≤ 9)) ∧ ∃ Ma, PsR M Ma ∧ Ec (sdM t 61 x v (Ma t 2).toNat 0 Ma 0).1 M1 ∧ r1 = (sdM t 61 x v (Ma t 2).toNat 0 Ma 0).2)) : UZ M M1 := by
  have t9 := h.t9
  intro k hk
  rcases hc with ⟨_, _, e⟩ | ⟨_, Ma, ps, ec, _⟩
  · rw [e]
  · rw [ec.row (by omega) (by omega) (by omega), sdM_Fa t 61 _ _ _ _ Ma 0 k (by omega), ps.fr h.ui (by omega)]
theorem uz_go {t d : Nat} {M M1 : zM} {n r1 : Int} (h : REL t d M M) (hc : ((¬ (0 ≤ n ∧ n ≤ 99 ∧ M 61 5 + n ≤ 9000)) ∧ r1 = -1 ∧ M1 = M) ∨ (¬ (¬ (0 ≤ n ∧ n ≤ 99 ∧ M 61 5 + n ≤ 9000)) ∧ r1 = M 61 5 + n ∧ ((n = 0 ∧ M1 = M) ∨ (n ≠ 0 ∧ Ec (passM t 61 n.toNat (adM t (sm M 79 2 0))) M1)))) : UZ M M1 := by
  have t9 := h.t9
  intro k hk
  rcases hc with ⟨_, _, e⟩ | ⟨_, _, ⟨_, e⟩ | ⟨_, ec⟩⟩
  · rw [e]
  · rw [e]
  · rw [ec.row (by omega) (by omega) (by omega), passM_Fa t 61 _ _ k (by omega), adM_n t _ (by omega), sm_n (by omega)]
theorem uz_undo {t d : Nat} {M M1 : zM} {r1 : Int} (h : REL t d M M) (hc : (M 79 2 = 0 ∧ r1 = -1 ∧ M1 = M) ∨ (M 79 2 ≠ 0 ∧ r1 = M 79 2 - 1 ∧ CyR (sm (sm M 79 1 ((M 79 1 + 20 - 1).tmod 20)) 79 2 (M 79 2 - 1)) 61 (81 + 6 * ((M 79 1 + 20 - 1).tmod 20).toNat) M1)) : UZ M M1 := by
  have t9 := h.t9
  intro k hk
  rcases hc with ⟨_, _, e⟩ | ⟨_, _, cy⟩
  · rw [e]
  · rw [cy.2.2.2.2 k (by omega), sm_n (by omega), sm_n (by omega)]
theorem uz_keep {t d : Nat} {M M1 : zM} {r1 : Int} (h : REL t d M M) (hc : r1 = M 61 5 ∧ ∃ Ma, CyR M 73 61 Ma ∧ M1 = sm Ma 2 10 1) : UZ M M1 := by
  have t9 := h.t9
  intro k hk
  obtain ⟨_, Ma, cy, e⟩ := hc
  rw [e, sm_n (by omega), cy.2.2.2.2 k (by omega)]
theorem uz_back {t d : Nat} {M M1 : zM} {r1 : Int} (h : REL t d M M) (hc : (M 2 10 = 0 ∧ r1 = -1 ∧ M1 = M) ∨ (M 2 10 ≠ 0 ∧ r1 = M 73 5 ∧ ∃ Ma, CyR M 61 73 Ma ∧ M1 = sm Ma 79 2 0)) : UZ M M1 := by
  have t9 := h.t9
  intro k hk
  rcases hc with ⟨_, _, e⟩ | ⟨_, _, Ma, cy, e⟩
  · rw [e]
  · rw [e, sm_n (by omega), cy.2.2.2.2 k (by omega)]
theorem uz_note {t d : Nat} {M M1 : zM} {x k b r1 : Int} (h : REL t d M M) (hc : ((¬ (0 ≤ x ∧ x ≤ 99 ∧ 0 ≤ k ∧ k ≤ 9)) ∧ r1 = -1 ∧ M1 = M) ∨ (¬ (¬ (0 ≤ x ∧ x ≤ 99 ∧ 0 ≤ k ∧ k ≤ 9)) ∧ ((24 ≤ M 201 6 ∧ r1 = -1 ∧ M1 = M) ∨ (M 201 6 < 24 ∧ r1 = M 201 6 ∧ M1 = naM M 0 x k 0 b)))) : UZ M M1 := by
  have t9 := h.t9
  intro k hk
  rcases hc with ⟨_, _, e⟩ | ⟨_, ⟨_, _, e⟩ | ⟨_, _, e⟩⟩
  · rw [e]
  · rw [e]
  · rw [e, naM_n (by omega)]
theorem uz_see {t d : Nat} {M M1 : zM} {x u o b r1 : Int} (h : REL t d M M) (hc : ((¬ (1 ≤ x ∧ x ≤ 60 ∧ two (M t 2) u o)) ∧ r1 = -1 ∧ M1 = M) ∨ (¬ (¬ (1 ≤ x ∧ x ≤ 60 ∧ two (M t 2) u o)) ∧ ((24 ≤ M 201 6 ∧ r1 = -1 ∧ M1 = M) ∨ (M 201 6 < 24 ∧ r1 = M 201 6 ∧ M1 = naM M 1 x u o b)))) : UZ M M1 := by
  have t9 := h.t9
  intro k hk
  rcases hc with ⟨_, _, e⟩ | ⟨_, ⟨_, _, e⟩ | ⟨_, _, e⟩⟩
  · rw [e]
  · rw [e]
  · rw [e, naM_n (by omega)]
theorem uz_strike {t d : Nat} {M M1 : zM} {x r1 : Int} (h : REL t d M M) (hc : ((¬ (0 ≤ x ∧ x < M 201 6)) ∧ r1 = -1 ∧ M1 = M) ∨ (¬ (¬ (0 ≤ x ∧ x < M 201 6)) ∧ ((24 ≤ M 201 6 ∧ r1 = -1 ∧ M1 = M) ∨ (M 201 6 < 24 ∧ r1 = M 201 6 ∧ M1 = naM M 2 x 0 0 1)))) : UZ M M1 := by
  have t9 := h.t9
  intro k hk
  rcases hc with ⟨_, _, e⟩ | ⟨_, ⟨_, _, e⟩ | ⟨_, _, e⟩⟩
  · rw [e]
  · rw [e]
  · rw [e, naM_n (by omega)]
theorem uz_known {t d : Nat} {M M1 : zM} {x r1 : Int} (h : REL t d M M) (hc : (¬ (-1 ≤ x ∧ x ≤ M 201 6) ∧ r1 = 0 ∧ M1 = M) ∨ ((-1 ≤ x ∧ x ≤ M 201 6) ∧ r1 = 1 ∧ M1 = sm M 201 7 x)) : UZ M M1 := by
  have t9 := h.t9
  intro k hk
  rcases hc with ⟨_, _, e⟩ | ⟨_, _, e⟩
  · rw [e]
  · rw [e, sm_n (by omega)]
theorem uz_feed {t d : Nat} {M M1 : zM} {a b c e f r1 : Int} (h : REL t d M M) (hc : (700 < M 2 1 + 20 ∧ r1 = -1 ∧ M1 = M) ∨ (M 2 1 + 20 ≤ 700 ∧ r1 = M 2 1 + 20 ∧ M1 = fdC a b c e f M)) : UZ M M1 := by
  have t9 := h.t9
  intro k hk
  rcases hc with ⟨_, _, q⟩ | ⟨_, _, q⟩
  · rw [q]
  · rw [q]; exact (fc_5 _ _ _ _ _ M).2.2.1 k (by omega) (by omega)
end ZLAWD

set_option maxRecDepth 100000 in
set_option maxHeartbeats 4000000 in
theorem csL_feed {G : zG} {l : Launch} {R : Room} {Z : zZ} {L : Nat} {P : zP} {M : zM} {k n t d : Nat} {i : Int} {x5 x6 : Option av} (hL : L ≤ 3072) (hR : LR R) (kn : k ≤ R.cells ∧ n ≤ R.slots) (hP : PFok P) (h22 : P 2 2 = some t) (h50 : P 50 0 = some t) (h : REL t d M M) (i0 : 0 ≤ i) (i1 : i + 6 ≤ L) (kk : ∀ M2, REL t d M2 M2 → AW G l (mdL R) Z 1650 (lsL i x5 x6) [] (LAY L) P M2 k n) : AW G l (mdL R) Z 224 (lsL i x5 x6) [] (LAY L) P M k n := by
  refine a_aloadn dL_law_224 rfl ?_
  refine a_aloadn dL_law_225 rfl ?_
  refine a_iload dL_law_226 rfl ?_
  refine a_iconst dL_law_228 ?_
  refine a_iadd dL_law_229 ?_
  refine b_iald dL_law_230 (L0 L) (by omega) (by omega) (by omega) (fun ra1 => ?_)
  refine a_aloadn dL_law_231 rfl ?_
  refine a_iload dL_law_232 rfl ?_
  refine a_iconst dL_law_234 ?_
  refine a_iadd dL_law_235 ?_
  refine b_iald dL_law_236 (L0 L) (by omega) (by omega) (by omega) (fun ra2 => ?_)
  refine a_aloadn dL_law_237 rfl ?_
  refine a_iload dL_law_238 rfl ?_
  refine a_iconst dL_law_240 ?_
  refine a_iadd dL_law_241 ?_
  refine b_iald dL_law_242 (L0 L) (by omega) (by omega) (by omega) (fun ra3 => ?_)
  refine a_aloadn dL_law_243 rfl ?_
  refine a_iload dL_law_244 rfl ?_
  refine a_iconst dL_law_246 ?_
  refine a_iadd dL_law_247 ?_
  refine b_iald dL_law_248 (L0 L) (by omega) (by omega) (by omega) (fun ra4 => ?_)
  refine a_aloadn dL_law_249 rfl ?_
  refine a_iload dL_law_250 rfl ?_
  refine a_iconst dL_law_252 ?_
  refine a_iadd dL_law_253 ?_
  refine b_iald dL_law_254 (L0 L) (by omega) (by omega) (by omega) (fun ra5 => ?_)
  refine a_anyV (as := [_, _, _, _, _]) (q := 2) dL_law_255 mvL_21 ⟨Nat.le_trans (by decide) hR.1, Nat.le_trans (by decide) hR.2⟩ (L2 L) rfl rfl rfl (Nat.le_of_ble_eq_true rfl) ⟨rfl, rfl⟩ kn (m_X10_feed hP h.2.2.1.2 ) (fun r1 M1 hM1 => ?_)
  have uz := uz_feed h hM1
  have h1 := h.up (fun k hk => uz k (Or.inr hk))
  have e0 : M1 0 = M 0 := uz 0 (Or.inl rfl)
  refine a_aloadn dL_law_258 rfl ?_
  refine a_aloadn dL_law_259 rfl ?_
  refine a_iload dL_law_260 rfl ?_
  refine a_iconst dL_law_262 ?_
  refine a_iadd dL_law_263 ?_
  refine b_iald dL_law_264 (L0 L) (by omega) (by omega) (by omega) (fun _ => ?_)
  rw [e0]
  refine a_aloadn dL_law_265 rfl ?_
  refine a_iload dL_law_266 rfl ?_
  refine a_iconst dL_law_268 ?_
  refine a_iadd dL_law_269 ?_
  refine b_iald dL_law_270 (L0 L) (by omega) (by omega) (by omega) (fun _ => ?_)
  rw [e0]
  refine a_aloadn dL_law_271 rfl ?_
  refine a_iload dL_law_272 rfl ?_
  refine a_iconst dL_law_274 ?_
  refine a_iadd dL_law_275 ?_
  refine b_iald dL_law_276 (L0 L) (by omega) (by omega) (by omega) (fun _ => ?_)
  rw [e0]
  refine a_aloadn dL_law_277 rfl ?_
  refine a_iload dL_law_278 rfl ?_
  refine a_iconst dL_law_280 ?_
  refine a_iadd dL_law_281 ?_
  refine b_iald dL_law_282 (L0 L) (by omega) (by omega) (by omega) (fun _ => ?_)
  rw [e0]
  refine a_aloadn dL_law_283 rfl ?_
  refine a_iload dL_law_284 rfl ?_
  refine a_iconst dL_law_286 ?_
  refine a_iadd dL_law_287 ?_
  refine b_iald dL_law_288 (L0 L) (by omega) (by omega) (by omega) (fun _ => ?_)
  rw [e0]
  refine a_anyV (as := [_, _, _, _, _]) (q := 209) dL_law_289 mvL_25 ⟨Nat.le_trans (by decide) hR.1, Nat.le_trans (by decide) hR.2⟩ (L209 L) rfl rfl rfl (Nat.le_of_ble_eq_true rfl) ⟨rfl, rfl⟩ kn (m_X11_feed hP (by rw [h1.2.2.1.1.2]; exact h1.2.2.1.2) ) (fun r2 M2 hM2 => ?_)
  obtain ⟨e2, h2⟩ := f_feed h hM1 hM2
  rw [e2]
  refine a_same (tgt := 1650) dL_law_292 (by decide) ?_
  exact kk M2 h2

set_option maxRecDepth 100000 in
set_option maxHeartbeats 4000000 in
theorem csL_turn {G : zG} {l : Launch} {R : Room} {Z : zZ} {L : Nat} {P : zP} {M : zM} {k n t d : Nat} {i : Int} {x5 x6 : Option av} (hL : L ≤ 3072) (hR : LR R) (kn : k ≤ R.cells ∧ n ≤ R.slots) (hP : PFok P) (h22 : P 2 2 = some t) (h50 : P 50 0 = some t) (h : REL t d M M) (i0 : 0 ≤ i) (i1 : i + 6 ≤ L) (kk : ∀ M2, REL t d M2 M2 → AW G l (mdL R) Z 1650 (lsL i x5 x6) [] (LAY L) P M2 k n) : AW G l (mdL R) Z 564 (lsL i x5 x6) [] (LAY L) P M k n := by
  refine a_aloadn dL_law_564 rfl ?_
  refine a_aloadn dL_law_565 rfl ?_
  refine a_iload dL_law_566 rfl ?_
  refine a_iconst dL_law_568 ?_
  refine a_iadd dL_law_569 ?_
  refine b_iald dL_law_570 (L0 L) (by omega) (by omega) (by omega) (fun ra1 => ?_)
  refine a_aloadn dL_law_571 rfl ?_
  refine a_iload dL_law_572 rfl ?_
  refine a_iconst dL_law_574 ?_
  refine a_iadd dL_law_575 ?_
  refine b_iald dL_law_576 (L0 L) (by omega) (by omega) (by omega) (fun ra2 => ?_)
  refine a_anyV (as := [_, _]) (q := 2) dL_law_577 mvL_62 ⟨Nat.le_trans (by decide) hR.1, Nat.le_trans (by decide) hR.2⟩ (L2 L) rfl rfl rfl (Nat.le_of_ble_eq_true rfl) ⟨rfl, rfl⟩ kn (m_X10_turn (h.cv hP h22 h50) h.ui ra1 ra2) (fun r1 M1 hM1 => ?_)
  have uz := uz_turn h hM1
  have h1 := h.up (fun k hk => uz k (Or.inr hk))
  have e0 : M1 0 = M 0 := uz 0 (Or.inl rfl)
  refine a_aloadn dL_law_580 rfl ?_
  refine a_aloadn dL_law_581 rfl ?_
  refine a_iload dL_law_582 rfl ?_
  refine a_iconst dL_law_584 ?_
  refine a_iadd dL_law_585 ?_
  refine b_iald dL_law_586 (L0 L) (by omega) (by omega) (by omega) (fun _ => ?_)
  rw [e0]
  refine a_aloadn dL_law_587 rfl ?_
  refine a_iload dL_law_588 rfl ?_
  refine a_iconst dL_law_590 ?_
  refine a_iadd dL_law_591 ?_
  refine b_iald dL_law_592 (L0 L) (by omega) (by omega) (by omega) (fun _ => ?_)
  rw [e0]
  refine a_anyV (as := [_, _]) (q := 209) dL_law_593 mvL_66 ⟨Nat.le_trans (by decide) hR.1, Nat.le_trans (by decide) hR.2⟩ (L209 L) rfl rfl rfl (Nat.le_of_ble_eq_true rfl) ⟨rfl, rfl⟩ kn (m_X11_turn (h1.rv hP) h1.ur ra1 ra2) (fun r2 M2 hM2 => ?_)
  obtain ⟨e2, h2⟩ := f_turn h hM1 hM2
  rw [e2]
  refine a_same (tgt := 1650) dL_law_596 (by decide) ?_
  exact kk M2 h2

set_option maxRecDepth 100000 in
set_option maxHeartbeats 4000000 in
theorem csL_make {G : zG} {l : Launch} {R : Room} {Z : zZ} {L : Nat} {P : zP} {M : zM} {k n t d : Nat} {i : Int} {x5 x6 : Option av} (hL : L ≤ 3072) (hR : LR R) (kn : k ≤ R.cells ∧ n ≤ R.slots) (hP : PFok P) (h22 : P 2 2 = some t) (h50 : P 50 0 = some t) (h : REL t d M M) (i0 : 0 ≤ i) (i1 : i + 6 ≤ L) (kk : ∀ M2, REL t d M2 M2 → AW G l (mdL R) Z 1650 (lsL i x5 x6) [] (LAY L) P M2 k n) : AW G l (mdL R) Z 601 (lsL i x5 x6) [] (LAY L) P M k n := by
  refine a_aloadn dL_law_601 rfl ?_
  refine a_aloadn dL_law_602 rfl ?_
  refine a_iload dL_law_603 rfl ?_
  refine a_iconst dL_law_605 ?_
  refine a_iadd dL_law_606 ?_
  refine b_iald dL_law_607 (L0 L) (by omega) (by omega) (by omega) (fun ra1 => ?_)
  refine a_aloadn dL_law_608 rfl ?_
  refine a_iload dL_law_609 rfl ?_
  refine a_iconst dL_law_611 ?_
  refine a_iadd dL_law_612 ?_
  refine b_iald dL_law_613 (L0 L) (by omega) (by omega) (by omega) (fun ra2 => ?_)
  refine a_anyV (as := [_, _]) (q := 2) dL_law_614 mvL_67 ⟨Nat.le_trans (by decide) hR.1, Nat.le_trans (by decide) hR.2⟩ (L2 L) rfl rfl rfl (Nat.le_of_ble_eq_true rfl) ⟨rfl, rfl⟩ kn (m_X10_make (h.cv hP h22 h50) h.ui ra1 ra2) (fun r1 M1 hM1 => ?_)
  have uz := uz_make h hM1
  have h1 := h.up (fun k hk => uz k (Or.inr hk))
  have e0 : M1 0 = M 0 := uz 0 (Or.inl rfl)
  refine a_aloadn dL_law_617 rfl ?_
  refine a_aloadn dL_law_618 rfl ?_
  refine a_iload dL_law_619 rfl ?_
  refine a_iconst dL_law_621 ?_
  refine a_iadd dL_law_622 ?_
  refine b_iald dL_law_623 (L0 L) (by omega) (by omega) (by omega) (fun _ => ?_)
  rw [e0]
  refine a_aloadn dL_law_624 rfl ?_
  refine a_iload dL_law_625 rfl ?_
  refine a_iconst dL_law_627 ?_
  refine a_iadd dL_law_628 ?_
  refine b_iald dL_law_629 (L0 L) (by omega) (by omega) (by omega) (fun _ => ?_)
  rw [e0]
  refine a_anyV (as := [_, _]) (q := 209) dL_law_630 mvL_70 ⟨Nat.le_trans (by decide) hR.1, Nat.le_trans (by decide) hR.2⟩ (L209 L) rfl rfl rfl (Nat.le_of_ble_eq_true rfl) ⟨rfl, rfl⟩ kn (m_X11_make (h1.rv hP) h1.ur ra1 ra2) (fun r2 M2 hM2 => ?_)
  obtain ⟨e2, h2⟩ := f_make h hM1 hM2
  rw [e2]
  refine a_same (tgt := 1650) dL_law_633 (by decide) ?_
  exact kk M2 h2

set_option maxRecDepth 100000 in
set_option maxHeartbeats 4000000 in
theorem csL_valve {G : zG} {l : Launch} {R : Room} {Z : zZ} {L : Nat} {P : zP} {M : zM} {k n t d : Nat} {i : Int} {x5 x6 : Option av} (hL : L ≤ 3072) (hR : LR R) (kn : k ≤ R.cells ∧ n ≤ R.slots) (hP : PFok P) (h22 : P 2 2 = some t) (h50 : P 50 0 = some t) (h : REL t d M M) (i0 : 0 ≤ i) (i1 : i + 6 ≤ L) (kk : ∀ M2, REL t d M2 M2 → AW G l (mdL R) Z 1650 (lsL i x5 x6) [] (LAY L) P M2 k n) : AW G l (mdL R) Z 638 (lsL i x5 x6) [] (LAY L) P M k n := by
  refine a_aloadn dL_law_638 rfl ?_
  refine a_aloadn dL_law_639 rfl ?_
  refine a_iload dL_law_640 rfl ?_
  refine a_iconst dL_law_642 ?_
  refine a_iadd dL_law_643 ?_
  refine b_iald dL_law_644 (L0 L) (by omega) (by omega) (by omega) (fun ra1 => ?_)
  refine a_anyV (as := [_]) (q := 2) dL_law_645 mvL_71 ⟨Nat.le_trans (by decide) hR.1, Nat.le_trans (by decide) hR.2⟩ (L2 L) rfl rfl rfl (Nat.le_of_ble_eq_true rfl) ⟨rfl, rfl⟩ kn (m_X10_valve (h.cv hP h22 h50) h.ui ra1) (fun r1 M1 hM1 => ?_)
  have uz := uz_valve h hM1
  have h1 := h.up (fun k hk => uz k (Or.inr hk))
  have e0 : M1 0 = M 0 := uz 0 (Or.inl rfl)
  refine a_aloadn dL_law_648 rfl ?_
  refine a_aloadn dL_law_649 rfl ?_
  refine a_iload dL_law_650 rfl ?_
  refine a_iconst dL_law_652 ?_
  refine a_iadd dL_law_653 ?_
  refine b_iald dL_law_654 (L0 L) (by omega) (by omega) (by omega) (fun _ => ?_)
  rw [e0]
  refine a_anyV (as := [_]) (q := 209) dL_law_655 mvL_74 ⟨Nat.le_trans (by decide) hR.1, Nat.le_trans (by decide) hR.2⟩ (L209 L) rfl rfl rfl (Nat.le_of_ble_eq_true rfl) ⟨rfl, rfl⟩ kn (m_X11_valve (h1.rv hP) h1.ur ra1) (fun r2 M2 hM2 => ?_)
  obtain ⟨e2, h2⟩ := f_valve h hM1 hM2
  rw [e2]
  refine a_same (tgt := 1650) dL_law_658 (by decide) ?_
  exact kk M2 h2

set_option maxRecDepth 100000 in
set_option maxHeartbeats 4000000 in
theorem csL_go {G : zG} {l : Launch} {R : Room} {Z : zZ} {L : Nat} {P : zP} {M : zM} {k n t d : Nat} {i : Int} {x5 x6 : Option av} (hL : L ≤ 3072) (hR : LR R) (kn : k ≤ R.cells ∧ n ≤ R.slots) (hP : PFok P) (h22 : P 2 2 = some t) (h50 : P 50 0 = some t) (h : REL t d M M) (i0 : 0 ≤ i) (i1 : i + 6 ≤ L) (kk : ∀ M2, REL t d M2 M2 → AW G l (mdL R) Z 1650 (lsL i x5 x6) [] (LAY L) P M2 k n) : AW G l (mdL R) Z 663 (lsL i x5 x6) [] (LAY L) P M k n := by
  refine a_aloadn dL_law_663 rfl ?_
  refine a_aloadn dL_law_664 rfl ?_
  refine a_iload dL_law_665 rfl ?_
  refine a_iconst dL_law_667 ?_
  refine a_iadd dL_law_668 ?_
  refine b_iald dL_law_669 (L0 L) (by omega) (by omega) (by omega) (fun ra1 => ?_)
  refine a_anyV (as := [_]) (q := 2) dL_law_670 mvL_75 ⟨Nat.le_trans (by decide) hR.1, Nat.le_trans (by decide) hR.2⟩ (L2 L) rfl rfl rfl (Nat.le_of_ble_eq_true rfl) ⟨rfl, rfl⟩ kn (m_X10_go (h.cv hP h22 h50) h.ui ra1) (fun r1 M1 hM1 => ?_)
  have uz := uz_go h hM1
  have h1 := h.up (fun k hk => uz k (Or.inr hk))
  have e0 : M1 0 = M 0 := uz 0 (Or.inl rfl)
  refine a_aloadn dL_law_673 rfl ?_
  refine a_aloadn dL_law_674 rfl ?_
  refine a_iload dL_law_675 rfl ?_
  refine a_iconst dL_law_677 ?_
  refine a_iadd dL_law_678 ?_
  refine b_iald dL_law_679 (L0 L) (by omega) (by omega) (by omega) (fun _ => ?_)
  rw [e0]
  refine a_anyV (as := [_]) (q := 209) dL_law_680 mvL_78 ⟨Nat.le_trans (by decide) hR.1, Nat.le_trans (by decide) hR.2⟩ (L209 L) rfl rfl rfl (Nat.le_of_ble_eq_true rfl) ⟨rfl, rfl⟩ kn (m_X11_go (h1.rv hP) h1.ur ra1) (fun r2 M2 hM2 => ?_)
  obtain ⟨e2, h2⟩ := f_go h hM1 hM2
  rw [e2]
  refine a_same (tgt := 1650) dL_law_683 (by decide) ?_
  exact kk M2 h2

set_option maxRecDepth 100000 in
set_option maxHeartbeats 4000000 in
theorem csL_note {G : zG} {l : Launch} {R : Room} {Z : zZ} {L : Nat} {P : zP} {M : zM} {k n t d : Nat} {i : Int} {x5 x6 : Option av} (hL : L ≤ 3072) (hR : LR R) (kn : k ≤ R.cells ∧ n ≤ R.slots) (hP : PFok P) (h22 : P 2 2 = some t) (h50 : P 50 0 = some t) (h : REL t d M M) (i0 : 0 ≤ i) (i1 : i + 6 ≤ L) (kk : ∀ M2, REL t d M2 M2 → AW G l (mdL R) Z 1650 (lsL i x5 x6) [] (LAY L) P M2 k n) : AW G l (mdL R) Z 1271 (lsL i x5 x6) [] (LAY L) P M k n := by
  refine a_aloadn dL_law_1271 rfl ?_
  refine a_aloadn dL_law_1272 rfl ?_
  refine a_iload dL_law_1273 rfl ?_
  refine a_iconst dL_law_1275 ?_
  refine a_iadd dL_law_1276 ?_
  refine b_iald dL_law_1277 (L0 L) (by omega) (by omega) (by omega) (fun ra1 => ?_)
  refine a_aloadn dL_law_1278 rfl ?_
  refine a_iload dL_law_1279 rfl ?_
  refine a_iconst dL_law_1281 ?_
  refine a_iadd dL_law_1282 ?_
  refine b_iald dL_law_1283 (L0 L) (by omega) (by omega) (by omega) (fun ra2 => ?_)
  refine a_aloadn dL_law_1284 rfl ?_
  refine a_iload dL_law_1285 rfl ?_
  refine a_iconst dL_law_1287 ?_
  refine a_iadd dL_law_1288 ?_
  refine b_iald dL_law_1289 (L0 L) (by omega) (by omega) (by omega) (fun ra3 => ?_)
  refine a_bool dL_law_1290 dL_law_1293 dL_law_1294 dL_law_1297 ra3 ?_
  refine a_anyV (as := [_, _, _]) (q := 2) dL_law_1298 mvL_156 ⟨Nat.le_trans (by decide) hR.1, Nat.le_trans (by decide) hR.2⟩ (L2 L) rfl rfl rfl (Nat.le_of_ble_eq_true rfl) ⟨rfl, rfl⟩ kn (m_X10_note (h.cv hP h22 h50) h.ni ra1 ra2 (bo_r _)) (fun r1 M1 hM1 => ?_)
  have uz := uz_note h hM1
  have h1 := h.up (fun k hk => uz k (Or.inr hk))
  have e0 : M1 0 = M 0 := uz 0 (Or.inl rfl)
  refine a_aloadn dL_law_1301 rfl ?_
  refine a_aloadn dL_law_1302 rfl ?_
  refine a_iload dL_law_1303 rfl ?_
  refine a_iconst dL_law_1305 ?_
  refine a_iadd dL_law_1306 ?_
  refine b_iald dL_law_1307 (L0 L) (by omega) (by omega) (by omega) (fun _ => ?_)
  rw [e0]
  refine a_aloadn dL_law_1308 rfl ?_
  refine a_iload dL_law_1309 rfl ?_
  refine a_iconst dL_law_1311 ?_
  refine a_iadd dL_law_1312 ?_
  refine b_iald dL_law_1313 (L0 L) (by omega) (by omega) (by omega) (fun _ => ?_)
  rw [e0]
  refine a_aloadn dL_law_1314 rfl ?_
  refine a_iload dL_law_1315 rfl ?_
  refine a_iconst dL_law_1317 ?_
  refine a_iadd dL_law_1318 ?_
  refine b_iald dL_law_1319 (L0 L) (by omega) (by omega) (by omega) (fun _ => ?_)
  rw [e0]
  refine a_bool dL_law_1320 dL_law_1323 dL_law_1324 dL_law_1327 ra3 ?_
  refine a_anyV (as := [_, _, _]) (q := 209) dL_law_1328 mvL_160 ⟨Nat.le_trans (by decide) hR.1, Nat.le_trans (by decide) hR.2⟩ (L209 L) rfl rfl rfl (Nat.le_of_ble_eq_true rfl) ⟨rfl, rfl⟩ kn (m_X11_note (h1.rv hP) h1.nri ra1 ra2 (bo_r _)) (fun r2 M2 hM2 => ?_)
  obtain ⟨e2, h2⟩ := f_note h (bo_r _) hM1 hM2
  rw [e2]
  refine a_same (tgt := 1650) dL_law_1331 (by decide) ?_
  exact kk M2 h2

set_option maxRecDepth 100000 in
set_option maxHeartbeats 4000000 in
theorem csL_see {G : zG} {l : Launch} {R : Room} {Z : zZ} {L : Nat} {P : zP} {M : zM} {k n t d : Nat} {i : Int} {x5 x6 : Option av} (hL : L ≤ 3072) (hR : LR R) (kn : k ≤ R.cells ∧ n ≤ R.slots) (hP : PFok P) (h22 : P 2 2 = some t) (h50 : P 50 0 = some t) (h : REL t d M M) (i0 : 0 ≤ i) (i1 : i + 6 ≤ L) (kk : ∀ M2, REL t d M2 M2 → AW G l (mdL R) Z 1650 (lsL i x5 x6) [] (LAY L) P M2 k n) : AW G l (mdL R) Z 1336 (lsL i x5 x6) [] (LAY L) P M k n := by
  refine a_aloadn dL_law_1336 rfl ?_
  refine a_aloadn dL_law_1337 rfl ?_
  refine a_iload dL_law_1338 rfl ?_
  refine a_iconst dL_law_1340 ?_
  refine a_iadd dL_law_1341 ?_
  refine b_iald dL_law_1342 (L0 L) (by omega) (by omega) (by omega) (fun ra1 => ?_)
  refine a_aloadn dL_law_1343 rfl ?_
  refine a_iload dL_law_1344 rfl ?_
  refine a_iconst dL_law_1346 ?_
  refine a_iadd dL_law_1347 ?_
  refine b_iald dL_law_1348 (L0 L) (by omega) (by omega) (by omega) (fun ra2 => ?_)
  refine a_aloadn dL_law_1349 rfl ?_
  refine a_iload dL_law_1350 rfl ?_
  refine a_iconst dL_law_1352 ?_
  refine a_iadd dL_law_1353 ?_
  refine b_iald dL_law_1354 (L0 L) (by omega) (by omega) (by omega) (fun ra3 => ?_)
  refine a_aloadn dL_law_1355 rfl ?_
  refine a_iload dL_law_1356 rfl ?_
  refine a_iconst dL_law_1358 ?_
  refine a_iadd dL_law_1359 ?_
  refine b_iald dL_law_1360 (L0 L) (by omega) (by omega) (by omega) (fun ra4 => ?_)
  refine a_bool dL_law_1361 dL_law_1364 dL_law_1365 dL_law_1368 ra4 ?_
  refine a_anyV (as := [_, _, _, _]) (q := 2) dL_law_1369 mvL_161 ⟨Nat.le_trans (by decide) hR.1, Nat.le_trans (by decide) hR.2⟩ (L2 L) rfl rfl rfl (Nat.le_of_ble_eq_true rfl) ⟨rfl, rfl⟩ kn (m_X10_see (h.cv hP h22 h50) h.ni ra1 ra2 ra3 (bo_r _)) (fun r1 M1 hM1 => ?_)
  have uz := uz_see h hM1
  have h1 := h.up (fun k hk => uz k (Or.inr hk))
  have e0 : M1 0 = M 0 := uz 0 (Or.inl rfl)
  refine a_aloadn dL_law_1372 rfl ?_
  refine a_aloadn dL_law_1373 rfl ?_
  refine a_iload dL_law_1374 rfl ?_
  refine a_iconst dL_law_1376 ?_
  refine a_iadd dL_law_1377 ?_
  refine b_iald dL_law_1378 (L0 L) (by omega) (by omega) (by omega) (fun _ => ?_)
  rw [e0]
  refine a_aloadn dL_law_1379 rfl ?_
  refine a_iload dL_law_1380 rfl ?_
  refine a_iconst dL_law_1382 ?_
  refine a_iadd dL_law_1383 ?_
  refine b_iald dL_law_1384 (L0 L) (by omega) (by omega) (by omega) (fun _ => ?_)
  rw [e0]
  refine a_aloadn dL_law_1385 rfl ?_
  refine a_iload dL_law_1386 rfl ?_
  refine a_iconst dL_law_1388 ?_
  refine a_iadd dL_law_1389 ?_
  refine b_iald dL_law_1390 (L0 L) (by omega) (by omega) (by omega) (fun _ => ?_)
  rw [e0]
  refine a_aloadn dL_law_1391 rfl ?_
  refine a_iload dL_law_1392 rfl ?_
  refine a_iconst dL_law_1394 ?_
  refine a_iadd dL_law_1395 ?_
  refine b_iald dL_law_1396 (L0 L) (by omega) (by omega) (by omega) (fun _ => ?_)
  rw [e0]
  refine a_bool dL_law_1397 dL_law_1400 dL_law_1401 dL_law_1404 ra4 ?_
  refine a_anyV (as := [_, _, _, _]) (q := 209) dL_law_1405 mvL_165 ⟨Nat.le_trans (by decide) hR.1, Nat.le_trans (by decide) hR.2⟩ (L209 L) rfl rfl rfl (Nat.le_of_ble_eq_true rfl) ⟨rfl, rfl⟩ kn (m_X11_see (h1.rv hP) h1.nri ra1 ra2 ra3 (bo_r _)) (fun r2 M2 hM2 => ?_)
  obtain ⟨e2, h2⟩ := f_see h (bo_r _) hM1 hM2
  rw [e2]
  refine a_same (tgt := 1650) dL_law_1408 (by decide) ?_
  exact kk M2 h2

set_option maxRecDepth 100000 in
set_option maxHeartbeats 4000000 in
theorem csL_strike {G : zG} {l : Launch} {R : Room} {Z : zZ} {L : Nat} {P : zP} {M : zM} {k n t d : Nat} {i : Int} {x5 x6 : Option av} (hL : L ≤ 3072) (hR : LR R) (kn : k ≤ R.cells ∧ n ≤ R.slots) (hP : PFok P) (h22 : P 2 2 = some t) (h50 : P 50 0 = some t) (h : REL t d M M) (i0 : 0 ≤ i) (i1 : i + 6 ≤ L) (kk : ∀ M2, REL t d M2 M2 → AW G l (mdL R) Z 1650 (lsL i x5 x6) [] (LAY L) P M2 k n) : AW G l (mdL R) Z 1413 (lsL i x5 x6) [] (LAY L) P M k n := by
  refine a_aloadn dL_law_1413 rfl ?_
  refine a_aloadn dL_law_1414 rfl ?_
  refine a_iload dL_law_1415 rfl ?_
  refine a_iconst dL_law_1417 ?_
  refine a_iadd dL_law_1418 ?_
  refine b_iald dL_law_1419 (L0 L) (by omega) (by omega) (by omega) (fun ra1 => ?_)
  refine a_anyV (as := [_]) (q := 2) dL_law_1420 mvL_166 ⟨Nat.le_trans (by decide) hR.1, Nat.le_trans (by decide) hR.2⟩ (L2 L) rfl rfl rfl (Nat.le_of_ble_eq_true rfl) ⟨rfl, rfl⟩ kn (m_X10_strike (h.cv hP h22 h50) h.ni ra1) (fun r1 M1 hM1 => ?_)
  have uz := uz_strike h hM1
  have h1 := h.up (fun k hk => uz k (Or.inr hk))
  have e0 : M1 0 = M 0 := uz 0 (Or.inl rfl)
  refine a_aloadn dL_law_1423 rfl ?_
  refine a_aloadn dL_law_1424 rfl ?_
  refine a_iload dL_law_1425 rfl ?_
  refine a_iconst dL_law_1427 ?_
  refine a_iadd dL_law_1428 ?_
  refine b_iald dL_law_1429 (L0 L) (by omega) (by omega) (by omega) (fun _ => ?_)
  rw [e0]
  refine a_anyV (as := [_]) (q := 209) dL_law_1430 mvL_169 ⟨Nat.le_trans (by decide) hR.1, Nat.le_trans (by decide) hR.2⟩ (L209 L) rfl rfl rfl (Nat.le_of_ble_eq_true rfl) ⟨rfl, rfl⟩ kn (m_X11_strike (h1.rv hP) h1.nri ra1) (fun r2 M2 hM2 => ?_)
  obtain ⟨e2, h2⟩ := f_strike h hM1 hM2
  rw [e2]
  refine a_same (tgt := 1650) dL_law_1433 (by decide) ?_
  exact kk M2 h2

set_option maxRecDepth 100000 in
set_option maxHeartbeats 4000000 in
theorem csL_known {G : zG} {l : Launch} {R : Room} {Z : zZ} {L : Nat} {P : zP} {M : zM} {k n t d : Nat} {i : Int} {x5 x6 : Option av} (hL : L ≤ 3072) (hR : LR R) (kn : k ≤ R.cells ∧ n ≤ R.slots) (hP : PFok P) (h22 : P 2 2 = some t) (h50 : P 50 0 = some t) (h : REL t d M M) (i0 : 0 ≤ i) (i1 : i + 6 ≤ L) (kk : ∀ M2, REL t d M2 M2 → AW G l (mdL R) Z 1650 (lsL i x5 x6) [] (LAY L) P M2 k n) : AW G l (mdL R) Z 1438 (lsL i x5 x6) [] (LAY L) P M k n := by
  refine a_aloadn dL_law_1438 rfl ?_
  refine a_aloadn dL_law_1439 rfl ?_
  refine a_iload dL_law_1440 rfl ?_
  refine a_iconst dL_law_1442 ?_
  refine a_iadd dL_law_1443 ?_
  refine b_iald dL_law_1444 (L0 L) (by omega) (by omega) (by omega) (fun ra1 => ?_)
  refine a_anyV (as := [_]) (q := 2) dL_law_1445 mvL_170 ⟨Nat.le_trans (by decide) hR.1, Nat.le_trans (by decide) hR.2⟩ (L2 L) rfl rfl rfl (Nat.le_of_ble_eq_true rfl) ⟨rfl, rfl⟩ kn (m_X10_known (h.cv hP h22 h50) h.ni ra1) (fun r1 M1 hM1 => ?_)
  have uz := uz_known h hM1
  have h1 := h.up (fun k hk => uz k (Or.inr hk))
  have e0 : M1 0 = M 0 := uz 0 (Or.inl rfl)
  refine a_aloadn dL_law_1448 rfl ?_
  refine a_aloadn dL_law_1449 rfl ?_
  refine a_iload dL_law_1450 rfl ?_
  refine a_iconst dL_law_1452 ?_
  refine a_iadd dL_law_1453 ?_
  refine b_iald dL_law_1454 (L0 L) (by omega) (by omega) (by omega) (fun _ => ?_)
  rw [e0]
  refine a_anyV (as := [_]) (q := 209) dL_law_1455 mvL_174 ⟨Nat.le_trans (by decide) hR.1, Nat.le_trans (by decide) hR.2⟩ (L209 L) rfl rfl rfl (Nat.le_of_ble_eq_true rfl) ⟨rfl, rfl⟩ kn (m_X11_known (h1.rv hP) h1.nri ra1) (fun r2 M2 hM2 => ?_)
  obtain ⟨e2, h2⟩ := f_known h hM1 hM2
  rw [e2]
  refine a_same (tgt := 1650) dL_law_1458 (by decide) ?_
  exact kk M2 h2

set_option maxRecDepth 100000 in
set_option maxHeartbeats 4000000 in
theorem csL_undo {G : zG} {l : Launch} {R : Room} {Z : zZ} {L : Nat} {P : zP} {M : zM} {k n t d : Nat} {i : Int} {x5 x6 : Option av} (hL : L ≤ 3072) (hR : LR R) (kn : k ≤ R.cells ∧ n ≤ R.slots) (hP : PFok P) (h22 : P 2 2 = some t) (h50 : P 50 0 = some t) (h : REL t d M M) (i0 : 0 ≤ i) (i1 : i + 6 ≤ L) (kk : ∀ M2, REL t d M2 M2 → AW G l (mdL R) Z 1650 (lsL i x5 x6) [] (LAY L) P M2 k n) : AW G l (mdL R) Z 1586 (lsL i x5 x6) [] (LAY L) P M k n := by
  refine a_aloadn dL_law_1586 rfl ?_
  refine a_anyV (as := []) (q := 2) dL_law_1587 mvL_188 ⟨Nat.le_trans (by decide) hR.1, Nat.le_trans (by decide) hR.2⟩ (L2 L) rfl rfl rfl (Nat.le_of_ble_eq_true rfl) ⟨rfl, rfl⟩ kn (m_X10_undo (h.cv hP h22 h50) h.ui ) (fun r1 M1 hM1 => ?_)
  have uz := uz_undo h hM1
  have h1 := h.up (fun k hk => uz k (Or.inr hk))
  have e0 : M1 0 = M 0 := uz 0 (Or.inl rfl)
  refine a_aloadn dL_law_1590 rfl ?_
  refine a_anyV (as := []) (q := 209) dL_law_1591 mvL_191 ⟨Nat.le_trans (by decide) hR.1, Nat.le_trans (by decide) hR.2⟩ (L209 L) rfl rfl rfl (Nat.le_of_ble_eq_true rfl) ⟨rfl, rfl⟩ kn (m_X11_undo (h1.rv hP) h1.ur ) (fun r2 M2 hM2 => ?_)
  obtain ⟨e2, h2⟩ := f_undo h hM1 hM2
  rw [e2]
  refine a_same (tgt := 1650) dL_law_1594 (by decide) ?_
  exact kk M2 h2

set_option maxRecDepth 100000 in
set_option maxHeartbeats 4000000 in
theorem csL_keep {G : zG} {l : Launch} {R : Room} {Z : zZ} {L : Nat} {P : zP} {M : zM} {k n t d : Nat} {i : Int} {x5 x6 : Option av} (hL : L ≤ 3072) (hR : LR R) (kn : k ≤ R.cells ∧ n ≤ R.slots) (hP : PFok P) (h22 : P 2 2 = some t) (h50 : P 50 0 = some t) (h : REL t d M M) (i0 : 0 ≤ i) (i1 : i + 6 ≤ L) (kk : ∀ M2, REL t d M2 M2 → AW G l (mdL R) Z 1650 (lsL i x5 x6) [] (LAY L) P M2 k n) : AW G l (mdL R) Z 1599 (lsL i x5 x6) [] (LAY L) P M k n := by
  refine a_aloadn dL_law_1599 rfl ?_
  refine a_anyV (as := []) (q := 2) dL_law_1600 mvL_192 ⟨Nat.le_trans (by decide) hR.1, Nat.le_trans (by decide) hR.2⟩ (L2 L) rfl rfl rfl (Nat.le_of_ble_eq_true rfl) ⟨rfl, rfl⟩ kn (m_X10_keep (h.cv hP h22 h50) ) (fun r1 M1 hM1 => ?_)
  have uz := uz_keep h hM1
  have h1 := h.up (fun k hk => uz k (Or.inr hk))
  have e0 : M1 0 = M 0 := uz 0 (Or.inl rfl)
  refine a_aloadn dL_law_1603 rfl ?_
  refine a_anyV (as := []) (q := 209) dL_law_1604 mvL_195 ⟨Nat.le_trans (by decide) hR.1, Nat.le_trans (by decide) hR.2⟩ (L209 L) rfl rfl rfl (Nat.le_of_ble_eq_true rfl) ⟨rfl, rfl⟩ kn (m_X11_keep (h1.rv hP) ) (fun r2 M2 hM2 => ?_)
  obtain ⟨e2, h2⟩ := f_keep h hM1 hM2
  rw [e2]
  refine a_same (tgt := 1650) dL_law_1607 (by decide) ?_
  exact kk M2 h2

set_option maxRecDepth 100000 in
set_option maxHeartbeats 4000000 in
theorem csL_back {G : zG} {l : Launch} {R : Room} {Z : zZ} {L : Nat} {P : zP} {M : zM} {k n t d : Nat} {i : Int} {x5 x6 : Option av} (hL : L ≤ 3072) (hR : LR R) (kn : k ≤ R.cells ∧ n ≤ R.slots) (hP : PFok P) (h22 : P 2 2 = some t) (h50 : P 50 0 = some t) (h : REL t d M M) (i0 : 0 ≤ i) (i1 : i + 6 ≤ L) (kk : ∀ M2, REL t d M2 M2 → AW G l (mdL R) Z 1650 (lsL i x5 x6) [] (LAY L) P M2 k n) : AW G l (mdL R) Z 1612 (lsL i x5 x6) [] (LAY L) P M k n := by
  refine a_aloadn dL_law_1612 rfl ?_
  refine a_anyV (as := []) (q := 2) dL_law_1613 mvL_196 ⟨Nat.le_trans (by decide) hR.1, Nat.le_trans (by decide) hR.2⟩ (L2 L) rfl rfl rfl (Nat.le_of_ble_eq_true rfl) ⟨rfl, rfl⟩ kn (m_X10_back (h.cv hP h22 h50) ) (fun r1 M1 hM1 => ?_)
  have uz := uz_back h hM1
  have h1 := h.up (fun k hk => uz k (Or.inr hk))
  have e0 : M1 0 = M 0 := uz 0 (Or.inl rfl)
  refine a_aloadn dL_law_1616 rfl ?_
  refine a_anyV (as := []) (q := 209) dL_law_1617 mvL_199 ⟨Nat.le_trans (by decide) hR.1, Nat.le_trans (by decide) hR.2⟩ (L209 L) rfl rfl rfl (Nat.le_of_ble_eq_true rfl) ⟨rfl, rfl⟩ kn (m_X11_back (h1.rv hP) ) (fun r2 M2 hM2 => ?_)
  obtain ⟨e2, h2⟩ := f_back h hM1 hM2
  rw [e2]
  refine a_same (tgt := 1650) dL_law_1620 (by decide) ?_
  exact kk M2 h2
