section ZTEXT2
theorem cpP_f {q : Nat} {nn i j : Int} {M : zM} {k : Nat} (h : k = q → i ≤ j) : cpP q nn i M k j = M k j := by
  unfold cpP
  rw [if_neg (fun z => by have := h z.1; omega)]
/-- keeping a text leaves the second halves -/
theorem kt_h (M : zM) {k : Nat} {j : Int} (hk : 213 ≤ k ∧ k ≤ 222) (h : (k = 213 → 4 ≤ j) ∧ ((214 ≤ k ∧ k ≤ 216) → 6 ≤ j) ∧ ((217 ≤ k ∧ k ≤ 219) → 10 ≤ j) ∧ ((220 ≤ k ∧ k ≤ 222) → 12 ≤ j)) : ktM M k j = M k j := by
  unfold ktM ktB ktA
  rw [cpP_f (by omega), cpP_f (by omega), cpP_f (by omega), cpP_f (by omega), cpP_f (by omega), cpP_f (by omega), cpP_f (by omega), cpP_f (by omega), cpP_f (by omega), cpP_f (by omega), cpP_f (by omega), cpP_f (by omega), cpP_f (by omega), cpP_f (by omega), cpP_f (by omega), cpP_f (by omega), sm_n (by omega), sm_n (by omega), sm_n (by omega), sm_n (by omega)]
theorem Rg.kt {M R : zM} (g : Rg M) (hr : ∀ k : Nat, 213 ≤ k → k ≤ 228 → R k = ktM M k) : Rg R := by
  obtain ⟨a, b, c, d1, d2, d3, d4⟩ := g
  unfold Rg
  rw [hr 213 (by omega) (by omega), hr 215 (by omega) (by omega), hr 216 (by omega) (by omega), hr 217 (by omega) (by omega), hr 218 (by omega) (by omega), hr 219 (by omega) (by omega), hr 220 (by omega) (by omega), hr 221 (by omega) (by omega), hr 222 (by omega) (by omega), kt_h M (k := 213) (j := 4) (by omega) (by omega), kt_h M (k := 213) (j := 5) (by omega) (by omega), kt_h M (k := 213) (j := 6) (by omega) (by omega), kt_h M (k := 213) (j := 7) (by omega) (by omega)]
  refine ⟨fun i x y => ?_, fun i x y => ?_, fun i x y => ?_, d1, d2, d3, d4⟩
  · rw [kt_h M (by omega) (by omega), kt_h M (by omega) (by omega)]; exact a i x y
  · rw [kt_h M (by omega) (by omega), kt_h M (by omega) (by omega), kt_h M (by omega) (by omega)]; exact b i x y
  · rw [kt_h M (by omega) (by omega), kt_h M (by omega) (by omega), kt_h M (by omega) (by omega)]; exact c i x y
theorem Rg.txi {M R : zM} (g : Rg M) (hr : ∀ k : Nat, 213 ≤ k → k ≤ 228 → R k = ktM M k) (n1 : 0 ≤ R 209 12 ∧ R 209 12 ≤ 6) (n2 : 0 ≤ R 209 13 ∧ R 209 13 ≤ 10) (n3 : 0 ≤ R 209 14 ∧ R 209 14 ≤ 12) : TxI R := by
  obtain ⟨a, b, c, d1, d2, d3, d4⟩ := g
  unfold TxI
  rw [hr 213 (by omega) (by omega), hr 215 (by omega) (by omega), hr 216 (by omega) (by omega), hr 217 (by omega) (by omega), hr 218 (by omega) (by omega), hr 219 (by omega) (by omega), hr 220 (by omega) (by omega), hr 221 (by omega) (by omega), hr 222 (by omega) (by omega)]
  refine ⟨n1, n2, n3, fun i x y => ?_, fun i x y => ?_, fun i x y => ?_, fun i x y => ?_, ?_, ?_, ?_, ?_⟩
  · rw [kt_215 M ⟨x, y⟩]; exact (a _ (by omega) (by omega)).1
  · rw [kt_216 M ⟨x, y⟩]; exact (a _ (by omega) (by omega)).2
  · rw [kt_217 M ⟨x, y⟩, kt_218 M ⟨x, y⟩, kt_219 M ⟨x, y⟩]; exact b _ (by omega) (by omega)
  · rw [kt_220 M ⟨x, y⟩, kt_221 M ⟨x, y⟩, kt_222 M ⟨x, y⟩]; exact c _ (by omega) (by omega)
  · rw [kt_213 M (j := 0) (by omega)]; exact d1
  · rw [kt_213 M (j := 1) (by omega)]; exact d2
  · rw [kt_213 M (j := 2) (by omega)]; exact d3
  · rw [kt_213 M (j := 3) (by omega)]; exact d4
theorem bg_n (X : zM) {k : Nat} (h : k ≠ 209) : bgM X k = X k := by
  unfold bgM ptM
  simp only [sm_n h]
theorem bg_9 (X : zM) {i : Int} (h : ¬ ((54 ≤ i ∧ i ≤ 62) ∨ i = 65 ∨ i = 67)) : bgM X 209 i = X 209 i := by
  unfold bgM ptM
  simp only [sm_k]
  rw [us_n (by omega), us_n (by omega), us_n (by omega), us_n (by omega), us_n (by omega), us_n (by omega), us_n (by omega), us_n (by omega), us_n (by omega), us_n (by omega), us_n (by omega)]
theorem bg_v (X : zM) : bgM X 209 54 = X 213 3 ∧ bgM X 209 60 = X 213 0 ∧ bgM X 209 61 = 0 ∧ bgM X 209 62 = -1 ∧ bgM X 209 65 = 0 ∧ bgM X 209 67 = 0 := by
  unfold bgM ptM
  refine ⟨?_, ?_, ?_, ?_, ?_, ?_⟩ <;> simp (disch := decide) only [sm_k, sm_n, us_s, us_n]
theorem ag_n (d : Nat) (M : zM) {k : Nat} (h : k ≠ 50) : agM d M k = M k := by unfold agM; simp only [sm_n h]
theorem ag_1 (d : Nat) (M : zM) : agM d M 50 1 = M (d + 10) 0 := by unfold agM; simp (disch := decide) only [sm_k, us_s, us_n]
/-- a text with no fault -/
theorem f_text2 {t d : Nat} {nn : Int} {M Mf Mx M1 Mr X M2 : zM} (h : REL t d M M) (cf : ∀ k : Nat, k ≠ 2 → ¬ (42 ≤ k ∧ k ≤ 49 ∧ k ≠ 44) → ¬ (d ≤ k ∧ k ≤ d + 18) → Mf k = M k) (c2 : Mf 2 1 = 0) (iD : RdI d Mf) (h6 : Mf 42 6 = 0) (h7 : Mf 42 7 = -1) (sb : SBU d Mf) (bg : BgR (agM d Mf) 61 d Mx) (e1 : M1 = sm (sm (sm (sm Mx 201 6 0) 201 7 (-1)) 79 2 0) 2 10 0) (tx : TxX d Mf Mr) (f : FrT (m0T nn M1) Mr) (r4 : Mr 209 4 = 0 ∧ Mr 209 5 = -1) (af : AfR 0 (ktM Mr) X) (e2 : M2 = bgM X) : REL d t M2 M2 := by
  have t9 := h.t9
  have td := h.td
  obtain ⟨_, jt, k1, jl, _, _, _, _⟩ := iD
  have mx : ∀ k : Nat, k ≠ 50 → ¬ (61 ≤ k ∧ k ≤ 66) → Mx k = Mf k := fun k x y => by rw [bg.2.2.2.2 k (by omega), ag_n d Mf x]
  have c0 : ∀ k : Nat, k ≠ 2 → k ≠ 50 → ¬ (61 ≤ k ∧ k ≤ 66) → k ≠ 79 → k ≠ 201 → M1 k = Mf k := fun k x y z u v => by rw [e1, sm_n x, sm_n u, sm_n v, sm_n v, mx k y z]
  have cx : ∀ k : Nat, k ≠ 2 → k ≠ 79 → k ≠ 201 → M1 k = Mx k := fun k x u v => by rw [e1, sm_n x, sm_n u, sm_n v, sm_n v]
  have up : Up M M1 := fun k hk => by rw [c0 k (by omega) (by omega) (by omega) (by omega) (by omega), cf k (by omega) (by omega) (by omega)]
  have h1 := h.up up
  obtain ⟨_, r0, r9, r91, rg⟩ := tx_fr f
  have gr := rg h1.2.2.2.2.1.2
  -- the reference
  have x0 : ∀ k : Nat, ¬ (233 ≤ k ∧ k ≤ 238) → X k = ktM Mr k := fun k hk => funext fun i => af.2.2.2 k i (by omega) (by omega) (by omega)
  have m0 : ∀ k : Nat, k ≠ 209 → M2 k = X k := fun k hk => by rw [e2]; exact bg_n X hk
  have m9 : ∀ i : Int, ¬ ((54 ≤ i ∧ i ≤ 62) ∨ i = 65 ∨ i = 67) → M2 209 i = ktM Mr 209 i := fun i hi => by rw [e2, bg_9 X hi, x0 209 (by omega)]
  have hr : ∀ k : Nat, 213 ≤ k → k ≤ 228 → M2 k = ktM Mr k := fun k x y => by rw [m0 k (by omega), x0 k (by omega)]
  have mr : ∀ k : Nat, k < 209 ∨ k = 210 ∨ k = 211 → M2 k = M1 k := fun k hk => by rw [m0 k (by omega), x0 k (by omega), kt_n Mr (by omega), r0 k (by omega)]
  obtain ⟨v1, v2, v3, v4, v5, v6⟩ := bg_v X
  rw [← e2] at v1 v2 v3 v4 v5 v6
  refine REL.lo (C := M1) ?_ (fun k hk => mr k (by omega))
  have tkf : TKp d Mf M2 := kt_tk tx jt jl k1.2 sb hr (fun j x y => m9 j (by omega))
  have tk : TKp d M1 M2 := tkf.of (fun q x y => c0 q (by omega) (by omega) (by omega) (by omega) (by omega)) (fun _ _ _ => rfl) (fun _ _ _ => rfl)
  have tkg : TKp d (agM d Mf) (ktM Mr) := (kt_tk tx jt jl k1.2 sb (fun _ _ _ => rfl) (fun _ _ _ => rfl)).of (fun q x y => ag_n d Mf (by omega)) (fun _ _ _ => rfl) (fun _ _ _ => rfl)
  have jg : ToI (agM d Mf) d := jt.eq (fun q x y => ag_n d Mf (by omega))
  have sx := bg_sr (by omega) tkg jg.1 bg af
  have s1 : SRl d 61 0 M1 M2 := sx.of (by rw [cx d (by omega) (by omega) (by omega)]) (fun q x y => cx q (by omega) (by omega) (by omega)) (by rw [cx 61 (by omega) (by omega) (by omega)]) (fun q x y => m0 q (by omega)) (by rw [m0 238 (by omega)])
  have st : StI M1 61 := (bg.sti jg).at9 (fun i x y => cx _ (by omega) (by omega) (by omega)) (by rw [cx 61 (by omega) (by omega) (by omega)]) (by rw [cx 61 (by omega) (by omega) (by omega)])
  have j1 : ToI M1 d := jt.eq (fun q x y => c0 q (by omega) (by omega) (by omega) (by omega) (by omega))
  have p13 : ∀ k : Int, 0 ≤ k → k < 4 → X 213 k = Mf (d + 10) k := fun k x y => by rw [← m0 213 (by decide)]; exact tkf.2.2.2.2.1 k x y
  have q50 : M1 50 1 = M1 (d + 10) 0 := by rw [cx 50 (by decide) (by decide) (by decide), bg.2.2.2.2 50 (by omega), ag_1, c0 (d + 10) (by omega) (by omega) (by omega) (by omega) (by omega)]
  have q54 : M2 209 54 = M1 61 6 := by rw [v1, p13 3 (by decide) (by decide), cx 61 (by decide) (by decide) (by decide), bg.2.2.2.1, ag_n d Mf (by omega)]
  have q61 : M1 61 5 = 0 := by rw [cx 61 (by decide) (by decide) (by decide)]; exact bg.2.2.1
  have q79 : M1 79 2 = 0 ∧ M1 79 1 = M 79 1 := ⟨by rw [e1, sm_n (by decide), sm_s], by rw [e1, sm_n (by decide), sm_k, us_n (by decide), sm_n (by decide), sm_n (by decide), mx 79 (by decide) (by decide), cf 79 (by decide) (by decide) (by omega)]⟩
  have q201 : M1 201 6 = 0 ∧ M1 201 7 = -1 := ⟨by rw [e1, sm_n (by decide), sm_n (by decide), sm_k, us_n (by decide), sm_s], by rw [e1, sm_n (by decide), sm_n (by decide), sm_s]⟩
  have q2 : M1 2 10 = 0 ∧ M1 2 1 = 0 := ⟨by rw [e1, sm_s], by rw [e1, sm_k, us_n (by decide), sm_n (by decide), sm_n (by decide), sm_n (by decide), mx 2 (by decide) (by decide), c2]⟩
  have u1 := h.1.2.1.1.2.1
  have cM : ∀ k : Nat, k = 1 ∨ k = 3 ∨ k = 44 ∨ (t ≤ k ∧ k ≤ t + 18) → M1 k = M k := fun k hk => by rw [c0 k (by omega) (by omega) (by omega) (by omega) (by omega), cf k (by omega) (by omega) (by omega)]
  have ti : TxI M2 := gr.txi hr (by rw [tk.1.1]; exact j1.1) (by rw [tk.1.2.1]; exact j1.2.1) (by rw [tk.1.2.2.1]; exact j1.2.2.1)
  have k19 : Mr 209 19 ≤ 64 := by rw [tx.2.2.2.2.2.2]; exact k1.2
  have lr0 : LrI M2 0 := kt_lr (u := 0) (by omega) (tx.2.2.2.2.1 0 (by omega)) jl.1 k19 hr
  have lr1 : LrI M2 1 := kt_lr (u := 1) (by omega) (tx.2.2.2.2.1 1 (by omega)) jl.2.1 k19 hr
  have lr2 : LrI M2 2 := kt_lr (u := 2) (by omega) (tx.2.2.2.2.1 2 (by omega)) jl.2.2 k19 hr
  have sI : SmI M2 0 := by
    refine ⟨fun i x y => ?_, fun i x y => ?_, fun i x y => ?_, ?_⟩
    · rw [m0 233 (by decide), (af.1 i x y).1, ← hr 215 (by omega) (by omega)]; exact ti.2.2.2.1 i x y
    · rw [m0 234 (by decide), (af.1 i x y).2.1, ← hr 216 (by omega) (by omega)]; exact ti.2.2.2.2.1 i x y
    · rw [m0 236 (by decide), (af.2.1 i x y).1]; decide
    · rw [m0 238 (by decide), af.2.2.1]; decide
  have b60 : 0 ≤ M2 209 60 ∧ M2 209 60 ≤ 20 := by rw [v2, ← m0 213 (by decide)]; exact ti.2.2.2.2.2.2.2.1
  have b54 : 0 ≤ M2 209 54 ∧ M2 209 54 ≤ 2147483647 := by rw [q54]; exact st.2.2.2.2.2.2
  obtain ⟨l1, l2, l3⟩ := jl
  refine ⟨⟨⟨tk, s1, q54, ⟨j1, st⟩, by omega, q50⟩, ⟨⟨by rw [v5, q79.1], ?_⟩, fun q x y => by rw [q79.1] at y; omega⟩, ⟨by rw [v6, q2.1], fun z => absurd q2.1 z⟩⟩, ⟨⟨⟨by rw [v3, q201.1], by rw [v4, q201.2]⟩, fun i x y => by rw [q201.1] at y; omega⟩, ⟨by rw [q201.1]; decide, by rw [q201.1, q201.2]; decide, fun i x y => by rw [q201.1] at y; omega⟩⟩, ⟨⟨by rw [mr 210 (by omega), cM 3 (by omega)]; exact h1.2.2.1.1.1, by rw [m9 1 (by omega), kt_9 Mr (by omega), r91, q2.2]⟩, by rw [q2.2]; decide⟩, ⟨by rw [m9 4 (by omega), kt_9 Mr (by omega), r4.1, c0 42 (by omega) (by omega) (by omega) (by omega) (by omega), h6], by rw [m9 5 (by omega), kt_9 Mr (by omega), r4.2, c0 42 (by omega) (by omega) (by omega) (by omega) (by omega), h7]⟩, ⟨⟨⟨ti, ⟨lr0, lr1, lr2⟩, sI, b60⟩, b54⟩, gr.kt hr⟩, ⟨by rw [q61]; decide, ⟨l1.c9 (c0 _ (by omega) (by omega) (by omega) (by omega) (by omega)) (c0 _ (by omega) (by omega) (by omega) (by omega) (by omega)), l2.c9 (c0 _ (by omega) (by omega) (by omega) (by omega) (by omega)) (c0 _ (by omega) (by omega) (by omega) (by omega) (by omega)), l3.c9 (c0 _ (by omega) (by omega) (by omega) (by omega) (by omega)) (c0 _ (by omega) (by omega) (by omega) (by omega) (by omega))⟩, sb.of (by rw [c0 d (by omega) (by omega) (by omega) (by omega) (by omega)]) (c0 _ (by omega) (by omega) (by omega) (by omega) (by omega)) (c0 _ (by omega) (by omega) (by omega) (by omega) (by omega)) (c0 _ (by omega) (by omega) (by omega) (by omega) (by omega)) (by rw [c0 d (by omega) (by omega) (by omega) (by omega) (by omega)]; exact Int.le_refl _), h.1.1.2.2.2.1.1.eq (fun q x y => cM q (by omega))⟩, ⟨by rw [cM 44 (by omega)]; exact h.2.2.2.2.2.2.1.1, by rw [cM 1 (by omega)]; exact h.2.2.2.2.2.2.1.2.1, by rw [mr 211 (by omega)]; exact h1.2.2.2.2.2.2.1.2.2⟩, by omega⟩
  unfold UI
  rw [q79.1, q79.2]; omega
end ZTEXT2
