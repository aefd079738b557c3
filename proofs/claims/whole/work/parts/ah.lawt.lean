set_option maxRecDepth 100000 in
set_option maxHeartbeats 4000000 in
theorem csL_text {G : zG} {l : Launch} {R : Room} {Z : zZ} {L : Nat} {P : zP} {M : zM} {k n t d : Nat} {i : Int} {x5 x6 : Option av} (hL : L ≤ 3072) (hR : LR R) (kn : k ≤ R.cells ∧ n ≤ R.slots) (hP : PFok P) (h22 : P 2 2 = some t) (h23 : P 2 3 = some d) (h50 : P 50 0 = some t) (h : REL t d M M) (i0 : 0 ≤ i) (i1 : i + 6 ≤ L) (kk : ∀ (t2 d2 : Nat) (P2 : zP) (M2 : zM), PFok P2 → P2 2 2 = some t2 → P2 2 3 = some d2 → P2 50 0 = some t2 → REL t2 d2 M2 M2 → AW G l (mdL R) Z 1650 (lsL i x5 x6) [] (LAY L) P2 M2 k n) : AW G l (mdL R) Z 297 (lsL i x5 x6) [] (LAY L) P M k n := by
  have td := h.td
  refine a_aloadn dL_law_297 rfl ?_
  refine a_aloadn dL_law_298 rfl ?_
  refine a_iload dL_law_299 rfl ?_
  refine a_iconst dL_law_301 ?_
  refine a_iadd dL_law_302 ?_
  refine b_iald dL_law_303 (L0 L) (by omega) (by omega) (by omega) (fun ra1 => ?_)
  have hz : mdX10_text.2.2.2.2.2.cells = 0 ∧ mdX10_text.2.2.2.2.2.slots = 0 := ⟨rfl, rfl⟩
  refine a_invV (as := [_]) (q := 2) dL_law_304 mvL_26 ⟨Nat.le_trans (by decide) hR.1, Nat.le_trans (by decide) hR.2⟩ (L2 L) rfl rfl rfl (Nat.le_of_ble_eq_true rfl) (by rw [hz.1, hz.2]; exact kn) (m_X10_text hP td h22 h23 h50 h.2.2.2.2.2.2.1.1 h.2.2.2.2.2.2.1.2.1 h.2.2.2.2.2.1.2.2.2 h.2.2.1.2.2 ra1) ?_
  rintro r lay2 P2 M1 ⟨rfl, hP2, hcase⟩
  rw [hz.1, hz.2]
  have rest : ∀ (r1 : Int), (M1 0 = M 0) → (∃ E : Int → zM → Prop, AM G l yX11_text mdX11_text [aR 209, aI (M 0 (i + 1))] (LAY L) P2 M1 (zany (LAY L) P2 E) ∧ ∀ (r2 : Int) (M2 : zM), E r2 M2 → r2 = r1 ∧ AW G l (mdL R) Z 1650 (lsL i x5 x6) [] (LAY L) P2 M2 k n) → AW G l (mdL R) Z 307 (lsL i x5 x6) [aI r1] (LAY L) P2 M1 k n := by
    rintro r1 e0 ⟨E, hA, hE⟩
    refine a_aloadn dL_law_307 rfl ?_
    refine a_aloadn dL_law_308 rfl ?_
    refine a_iload dL_law_309 rfl ?_
    refine a_iconst dL_law_311 ?_
    refine a_iadd dL_law_312 ?_
    refine b_iald dL_law_313 (L0 L) (by omega) (by omega) (by omega) (fun _ => ?_)
    rw [e0]
    refine a_anyV (as := [_]) (q := 209) dL_law_314 mvL_30 ⟨Nat.le_trans (by decide) hR.1, Nat.le_trans (by decide) hR.2⟩ (L209 L) rfl rfl rfl (Nat.le_of_ble_eq_true rfl) ⟨rfl, rfl⟩ kn hA (fun r2 M2 hM2 => ?_)
    obtain ⟨e2, h2⟩ := hE r2 M2 hM2
    rw [e2]
    exact a_same (tgt := 1650) dL_law_317 (by decide) h2
  rcases hcase with ⟨nb, rfl, rfl, rfl⟩ | ⟨hb, Ma, Mc, N, Mf, cl, cu, ef, hcase⟩
  · refine rest (-2) rfl ⟨fun r2 M2 => r2 = -2 ∧ M2 = sm M1 209 2 0, ?_, ?_⟩
    · refine AM.mono (m_X11_text0 (by rw [h.2.2.1.1.2]; exact nb) ra1) ?_
      rintro r9 lay9 P9 M9 ⟨rfl, rfl, rfl, rfl⟩
      exact ⟨rfl, rfl, _, rfl, rfl, rfl⟩
    · rintro r2 M2 ⟨rfl, rfl⟩
      exact ⟨rfl, kk t d P2 _ hP2 h22 h23 h50 h.no⟩
  · obtain ⟨⟨a1, a2, a3⟩, b1, b2, b3, b4⟩ := tx_c h hb cl cu ef
    have tp := h.2.2.1
    have tdd : d = 4 ∨ d = 23 := by omega
    rcases hcase with ⟨f6, rfl, rfl, p22, p23, p50⟩ | ⟨f6, rfl, p22, p23, p50, Mx, bg, e1⟩
    · have up : Up M M1 := fun k hk => b3 k (by omega) (by omega) (by omega)
      have h1 := h.up up
      refine rest (-1) (b3 0 (by omega) (by omega) (by omega)) ⟨_, m_X11_text (t := d) hP2 tdd ⟨hb.1, by rw [h1.2.2.1.1.2]; exact hb.2, by omega⟩ (by rw [h1.2.2.1.1.1]; exact cu) a1 a2 a3 h1.2.2.2.2.2.2.1.2.2 ef, ?_⟩
      rintro r2 M2 (⟨er, _, ft, fr⟩ | ⟨_, q, _⟩)
      · exact ⟨er, kk t d P2 M2 hP2 p22 p23 p50 (f_text1 h b3 b4 b1 ft fr)⟩
      · exact absurd q f6
    · have mx : ∀ k : Nat, k = 0 ∨ 209 ≤ k → M1 k = M k := fun k hk => by rw [e1, sm_n (by omega), sm_n (by omega), sm_n (by omega), sm_n (by omega), bg.2.2.2.2 k (by omega), ag_n d Mf (by omega), b3 k (by omega) (by omega) (by omega)]
      have h1 := h.up (fun k hk => mx k (Or.inr hk))
      refine rest (Mf d 0) (mx 0 (Or.inl rfl)) ⟨_, m_X11_text (t := d) hP2 tdd ⟨hb.1, by rw [h1.2.2.1.1.2]; exact hb.2, by omega⟩ (by rw [h1.2.2.1.1.1]; exact cu) a1 a2 a3 h1.2.2.2.2.2.2.1.2.2 ef, ?_⟩
      rintro r2 M2 (⟨_, q, _⟩ | ⟨er, _, Mr, tx, fr, r4, X, af, e2⟩)
      · exact absurd f6 q
      · exact ⟨er, kk d t P2 M2 hP2 p22 p23 p50 (f_text2 h b3 b4.1 b1 f6 (b2 f6).1 (b2 f6).2 bg e1 tx fr r4 af e2)⟩
