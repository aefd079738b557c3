section ZRLT
theorem LQ.tok {t w : Nat} {F : Int} {Mc Mr Mr' : zM} (h : LQ t w F Mc Mr) (fr : Fk Mr Mr') (tw : t < 41 ∧ w + 1 < 42) : LQ t w F (stT Mc) Mr' := by
  obtain ⟨a, b, c⟩ := h
  refine ⟨a.of (by rw [stT_n _ (by decide)]) (by rw [stT_n _ (by decide)]) (stT_n _ (by decide)) (by rw [stT_n _ (by omega)]) (by rw [stT_n _ (by omega)]) (stT_n _ (by omega)) (fun i hi => fr 209 i (by omega)) (fun k k0 k1 => fr.row (by omega)), b, ?_⟩
  rw [fr 209 19 (by omega), fr.row (k := 229) (by decide), fr 209 39 (by omega), fr 209 42 (by omega)]; exact c
theorem LWt.tok {Mc Mr Mr' : zM} (h : LWt Mc Mr) (fr : Fk Mr Mr') : LWt (stT Mc) Mr' := by
  unfold LWt rkA at *
  rw [fr 209 43 (by omega), fr 209 40 (by omega), fr.row (k := 229) (by decide), fr 209 39 (by omega), fr 209 44 (by omega), stT_n _ (show 42 ≠ 43 by decide), stT_n _ (show 49 ≠ 43 by decide)]; exact h
theorem LBh.tok {Mr Mr' : zM} (h : LBh Mr) (fr : Fk Mr Mr') : LBh Mr' := by
  unfold LBh at *
  rw [fr 209 43 (by omega), fr 209 40 (by omega), fr.row (k := 229) (by decide), fr 209 39 (by omega)]; exact h
theorem pa_r {s : Int} {M : zM} (h4 : 0 ≤ M 42 4 ∧ M 42 4 < 72) : rkA (paM s M) = rnk s := by
  have e : paM s M = sm (sm M 49 (M 42 4) s) 42 4 (M 42 4 + 1) := by unfold paM; rw [if_pos h4.2]
  have p1 : paM s M 42 4 = M 42 4 + 1 := by rw [e, sm_k, us_s]
  have p3 : paM s M 49 = us (M 49) (M 42 4) s := by rw [e, sm_n (by decide), sm_k]
  unfold rkA
  rw [p1, if_pos (by omega), p3, show M 42 4 + 1 - 1 = M 42 4 by omega, us_s]
/-- a bracket is opened: before the next token -/
theorem lf_1 {t w : Nat} {F : Int} {Mc Mr : zM} (tw : t < 41 ∧ w + 1 < 42 ∧ w ≠ t ∧ w + 1 ≠ t) (h : LQ t w F Mc Mr) (hw : LWt Mc Mr) (h4 : 0 ≤ Mc 42 4 ∧ Mc 42 4 < 72) : LQ t w F (paM 13 (sm Mc 42 5 (Mc 42 5 + 1))) (sm (wfM 0 (sm Mr 209 41 (Mr 209 41 + 1))) 209 44 1) ∧ LWt (paM 13 (sm Mc 42 5 (Mc 42 5 + 1))) (sm (wfM 0 (sm Mr 209 41 (Mr 209 41 + 1))) 209 44 1) := by
  obtain ⟨lx, hF, hc⟩ := h
  obtain ⟨w3, w40, w44⟩ := hw
  have x41 := lx.2.1
  have x39 := lx.1.1
  have e4 : sm Mc 42 5 (Mc 42 5 + 1) 42 4 = Mc 42 4 := by rw [sm_k, us_n (by decide)]
  have y := ((lx.br ⟨tw.1, tw.2.1⟩ (Mc 42 5 + 1)).push (s := 13) ⟨tw.1, tw.2.1⟩ (by rw [e4]; exact h4))
  rw [show kc 13 = 0 by rfl] at y
  rw [x41]
  obtain ⟨N, eN⟩ : ∃ N, N = sm (wfM 0 (sm Mr 209 41 (Mc 42 5 + 1))) 209 44 1 := ⟨_, rfl⟩
  have n9 : ∀ i : Int, i ≠ 41 → i ≠ 39 → i ≠ 44 → N 209 i = Mr 209 i := fun i a b c => by rw [eN, sm_k, us_n c]; unfold wfM; rw [sm_k, us_n b, sm_n (by decide), sm_k, us_n a]
  have n39 : N 209 39 = Mr 209 39 + 1 := by rw [eN]; unfold wfM; simp (disch := decide) only [sm_n, sm_k, us_s, us_n]
  have n44 : N 209 44 = 1 := by rw [eN, sm_k, us_s]
  have n229 : N 229 = us (Mr 229) (Mr 209 39) 0 := by rw [eN]; unfold wfM; simp (disch := decide) only [sm_n, sm_k, us_n]
  obtain ⟨p1, p2⟩ := nn_p (Mr 229) (w := Mr 209 39) (by omega) 0
  rw [if_neg (by decide)] at p1
  rw [if_neg (by decide)] at p2
  rw [← eN]
  refine ⟨⟨y.of rfl rfl rfl rfl rfl rfl (fun i hi => ?_) (fun k k0 k1 => ?_), hF, ?_⟩, ?_, ?_, ?_⟩
  · rw [eN, sm_k, us_n (by omega)]
  · rw [eN, sm_n (by omega)]
  · rw [n9 19 (by decide) (by decide) (by decide), n229, n39, n9 42 (by decide) (by decide) (by decide), p1]; omega
  · rw [n9 43 (by decide) (by decide) (by decide)]; exact w3
  · rw [n9 40 (by decide) (by decide) (by decide), n229, n39, p2]; omega
  · rw [n44, pa_r (by rw [e4]; exact h4)]; decide
/-- a not: the count is taken, it waits -/
theorem lf_2 {t w : Nat} {F : Int} {Mc Mr : zM} (tw : t < 41 ∧ w + 1 < 42 ∧ w ≠ t ∧ w + 1 ≠ t) (h : LQ t w F Mc Mr) (hw : LWt Mc Mr) (h4 : 0 ≤ Mc 42 4 ∧ Mc 42 4 < 72) (hm : Mr 209 44 ≠ 0) : LQ t w F (paM 2 (sm Mc t 1 (Mc t 1 + 1))) (wfM 2 (sm Mr 209 42 (Mr 209 42 + 1))) ∧ LWt (paM 2 (sm Mc t 1 (Mc t 1 + 1))) (wfM 2 (sm Mr 209 42 (Mr 209 42 + 1))) := by
  obtain ⟨lx, hF, hc⟩ := h
  obtain ⟨w3, w40, w44⟩ := hw
  have x42 := lx.2.2.1
  have x39 := lx.1.1
  have e4 : sm Mc t 1 (Mc t 1 + 1) 42 4 = Mc 42 4 := by rw [sm_n (by omega)]
  have y := ((lx.ct tw (Mc t 1 + 1)).push (s := 2) ⟨tw.1, tw.2.1⟩ (by rw [e4]; exact h4))
  rw [show kc 2 = 2 by rfl] at y
  rw [x42]
  obtain ⟨N, eN⟩ : ∃ N, N = wfM 2 (sm Mr 209 42 (Mc t 1 + 1)) := ⟨_, rfl⟩
  have n9 : ∀ i : Int, i ≠ 42 → i ≠ 39 → N 209 i = Mr 209 i := fun i a b => by rw [eN]; unfold wfM; rw [sm_k, us_n b, sm_n (by decide), sm_k, us_n a]
  have n39 : N 209 39 = Mr 209 39 + 1 := by rw [eN]; unfold wfM; simp (disch := decide) only [sm_n, sm_k, us_s, us_n]
  have n42 : N 209 42 = Mc t 1 + 1 := by rw [eN]; unfold wfM; simp (disch := decide) only [sm_n, sm_k, us_s, us_n]
  have n229 : N 229 = us (Mr 229) (Mr 209 39) 2 := by rw [eN]; unfold wfM; simp (disch := decide) only [sm_n, sm_k, us_n]
  obtain ⟨p1, p2⟩ := nn_p (Mr 229) (w := Mr 209 39) (by omega) 2
  rw [if_pos (by decide)] at p1
  rw [if_neg (by decide)] at p2
  rw [← eN] at y ⊢
  refine ⟨⟨y, hF, ?_⟩, ?_, ?_, ?_⟩
  · rw [n9 19 (by decide) (by decide), n229, n39, n42, p1]; omega
  · rw [n9 43 (by decide) (by decide)]; exact w3
  · rw [n9 40 (by decide) (by decide), n229, n39, p2]; omega
  · rw [n9 44 (by decide) (by decide), pa_r (by rw [e4]; exact h4)]; exact ⟨fun _ => by decide, fun _ => hm⟩
/-- a leaf: the count is taken, it is laid -/
theorem lf_3 {t w : Nat} {F x k a : Int} {Mc Mr : zM} (tw : t < 41 ∧ w + 1 < 42 ∧ w ≠ t ∧ w + 1 ≠ t) (h : LQ t w F Mc Mr) (hw : LWt Mc Mr) (hl : 0 ≤ Mc w 1 ∧ Mc w 1 < 64) (hx : x < 20000) (hk : x < 10000 ∧ k = 0 ∧ a = x ∨ 10000 ≤ x ∧ k = 1 ∧ a = x - 10000) : LQ t w F (laM w x (sm Mc t 1 (Mc t 1 + 1))) (sm (gwM k a 0 (sm Mr 209 42 (Mr 209 42 + 1))) 209 43 0) ∧ LBh (sm (gwM k a 0 (sm Mr 209 42 (Mr 209 42 + 1))) 209 43 0) := by
  obtain ⟨lx, hF, hc⟩ := h
  obtain ⟨w3, w40, w44⟩ := hw
  have x42 := lx.2.2.1
  have ew : sm Mc t 1 (Mc t 1 + 1) w 1 = Mc w 1 := by rw [sm_n (by omega)]
  have y := ((lx.ct tw (Mc t 1 + 1)).leaf tw (by rw [ew]; exact hl) hx k a hk)
  rw [x42]
  obtain ⟨N1, eN1⟩ : ∃ N1, N1 = sm Mr 209 42 (Mc t 1 + 1) := ⟨_, rfl⟩
  obtain ⟨g1, g2, g3, g4⟩ := gw_r k a 0 N1
  obtain ⟨g5, g6, g7⟩ := gw_230 k a 0 N1
  have m9 : ∀ i : Int, i ≠ 42 → N1 209 i = Mr 209 i := fun i hi => by rw [eN1, sm_k, us_n hi]
  have m42 : N1 209 42 = Mc t 1 + 1 := by rw [eN1, sm_k, us_s]
  have m229 : N1 229 = Mr 229 := by rw [eN1, sm_n (by decide)]
  rw [← eN1] at y ⊢
  obtain ⟨N, eN⟩ : ∃ N, N = sm (gwM k a 0 N1) 209 43 0 := ⟨_, rfl⟩
  have n9 : ∀ i : Int, i ≠ 43 → N 209 i = gwM k a 0 N1 209 i := fun i hi => by rw [eN, sm_k, us_n hi]
  have nr : ∀ q : Nat, q ≠ 209 → N q = gwM k a 0 N1 q := fun q hq => by rw [eN, sm_n hq]
  rw [← eN]
  refine ⟨⟨y.of rfl rfl rfl rfl rfl rfl (fun i hi => n9 i (by omega)) (fun q k0 k1 => nr q (by omega)), hF, ?_⟩, ?_, ?_⟩
  · rw [n9 19 (by decide), nr 229 (by decide), n9 39 (by decide), n9 42 (by decide), g4, g1, g2, g7, m229, m9 39 (by decide), m9 19 (by decide), m42]; omega
  · rw [eN, sm_k, us_s]
  · rw [n9 40 (by decide), nr 229 (by decide), n9 39 (by decide), g3, g1, g2, m229, m9 39 (by decide), m9 40 (by decide)]; omega
end ZRLT
