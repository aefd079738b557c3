section ZCALL2
theorem pt_e (M : zM) : ∀ (k : Nat) (i : Int), ¬ (k = 209 ∧ (i = 2 ∨ (55 ≤ i ∧ i ≤ 60))) → ptM (sm M 209 2 0) k i = M k i := fun k i hk => by
  unfold ptM
  by_cases e : k = 209
  · subst e; simp only [sm_k]; rw [us_n (by omega), us_n (by omega), us_n (by omega), us_n (by omega), us_n (by omega), us_n (by omega), us_n (by omega)]
  · simp only [sm_n e]
theorem pt_60 (M : zM) : ptM (sm M 209 2 0) 209 60 = M 213 0 := by unfold ptM; rw [sm_s, sm_n (by decide)]
theorem REL.r60 {t d : Nat} {C R : zM} (h : REL t d C R) : 0 ≤ R 213 0 ∧ R 213 0 ≤ 20 := by
  rw [h.1.1.1.2.2.2.2.1 0 (by decide) (by decide)]
  exact h.1.1.2.2.2.1.1.2.2.2.2.2.2.2.1
theorem f_make {t d : Nat} {M M1 M2 : zM} {x v r1 r2 : Int} (h : REL t d M M) (hc : ((¬ (0 ≤ x ∧ x < M t 2 ∧ 1 ≤ v ∧ v ≤ 9)) ∧ r1 = -1 ∧ M1 = M) ∨ (¬ (¬ (0 ≤ x ∧ x < M t 2 ∧ 1 ≤ v ∧ v ≤ 9)) ∧ ∃ Ma, PsR M Ma ∧ Ec (sdM t 61 x v (Ma t 2).toNat 0 Ma 0).1 M1 ∧ r1 = (sdM t 61 x v (Ma t 2).toNat 0 Ma 0).2)) (hr : ((¬ (0 ≤ x ∧ x < M1 209 12 ∧ 1 ≤ v ∧ v ≤ 9)) ∧ r2 = -1 ∧ M2 = sm M1 209 2 0) ∨ (¬ (¬ (0 ≤ x ∧ x < M1 209 12 ∧ 1 ≤ v ∧ v ≤ 9)) ∧ ∃ Mb, RmR (ptM (sm M1 209 2 0)) Mb ∧ Es (sdR 0 x v (Mb 209 12).toNat 0 Mb 0).1 M2 ∧ r2 = (sdR 0 x v (Mb 209 12).toNat 0 Mb 0).2)) : r2 = r1 ∧ REL t d M2 M2 := by
  have t9 := h.t9
  have uI := h.1.2.1.1.2
  have up : Up M M1 := by
    rcases hc with ⟨_, _, e⟩ | ⟨_, Ma, ps, ec, _⟩
    · rw [e]; exact Up.rf M
    · exact fun k hk => by rw [ec.row (by omega) (by omega) (by omega), sdM_Fa t 61 _ _ _ _ Ma 0 k (by omega), ps.fr uI (by omega)]
  have h1 := h.up up
  rw [h1.n] at hr
  rcases hc with ⟨nc, e1, e⟩ | ⟨nc, Ma, ps, ec, e1⟩
  · rcases hr with ⟨_, e2, e3⟩ | ⟨q, _⟩
    · rw [e1, e2, e3, e]; exact ⟨rfl, h.no⟩
    · exact absurd nc q
  · rcases hr with ⟨q, _⟩ | ⟨_, Mb, rm, es, e2⟩
    · exact absurd q nc
    · obtain ⟨a, b, c, g⟩ := Decidable.not_not.mp nc
      obtain ⟨p1, p2, p3, p4, p5, p6⟩ := e_push h1.1.1 h1.1.2.1 h1.1.2.2 h1.s9 (pt_e M1) ps rm
      have et : Ma t 2 = M t 2 := by rw [p5 t (by omega)]
      have n6 := h.1.1.n6
      have m60 : Mb 209 60 = M1 213 0 := by rw [p6 209 60 (by decide) (by omega), pt_60]
      have m13 : Mb 213 0 = M1 213 0 := by rw [p6 213 0 (by decide) (by omega), pt_e M1 213 0 (by omega)]
      have m12 : Mb 209 12 = M t 2 := by rw [p1.1.1.1, et]
      obtain ⟨w1, w2⟩ := e_make p1 p2 p3 (by rw [m60, m13]) (h := x) (d := v) ⟨a, by rw [et]; exact b⟩ ⟨c, g⟩ ec es
      have sI : SmI (sdR 0 x v (Mb 209 12).toNat 0 Mb 0).1 0 := sdR_I v ⟨a, by omega⟩ _ 0 Mb 0 p4 (by omega) (by rw [m12]; omega)
      have r0 : ∀ (k : Nat) (i : Int), k ≠ 231 → k ≠ 232 → k ≠ 235 → k ≠ 236 → k ≠ 237 → k ≠ 241 → ¬ (k = 209 ∧ (i = 2 ∨ i = 47 ∨ (55 ≤ i ∧ i ≤ 60) ∨ i = 65)) → M2 k i = M1 k i := fun k i y1 y2 y3 y4 y5 y6 y7 => by
        rw [es k i y1 y2 (by omega), sd_9 0 x v y3 y4 y5, p6 k i y6 (by omega), pt_e M1 k i (by omega)]
      have c0 : ∀ k : Nat, ¬ (51 ≤ k ∧ k ≤ 53) → ¬ (61 ≤ k ∧ k ≤ 66) → (k ≤ 78 ∨ 201 ≤ k) → M1 k = M k := fun k y z u => by rw [ec.row (by omega) (by omega) (by omega), sdM_Fa t 61 _ _ _ _ Ma 0 k (by omega), p5 k u]
      have c61 : M1 61 = M 61 := by rw [ec.row (by omega) (by omega) (by omega), sd_a, p5 61 (by omega)]
      have q60 : M2 209 60 = M1 213 0 := by rw [es 209 60 (by omega) (by omega) (by omega), sd_9 0 x v (by decide) (by decide) (by decide), m60]
      have lo : Lo M1 M2 := fun k hk => funext fun i => r0 k i (by omega) (by omega) (by omega) (by omega) (by omega) (by omega) (by omega)
      refine ⟨by rw [e1, e2]; exact w2, (h1.st w1 (sI.of9 (fun k i hk => es k i (by omega) (by omega) (by omega))) (by rw [c61]; exact h.2.2.2.2.2.1.1) (fun k hk => c0 k (by omega) (by omega) (by omega)) (by rw [c0 2 (by omega) (by omega) (by omega)]) (fun k i hk => r0 k i (by omega) (by omega) (by omega) (by omega) (by omega) (by omega) (by omega)) (fun i hi => r0 209 i (by omega) (by omega) (by omega) (by omega) (by omega) (by omega) (by omega)) (by rw [q60]; exact h1.r60)).lo lo⟩
theorem f_go {t d : Nat} {M M1 M2 : zM} {n r1 r2 : Int} (h : REL t d M M) (hc : ((¬ (0 ≤ n ∧ n ≤ 99 ∧ M 61 5 + n ≤ 9000)) ∧ r1 = -1 ∧ M1 = M) ∨ (¬ (¬ (0 ≤ n ∧ n ≤ 99 ∧ M 61 5 + n ≤ 9000)) ∧ r1 = M 61 5 + n ∧ ((n = 0 ∧ M1 = M) ∨ (n ≠ 0 ∧ Ec (passM t 61 n.toNat (adM t (sm M 79 2 0))) M1)))) (hr : ((¬ (0 ≤ n ∧ n ≤ 99 ∧ M1 238 0 + n ≤ 9000)) ∧ r2 = -1 ∧ M2 = sm M1 209 2 0) ∨ (¬ (¬ (0 ≤ n ∧ n ≤ 99 ∧ M1 238 0 + n ≤ 9000)) ∧ r2 = M1 238 0 + n ∧ ∃ Mb, Es (goR 0 n.toNat (sm (ptM (sm M1 209 2 0)) 209 55 1)) Mb ∧ M2 = sm (sm Mb 209 55 0) 209 65 (if 0 < n then 0 else M1 209 65))) : r2 = r1 ∧ REL t d M2 M2 := by
  have t9 := h.t9
  have up : Up M M1 := by
    rcases hc with ⟨_, _, e⟩ | ⟨_, _, ⟨_, e⟩ | ⟨_, ec⟩⟩
    · rw [e]; exact Up.rf M
    · rw [e]; exact Up.rf M
    · exact fun k hk => by rw [ec.row (by omega) (by omega) (by omega), passM_Fa t 61 _ _ k (by omega), adM_n t _ (by omega), sm_n (by omega)]
  have h1 := h.up up
  have e8 : M1 238 0 = M 61 5 := h1.1.1.2.1.2.2.2.2
  rw [e8] at hr
  rcases hc with ⟨nc, e1, e⟩ | ⟨nc, e1, hc⟩
  · rcases hr with ⟨_, e2, e3⟩ | ⟨q, _⟩
    · rw [e1, e2, e3, e]; exact ⟨rfl, h.no⟩
    · exact absurd nc q
  · rcases hr with ⟨q, _⟩ | ⟨_, e2, Mb, es, e3⟩
    · exact absurd q nc
    · obtain ⟨a, b, c⟩ := Decidable.not_not.mp nc
      refine ⟨by rw [e1, e2], ?_⟩
      obtain ⟨B, eB⟩ : ∃ B, B = sm (ptM (sm M1 209 2 0)) 209 55 1 := ⟨_, rfl⟩
      rw [← eB] at es
      have bE : ∀ (k : Nat) (i : Int), ¬ (k = 209 ∧ (i = 2 ∨ (55 ≤ i ∧ i ≤ 60))) → B k i = M1 k i := fun k i hk => by
        rw [eB]
        by_cases e : k = 209
        · subst e; rw [sm_k, us_n (by omega), pt_e M1 209 i hk]
        · rw [sm_n e, pt_e M1 k i hk]
      have b60 : B 209 60 = M1 213 0 := by rw [eB, sm_k, us_n (by decide), pt_60]
      have rjB : RJ B 0 := h1.2.2.2.2.1.1.of9 (fun k hk => funext fun i => bE k i (by omega)) (fun i hi => bE 209 i (by omega)) (by rw [b60]; exact h1.r60)
      obtain ⟨fb, rg, _, g9⟩ := goR_all n.toNat B rjB (by rw [bE 238 0 (by omega), e8]; omega)
      have r0 : ∀ (k : Nat) (i : Int), k ≠ 231 → k ≠ 232 → ¬ (233 ≤ k ∧ k ≤ 238) → ¬ (k = 209 ∧ (i = 2 ∨ i = 47 ∨ (54 ≤ i ∧ i ≤ 60) ∨ i = 65)) → M2 k i = M1 k i := fun k i y1 y2 y3 y4 => by
        rw [e3]
        by_cases e : k = 209
        · subst e; rw [sm_k, us_n (by omega), sm_k, us_n (by omega), es 209 i y1 y2 (by omega), g9 i (by omega), bE 209 i (by omega)]
        · rw [sm_n e, sm_n e, es k i y1 y2 (by omega), fb k i (by omega) (by omega) (by omega) (by omega), bE k i (by omega)]
      have m60 : M2 209 60 = M1 213 0 := by rw [e3, sm_k, us_n (by decide), sm_k, us_n (by decide), es 209 60 (by decide) (by decide) (by omega), g9 60 (by decide), b60]
      have lo : Lo M1 M2 := fun k hk => funext fun i => r0 k i (by omega) (by omega) (by omega) (by omega)
      rcases hc with ⟨n0, e⟩ | ⟨n0, ec⟩
      · rw [e] at e3 bE m60 b60 lo
        have gz : goR 0 n.toNat B = B := by rw [n0]; rfl
        rw [gz] at es
        refine (h.rr (R' := M2) (fun k i hk hs => ?_) (by rw [m60]; exact h.r60)).lo (by exact lo)
        unfold scR at hs
        rw [e3]
        by_cases q : k = 209
        · subst q
          by_cases q5 : i = 65
          · subst q5; rw [sm_s, if_neg (by omega)]
          · rw [sm_k, us_n q5, sm_k, us_n (by omega), es 209 i (by decide) (by decide) (by omega), bE 209 i (by omega)]
        · rw [sm_n q, sm_n q, es k i (by omega) (by omega) (by omega), bE k i (by omega)]
      · rw [if_pos (show (0 : Int) < n by omega)] at e3
        rw [eB] at es
        have w1 := e_go h1.1.1 h1.1.2.1 h1.1.2.2 h1.2.2.2.2.1.1 (by omega) ec es e3
        rw [← eB] at es
        have sI : SmI M2 0 := rg.1.2.2.1.of9 (fun k i hk => by rw [e3, sm_n (by omega), sm_n (by omega), es k i (by omega) (by omega) (by omega)])
        have c0 : ∀ k : Nat, ¬ (50 ≤ k ∧ k ≤ 53) → ¬ (61 ≤ k ∧ k ≤ 66) → k ≠ 79 → M1 k = M k := fun k y z u => by rw [ec.row (by omega) (by omega) (by omega), passM_Fa t 61 _ _ k (by omega), adM_n t _ (by omega), sm_n u]
        have c5 : M1 61 5 = M 61 5 + n := by rw [ec.row (by decide) (by decide) (by decide), passM_h, adM_n t _ (by decide), sm_n (by decide)]; omega
        exact (h1.st w1 sI (by rw [c5]; exact c) (fun k hk => c0 k (by omega) (by omega) (by omega)) (by rw [c0 2 (by omega) (by omega) (by omega)]) (fun k i hk => r0 k i (by omega) (by omega) (by omega) (by omega)) (fun i hi => r0 209 i (by omega) (by omega) (by omega) (by omega)) (by rw [m60]; exact h1.r60)).lo lo
end ZCALL2
