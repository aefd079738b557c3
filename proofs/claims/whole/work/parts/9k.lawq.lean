section ZLEQ
theorem pst_s (g : Int → Int) (F : Int) (j : Nat) : pst g F (j + 1) = if g j < 20000 then (F + j) :: pst g F j else if g j = 20002 then (F + j) :: (pst g F j).drop 1 else (F + j) :: ((pst g F j).drop 1).drop 1 := rfl
theorem pst_in (g : Int → Int) (F : Int) : ∀ (j : Nat) (x : Int), x ∈ pst g F j → F ≤ x ∧ x < F + j
  | 0, x, h => absurd h List.not_mem_nil
  | j + 1, x, h => by
    have ih := pst_in g F j
    have z : x = F + j ∨ x ∈ pst g F j := by
      rw [pst_s] at h
      split at h
      · rcases List.mem_cons.1 h with e | e
        · exact Or.inl e
        · exact Or.inr e
      · split at h
        · rcases List.mem_cons.1 h with e | e
          · exact Or.inl e
          · exact Or.inr (List.mem_of_mem_drop e)
        · rcases List.mem_cons.1 h with e | e
          · exact Or.inl e
          · exact Or.inr (List.mem_of_mem_drop (List.mem_of_mem_drop e))
    rcases z with e | e
    · omega
    · have := ih x e; omega
theorem rV_err {nm kn pt ot : Int → Int} : ∀ (n : Nat) (i : Int) (V : Int → Int) (e : Int), e ≠ 0 → (rV nm kn pt ot n i V e).2 ≠ 0
  | 0, i, V, e, h => h
  | n + 1, i, V, e, h => by
    unfold rV
    refine rV_err n _ _ _ ?_
    split
    · exact h
    · unfold vE
      rw [if_pos (Or.inl h)]; decide
theorem map_us {g : Int → Int} {F : Int} {j : Nat} {V : Int → Int} {v : Int} (l : List Int) (h : ∀ x ∈ l, x < F + j) : l.map (us V (F + j) v) = l.map V :=
  List.map_congr_left (fun x hx => us_n (by have := h x hx; omega))
theorem kc_sg : ∀ c : Int, 0 ≤ c → c ≤ 12 → c ≠ 2 → sgn (kc c) = c ∧ 3 ≤ kc c ∧ (11 ≤ kc c ↔ 9 ≤ c) := by
  have h : ∀ j : Fin 13, (j.val : Int) ≠ 2 → sgn (kc (j.val : Int)) = (j.val : Int) ∧ 3 ≤ kc (j.val : Int) ∧ (11 ≤ kc (j.val : Int) ↔ 9 ≤ (j.val : Int)) := by decide +kernel
  intro c c0 c1 c2
  have z := h ⟨c.toNat, by omega⟩
  rw [show ((c.toNat : Nat) : Int) = c by omega] at z
  exact z c2
theorem jn_01 {s a b : Int} (h : 0 ≤ s ∧ s ≤ 8 ∧ s ≠ 2) : 0 ≤ jn s a b ∧ jn s a b ≤ 1 := by
  unfold jn
  repeat' split
  all_goals first | omega | (exfalso; omega)
theorem law_go {nm g kn pt ot : Int → Int} {F : Int} : ∀ (n j : Nat) (V : Int → Int), (∀ i : Nat, j ≤ i → i < j + n → kok (g i) ∧ KnA g F i (fun x => kn (x - 64)) (fun x => pt (x - 64)) (fun x => ot (x - 64))) → (evS nm g n j ((pst g F j).map V) = none ∧ (rV nm kn pt ot n (F + j) V 0).2 ≠ 0) ∨ ((rV nm kn pt ot n (F + j) V 0).2 = 0 ∧ evS nm g n j ((pst g F j).map V) = some ((pst g F (j + n)).map (rV nm kn pt ot n (F + j) V 0).1))
  | 0, j, V, _ => Or.inr ⟨rfl, rfl⟩
  | n + 1, j, V, h => by
    obtain ⟨hk, hA⟩ := h j (Nat.le_refl _) (by omega)
    have sub : (64 + F + (j : Int)) - 64 = F + j := by omega
    have pin := fun x hx => (pst_in g F j x hx).2
    have nx : F + ((j + 1 : Nat) : Int) = F + j + 1 := by omega
    have jx : ((j + 1 : Nat) : Int) = (j : Int) + 1 := by omega
    have jn1 : j + (n + 1) = (j + 1) + n := by omega
    -- a step without error
    have good : ∀ v : Int, vV nm kn pt ot V 0 (F + j) = v → (if kn (F + j) < 11 then 0 else vE kn pt ot V 0 (F + j)) = 0 → stS nm (g j) ((pst g F j).map V) = some ((pst g F (j + 1)).map (us V (F + j) v)) → ((evS nm g (n + 1) j ((pst g F j).map V) = none ∧ (rV nm kn pt ot (n + 1) (F + j) V 0).2 ≠ 0) ∨ ((rV nm kn pt ot (n + 1) (F + j) V 0).2 = 0 ∧ evS nm g (n + 1) j ((pst g F j).map V) = some ((pst g F (j + (n + 1))).map (rV nm kn pt ot (n + 1) (F + j) V 0).1))) := by
      intro v hv he hs
      have er : rV nm kn pt ot (n + 1) (F + j) V 0 = rV nm kn pt ot n (F + ((j + 1 : Nat) : Int)) (us V (F + j) v) 0 := by
        show rV nm kn pt ot n (F + j + 1) (us V (F + j) (vV nm kn pt ot V 0 (F + j))) (if kn (F + j) < 11 then 0 else vE kn pt ot V 0 (F + j)) = _
        rw [hv, he, nx]
      have es : evS nm g (n + 1) j ((pst g F j).map V) = evS nm g n ((j + 1 : Nat) : Int) ((pst g F (j + 1)).map (us V (F + j) v)) := by
        show (match stS nm (g j) ((pst g F j).map V) with | none => none | some st' => evS nm g n ((j : Int) + 1) st') = _
        rw [hs, jx]
      rw [er, es, jn1]
      exact law_go n (j + 1) _ (fun i a b => h i (by omega) (by omega))
    have bad : stS nm (g j) ((pst g F j).map V) = none → (if kn (F + j) < 11 then 0 else vE kn pt ot V 0 (F + j)) ≠ 0 → ((evS nm g (n + 1) j ((pst g F j).map V) = none ∧ (rV nm kn pt ot (n + 1) (F + j) V 0).2 ≠ 0) ∨ ((rV nm kn pt ot (n + 1) (F + j) V 0).2 = 0 ∧ evS nm g (n + 1) j ((pst g F j).map V) = some ((pst g F (j + (n + 1))).map (rV nm kn pt ot (n + 1) (F + j) V 0).1))) := by
      intro hs he
      refine Or.inl ⟨?_, ?_⟩
      · show (match stS nm (g j) ((pst g F j).map V) with | none => none | some st' => evS nm g n ((j : Int) + 1) st') = _
        rw [hs]
      · exact rV_err n _ _ _ he
    unfold KnA at hA
    simp only [sub] at hA
    by_cases c1 : g j < 10000
    · rw [if_pos c1] at hA
      refine good (g j) (by unfold vV; rw [if_pos hA.1, hA.2]) (by rw [if_pos (by omega)]) ?_
      have e : pst g F (j + 1) = (F + j) :: pst g F j := by rw [pst_s, if_pos (by omega)]
      rw [e, List.map_cons, us_s, map_us (g := g) _ pin]
      unfold stS
      rw [if_pos (by omega), if_pos c1]
    rw [if_neg c1] at hA
    by_cases c2 : g j < 20000
    · rw [if_pos c2] at hA
      refine good (nm (g j - 10000)) (by unfold vV; rw [if_neg (by omega), if_pos hA.1, hA.2]) (by rw [if_pos (by omega)]) ?_
      have e : pst g F (j + 1) = (F + j) :: pst g F j := by rw [pst_s, if_pos c2]
      rw [e, List.map_cons, us_s, map_us (g := g) _ pin]
      unfold stS
      rw [if_pos c2, if_neg c1]
    rw [if_neg c2] at hA
    by_cases c3 : g j = 20002
    · rw [if_pos c3] at hA
      obtain ⟨a1, a2, a3⟩ := hA
      cases ep : pst g F j with
      | nil => rw [ep] at a3; exact absurd a3 (by decide)
      | cons x r =>
        rw [ep] at a2
        have e : pst g F (j + 1) = (F + j) :: r := by rw [pst_s, if_neg c2, if_pos c3, ep]; rfl
        rw [← ep]
        refine good (if V x = 0 then 1 else 0) (by unfold vV; rw [if_neg (by omega), if_neg (by omega), if_pos a1, a2]; rfl) (by rw [if_pos (by omega)]) ?_
        rw [e, List.map_cons, us_s, map_us (g := g) r (fun y hy => pin y (by rw [ep]; exact List.mem_cons_of_mem _ hy)), ep, List.map_cons]
        unfold stS
        rw [if_neg c2]
        simp only
        rw [if_pos c3]
    · rw [if_neg c3] at hA
      obtain ⟨a1, a2, a3, a4⟩ := hA
      unfold kok at hk
      have ks := kc_sg (g j - 20000) (by omega) (by omega) (by omega)
      cases ep : pst g F j with
      | nil => rw [ep] at a4; exact absurd a4 (by decide)
      | cons x r =>
        cases er : r with
        | nil => rw [ep, er] at a4; exact absurd (show (2 : Nat) ≤ 1 from a4) (by decide)
        | cons y r2 =>
          rw [ep, er] at a2 a3
          have p2 : pt (F + j) = y := a2
          have p3 : ot (F + j) = x := a3
          have e : pst g F (j + 1) = (F + j) :: r2 := by rw [pst_s, if_neg c2, if_neg c3, ep, er]; rfl
          have hj : jn (sgn (kn (F + j))) (V (pt (F + j))) (V (ot (F + j))) = jn (g j - 20000) (V y) (V x) := by rw [a1, ks.1, p2, p3]
          have st1 : stS nm (g j) ((pst g F j).map V) = if 1000000000000 < jn (g j - 20000) (V y) (V x) ∨ jn (g j - 20000) (V y) (V x) < -1000000000000 then none else some (jn (g j - 20000) (V y) (V x) :: r2.map V) := by
            rw [ep, er, List.map_cons, List.map_cons]
            unfold stS
            rw [if_neg c2]
            simp only
            rw [if_neg c3]
          rw [← er, ← ep]
          by_cases cl : lim (jn (g j - 20000) (V y) (V x))
          · have ve : kn (F + j) < 11 ∨ vE kn pt ot V 0 (F + j) = 0 := by
              refine Or.inr ?_
              unfold vE
              rw [if_neg]
              rintro (z | z)
              · exact z rfl
              · rw [hj] at z; exact z.2 cl
            refine good (jn (g j - 20000) (V y) (V x)) ?_ (by rcases ve with z | z; (rw [if_pos z]); (rw [z]; split <;> rfl)) ?_
            · unfold vV
              rw [if_neg (by omega), if_neg (by omega), if_neg (by omega), if_neg, hj]
              rintro ⟨z1, z2⟩
              rcases ve with z | z
              · omega
              · exact z2 z
            · rw [st1, if_neg (by omega), e, List.map_cons, us_s, map_us (g := g) r2 (fun w hw => pin w (by rw [ep, er]; exact List.mem_cons_of_mem _ (List.mem_cons_of_mem _ hw)))]
          · have c9 : 9 ≤ g j - 20000 := by
              by_cases z : 9 ≤ g j - 20000
              · exact z
              · have := jn_01 (a := V y) (b := V x) (s := g j - 20000) (by omega)
                exact absurd (show lim _ from ⟨by omega, by omega⟩) cl
            have k11 : 11 ≤ kn (F + j) := by rw [a1]; exact ks.2.2.2 c9
            refine bad (by rw [st1, if_pos (by omega)]) ?_
            rw [if_neg (by omega)]
            unfold vE
            rw [if_pos (Or.inr ⟨k11, by rw [hj]; exact cl⟩)]
            decide
/-- a law's value is the same in both -/
theorem law_eq {nm g kn pt ot : Int → Int} {F : Int} {o : Nat} (h : ∀ i : Nat, i < o → kok (g i) ∧ KnA g F i (fun x => kn (x - 64)) (fun x => pt (x - 64)) (fun x => ot (x - 64))) (hl : (pst g F o).length = 1) : rLaw nm kn pt ot F o = lawS nm g o := by
  have z := law_go (nm := nm) o 0 (fun _ => 0) (fun i _ b => h i (by omega))
  have n0 : F + ((0 : Nat) : Int) = F := by omega
  have p0 : (pst g F 0).map (fun _ : Int => (0 : Int)) = [] := rfl
  rw [n0, p0, Nat.zero_add] at z
  unfold rLaw lawS
  rw [show (0 : Int) = ((0 : Nat) : Int) from rfl] at z ⊢
  rcases z with ⟨z1, z2⟩ | ⟨z1, z2⟩
  · rw [z1, if_neg z2]; rfl
  · rw [z2, if_pos z1]
    cases o with
    | zero => exact absurd (show (0 : Nat) = 1 from hl) (by decide)
    | succ m =>
      have e : pst g F (m + 1) = [F + m] := by
        cases ep : pst g F (m + 1) with
        | nil => rw [ep] at hl; exact absurd hl (by decide)
        | cons x r =>
          cases r with
          | cons y r2 => rw [ep] at hl; exact absurd hl (by simp)
          | nil =>
            have hx : x = F + m := by
              rw [pst_s] at ep
              split at ep
              · exact (List.cons.inj ep).1.symm
              · split at ep
                · exact (List.cons.inj ep).1.symm
                · exact (List.cons.inj ep).1.symm
            rw [hx]
      rw [e, show F + ((m + 1 : Nat) : Int) - 1 = F + m by omega]
      rfl
end ZLEQ
