section ZRLP
/-- the law's relation looks at these cells only -/
theorem LX.of {t w : Nat} {F : Int} {Mc Mc' Mr Mr' : zM} (h : LX t w F Mc Mr) (c4 : Mc' 42 4 = Mc 42 4) (c5 : Mc' 42 5 = Mc 42 5) (c9 : Mc' 49 = Mc 49) (ct : Mc' t 1 = Mc t 1) (cw : Mc' w 1 = Mc w 1) (cv : Mc' (w + 1) = Mc (w + 1)) (r9 : ∀ i : Int, i = 19 ∨ (39 ≤ i ∧ i ≤ 42) → Mr' 209 i = Mr 209 i) (rr : ∀ k : Nat, 226 ≤ k → k ≤ 230 → Mr' k = Mr k) : LX t w F Mc' Mr' := by
  unfold LX KN at *
  rw [c4, c5, c9, ct, cw, cv, r9 39 (by omega), r9 41 (by omega), r9 42 (by omega), r9 19 (by omega), r9 40 (by omega), rr 226 (by omega) (by omega), rr 227 (by omega) (by omega), rr 228 (by omega) (by omega), rr 229 (by omega) (by omega), rr 230 (by omega) (by omega)]
  exact h
/-- a sign that waits -/
theorem LX.push {t w : Nat} {F s : Int} {Mc Mr : zM} (h : LX t w F Mc Mr) (tw : t < 41 ∧ w + 1 < 42) (h4 : 0 ≤ Mc 42 4 ∧ Mc 42 4 < 72) : LX t w F (paM s Mc) (wfM (kc s) Mr) := by
  obtain ⟨⟨a1, a2⟩, a3, a4, a5, a6, a7⟩ := h
  have e : paM s Mc = sm (sm Mc 49 (Mc 42 4) s) 42 4 (Mc 42 4 + 1) := by unfold paM; rw [if_pos h4.2]
  have p1 : paM s Mc 42 4 = Mc 42 4 + 1 := by rw [e, sm_k, us_s]
  have p2 : paM s Mc 42 5 = Mc 42 5 := by rw [e, sm_k, us_n (by decide), sm_n (by decide)]
  have p3 : paM s Mc 49 = us (Mc 49) (Mc 42 4) s := by rw [e, sm_n (by decide), sm_k]
  have p4 : ∀ k : Nat, k ≠ 42 → k ≠ 49 → paM s Mc k = Mc k := fun k a b => by rw [e, sm_n a, sm_n b]
  have q : ∀ k : Nat, k ≠ 209 → k ≠ 229 → wfM (kc s) Mr k = Mr k := fun k a b => by unfold wfM; rw [sm_n a, sm_n b]
  have q9 : wfM (kc s) Mr 229 = us (Mr 229) (Mc 42 4) (kc s) := by unfold wfM; rw [sm_n (by decide), sm_k, a1]
  have q39 : wfM (kc s) Mr 209 39 = Mr 209 39 + 1 := by unfold wfM; rw [sm_k, us_s]
  have q0 : ∀ i : Int, i ≠ 39 → wfM (kc s) Mr 209 i = Mr 209 i := fun i hi => by unfold wfM; rw [sm_k, us_n hi, sm_n (by decide)]
  unfold LX
  rw [p1, p2, p3, p4 t (by omega) (by omega), p4 w (by omega) (by omega), p4 (w + 1) (by omega) (by omega), q9, q39, q0 41 (by decide), q0 42 (by decide), q0 19 (by decide), q0 40 (by decide), q 230 (by decide) (by decide)]
  refine ⟨⟨by rw [a1], fun j j0 j1 => ?_⟩, a3, a4, a5, fun j hj => ?_, a7⟩
  · by_cases ej : j = Mc 42 4
    · rw [ej, us_s, us_s]
    · rw [us_n ej, us_n ej]; exact a2 j j0 (by omega)
  · rw [q 226 (by decide) (by decide), q 227 (by decide) (by decide), q 228 (by decide) (by decide)]; exact a6 j hj
/-- a leaf -/
theorem LX.leaf {t w : Nat} {F x : Int} {Mc Mr : zM} (h : LX t w F Mc Mr) (tw : t < 41 ∧ w + 1 < 42 ∧ w ≠ t ∧ w + 1 ≠ t) (hw : 0 ≤ Mc w 1 ∧ Mc w 1 < 64) (hx : x < 20000) (k a : Int) (hk : x < 10000 ∧ k = 0 ∧ a = x ∨ 10000 ≤ x ∧ k = 1 ∧ a = x - 10000) : LX t w F (laM w x Mc) (gwM k a 0 Mr) := by
  obtain ⟨⟨a1, a2⟩, a3, a4, a5, a6, a7⟩ := h
  obtain ⟨o, ho⟩ : ∃ o : Nat, Mc w 1 = o := ⟨(Mc w 1).toNat, by omega⟩
  have eo : (Mc w 1).toNat = o := by omega
  rw [eo] at a6 a7
  rw [ho] at a5
  have eL : laM w x Mc = sm (sm Mc (w + 1) o x) w 1 ((o : Int) + 1) := by
    unfold laM
    rw [ho, if_pos (by omega)]
  have l1 : laM w x Mc w 1 = (o : Int) + 1 := by rw [eL, sm_k, us_s]
  have l2 : laM w x Mc (w + 1) = us (Mc (w + 1)) o x := by rw [eL, sm_n (by omega), sm_k]
  have l3 : ∀ q : Nat, q ≠ w → q ≠ w + 1 → laM w x Mc q = Mc q := fun q b c => by rw [eL, sm_n b, sm_n c]
  have pc0 : pst (us (Mc (w + 1)) o x) F o = pst (Mc (w + 1)) F o := pst_c F o (fun j a b => by rw [us_n (by omega)])
  obtain ⟨g1, g2, g3, g4⟩ := gw_r k a 0 Mr
  obtain ⟨g5, g6, g7⟩ := gw_230 k a 0 Mr
  unfold LX
  rw [l1, l2, l3 42 (by omega) (by omega), l3 49 (by omega) (by omega), l3 t (by omega) (by omega), g1, g2, g3, g4, g5, g6, g7, show ((o : Int) + 1).toNat = o + 1 by omega]
  refine ⟨⟨a1, a2⟩, a3, a4, by omega, a6.gw a5 ?_, ?_⟩
  · unfold KnA
    rcases hk with ⟨b1, b2, b3⟩ | ⟨b1, b2, b3⟩
    · rw [us_s, if_pos b1, us_s, us_s]; exact ⟨b2, b3⟩
    · rw [us_s, if_neg (by omega), if_pos hx, us_s, us_s]; exact ⟨b2, b3⟩
  · rw [a5]
    simp only [pst]
    rw [us_s, if_pos hx, pc0]
    exact a7.push _
end ZRLP
