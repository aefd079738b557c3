section ZBR
theorem xkt_n {M : zM} {k : Nat} (h : k < 209 ∨ k = 211) : ktM M k = M k := by
  unfold ktM ktB ktA
  rw [cpP_n (by omega), cpP_n (by omega), cpP_n (by omega), cpP_n (by omega), cpP_n (by omega), cpP_n (by omega), cpP_n (by omega), cpP_n (by omega), cpP_n (by omega), cpP_n (by omega), cpP_n (by omega), cpP_n (by omega), cpP_n (by omega), cpP_n (by omega), cpP_n (by omega), cpP_n (by omega), sm_n (by omega), sm_n (by omega), sm_n (by omega), sm_n (by omega)]
theorem xkt_9 {M : zM} : ktM M 209 = sm (sm (sm (sm M 209 12 (M 209 16)) 209 13 (M 209 17)) 209 14 (M 209 18)) 209 15 (M 209 19) 209 := by
  unfold ktM ktB ktA
  rw [cpP_n (by decide), cpP_n (by decide), cpP_n (by decide), cpP_n (by decide), cpP_n (by decide), cpP_n (by decide), cpP_n (by decide), cpP_n (by decide), cpP_n (by decide), cpP_n (by decide), cpP_n (by decide), cpP_n (by decide), cpP_n (by decide), cpP_n (by decide), cpP_n (by decide), cpP_n (by decide)]
theorem xkt_13 {M : zM} {j : Int} : ktM M 213 j = if 0 ≤ j ∧ j < 4 then M 213 (4 + j) else M 213 j := by
  unfold ktM ktB ktA
  rw [cpP_n (by decide), cpP_n (by decide), cpP_n (by decide), cpP_n (by decide), cpP_n (by decide), cpP_n (by decide), cpP_n (by decide), cpP_n (by decide), cpP_n (by decide), cpP_n (by decide), cpP_n (by decide), cpP_n (by decide), cpP_n (by decide), cpP_n (by decide), cpP_n (by decide), cpP_k, sm_n (by decide), sm_n (by decide), sm_n (by decide), sm_n (by decide)]
theorem xkt_z {M : zM} {k : Nat} (h : z0r M k) (h9 : k ≠ 209) : z0r (ktM M) k := by
  unfold ktM ktB ktA
  refine z0r.cp ?_
  refine z0r.cp ?_
  refine z0r.cp ?_
  refine z0r.cp ?_
  refine z0r.cp ?_
  refine z0r.cp ?_
  refine z0r.cp ?_
  refine z0r.cp ?_
  refine z0r.cp ?_
  refine z0r.cp ?_
  refine z0r.cp ?_
  refine z0r.cp ?_
  refine z0r.cp ?_
  refine z0r.cp ?_
  refine z0r.cp ?_
  refine z0r.cp ?_
  exact (((h.sm h9).sm h9).sm h9).sm h9
/-- behind keepText's copies -/
theorem q_kt {M : zM} (hz : ∀ k, 209 ≤ k → z0r M k) : (∀ k, 210 ≤ k → k ≠ 211 → k ≠ 213 → z0r (ktM (plM (xM M))) k) ∧ (∀ i : Int, ktM (plM (xM M)) 209 i = if i = 5 ∨ i = 62 then -1 else 0) ∧ (∀ i : Int, 0 ≤ i → i < 107 → ktM (plM (xM M)) 211 i = wrd i) ∧ ((ktM (plM (xM M)) 213 0 = 3 ∧ ktM (plM (xM M)) 213 1 = 2 ∧ ktM (plM (xM M)) 213 2 = 0 ∧ ktM (plM (xM M)) 213 3 = 0) ∧ (ktM (plM (xM M)) 213 4 = 3 ∧ ktM (plM (xM M)) 213 5 = 2 ∧ ktM (plM (xM M)) 213 6 = 0 ∧ ktM (plM (xM M)) 213 7 = 0)) ∧ ∀ k, k < 209 → ktM (plM (xM M)) k = M k := by
  obtain ⟨p1, p2, p3, ⟨p4, p5, p6, p7⟩, p8⟩ := q_pl hz
  refine ⟨fun k a b c => xkt_z (p1 k a b c) (by omega), fun i => ?_, fun i a b => ?_, ⟨⟨?_, ?_, ?_, ?_⟩, ?_, ?_, ?_, ?_⟩, fun k a => ?_⟩
  · have a6 := p2 16
    have a7 := p2 17
    have a8 := p2 18
    have a9 := p2 19
    rw [if_neg (by decide)] at a6 a7 a8 a9
    rw [xkt_9, a6, a7, a8, a9]
    simp only [sm_k, us]
    repeat' split
    all_goals first | rfl | (rw [p2]; first | (rw [if_pos (by omega)]; done) | (rw [if_neg (by omega)]; done)) | omega | (exfalso; omega)
  · rw [xkt_n (Or.inr rfl)]; exact p3 i a b
  · rw [xkt_13, if_pos ⟨by decide, by decide⟩]; exact p4
  · rw [xkt_13, if_pos ⟨by decide, by decide⟩]; exact p5
  · rw [xkt_13, if_pos ⟨by decide, by decide⟩]; exact p6
  · rw [xkt_13, if_pos ⟨by decide, by decide⟩]; exact p7
  · rw [xkt_13, if_neg (by decide)]; exact p4
  · rw [xkt_13, if_neg (by decide)]; exact p5
  · rw [xkt_13, if_neg (by decide)]; exact p6
  · rw [xkt_13, if_neg (by decide)]; exact p7
  · rw [xkt_n (Or.inl a)]; exact p8 k a
theorem xbg_n {N : zM} {k : Nat} (h : k ≠ 209) : bgM N k = N k := by
  unfold bgM ptM
  rw [sm_n h, sm_n h, sm_n h, sm_n h, sm_n h, sm_n h, sm_n h, sm_n h, sm_n h, sm_n h, sm_n h]
theorem rk_made {M R : zM} (hz : ∀ k, 209 ≤ k → z0r M k) (h : BgK (ktM (plM (xM M))) R) : RK R ∧ ∀ k, k < 209 → R k = M k := by
  obtain ⟨p1, p2, p3, ⟨⟨p4, p5, p6, p7⟩, q4, q5, q6, q7⟩, p8⟩ := q_kt hz
  obtain ⟨N, ⟨h1, h2, h3, h4⟩, rfl⟩ := h
  have nn : ∀ (k : Nat) (i : Int), ¬ (233 ≤ k ∧ k ≤ 238) → N k i = ktM (plM (xM M)) k i := fun k i a => h4 k i (by omega) (by omega) (by omega)
  have nz : ∀ k, 210 ≤ k → k ≠ 211 → k ≠ 213 → z0r N k := fun k a b c i => by
    by_cases r : ((k = 233 ∨ k = 234 ∨ k = 235) ∧ 6 * (0 : Int) ≤ i ∧ i < 6 * 0 + 6)
    · have q := h1 i (by omega) (by omega)
      rw [show (6 * (0 : Int) + i) = i by omega] at q
      rcases r.1 with e | e | e
      · rw [e, q.1]; exact p1 215 (by decide) (by decide) (by decide) i
      · rw [e, q.2.1]; exact p1 216 (by decide) (by decide) (by decide) i
      · rw [e, q.2.2]
    · by_cases r2 : ((k = 236 ∨ k = 237) ∧ 36 * (0 : Int) ≤ i ∧ i < 36 * 0 + 36)
      · have q := h2 i (by omega) (by omega)
        rw [show (36 * (0 : Int) + i) = i by omega] at q
        rcases r2.1 with e | e
        · rw [e]; exact q.1
        · rw [e]; exact q.2
      · by_cases r3 : k = 238 ∧ i = 0
        · rw [r3.1, r3.2]; exact h3
        · rw [h4 k i r r2 r3]; exact p1 k a b c i
  have n9 : ∀ i : Int, N 209 i = if i = 5 ∨ i = 62 then -1 else 0 := fun i => by rw [nn 209 i (by omega)]; exact p2 i
  have n130 : N 213 0 = 3 := (nn 213 0 (by omega)).trans p4
  have n133 : N 213 3 = 0 := (nn 213 3 (by omega)).trans p7
  have e130 : sm N 209 54 (N 213 3) 213 0 = 3 := by rw [sm_n (by decide)]; exact n130
  have r9 : ∀ i : Int, bgM N 209 i = if i = 5 ∨ i = 59 ∨ i = 62 then -1 else if i = 60 then 3 else 0 := fun i => by
    unfold bgM ptM
    rw [e130, n133]
    simp only [sm_k, us]
    repeat' split
    all_goals first | rfl | (rw [n9]; first | (rw [if_pos (by omega)]; done) | (rw [if_neg (by omega)]; done)) | omega | (exfalso; omega)
  refine ⟨⟨fun k a b c i => ?_, fun i a b c d => ?_, ⟨?_, ?_, ?_⟩, ⟨?_, ?_, ?_, ?_⟩, ⟨?_, ?_, ?_, ?_⟩, fun i a b => ?_⟩, fun k a => ?_⟩
  · rw [xbg_n (by omega)]; exact nz k a b c i
  · rw [r9, if_neg (by omega), if_neg (by omega)]
  · rw [r9, if_pos (by decide)]
  · rw [r9, if_neg (by decide), if_pos rfl]
  · rw [r9, if_pos (by decide)]
  · rw [xbg_n (by decide)]; exact n130
  · rw [xbg_n (by decide), nn 213 1 (by omega)]; exact p5
  · rw [xbg_n (by decide), nn 213 2 (by omega)]; exact p6
  · rw [xbg_n (by decide)]; exact n133
  · rw [xbg_n (by decide), nn 213 4 (by omega)]; exact q4
  · rw [xbg_n (by decide), nn 213 5 (by omega)]; exact q5
  · rw [xbg_n (by decide), nn 213 6 (by omega)]; exact q6
  · rw [xbg_n (by decide), nn 213 7 (by omega)]; exact q7
  · rw [xbg_n (by decide), nn 211 i (by omega)]; exact p3 i a b
  · rw [xbg_n (by omega)]
    funext i
    rw [nn k i (by omega), p8 k a]
theorem kbit_z : ∀ o : Nat, o < 6 → kbit 0 (o : Int) = 0 := by decide +kernel
/-- both as they are made: all that holds between two calls -/
theorem rel_made {M : zM} (c : CK M) (r : RK M) : REL 4 23 M M := by
  obtain ⟨⟨t4, t23⟩, ⟨b2, b3, b79⟩, ⟨c6, c7⟩, ⟨d1, d2⟩, f50, ⟨g1, g2, g5, g6⟩, i6, i7⟩ := c
  obtain ⟨rz, r9, ⟨r5, r60, r62⟩, ⟨s0, s1, s2, s3⟩, ⟨s4, s5, s6, s7⟩, rw9⟩ := r
  obtain ⟨⟨a0, a1, a2, a6, a10⟩, ⟨e0, e1, e2, e3⟩, ⟨l1, l2, l3⟩, z4⟩ := id t4
  have R9 : ∀ i : Int, (i ≠ 5 ∧ i ≠ 59 ∧ i ≠ 60 ∧ i ≠ 62) → M 209 i = 0 := fun i h => r9 i h.1 h.2.1 h.2.2.1 h.2.2.2
  have Z : ∀ k, 210 ≤ k ∧ k ≠ 211 ∧ k ≠ 213 → ∀ i, M k i = 0 := fun k h => rz k h.1 h.2.1 h.2.2
  have lw : ∀ w : Nat, M w 1 = 0 → LwI M w := fun w h => ⟨by rw [h]; exact ⟨by decide, by decide⟩, fun i x y => by rw [h] at y; omega⟩
  have st : StI M 61 := ⟨fun i x y => by rw [(g1 i x y).1]; exact ⟨by decide, by decide⟩, fun i x y => by rw [(g1 i x y).2.1]; exact ⟨by decide, by decide⟩, fun i x y => by rw [(g1 i x y).2.2.1]; exact ⟨by decide, by decide⟩, fun i x y => by rw [(g1 i x y).2.2.2]; exact ⟨by decide, by decide⟩, fun i x y => by rw [g2 i x y]; exact ⟨by decide, by decide⟩, by rw [g5]; exact ⟨by decide, by decide⟩, by rw [g6]; exact ⟨by decide, by decide⟩⟩
  have tk : TKp 4 M M := by
    refine ⟨⟨?_, ?_, ?_, ?_⟩, fun j x y => ?_, fun j x y => ?_, fun j x y => ?_, fun k x y => ?_, fun u hu => ?_⟩
    · rw [a2]; exact R9 12 (by decide)
    · rw [a6]; exact R9 13 (by decide)
    · rw [a10]; exact R9 14 (by decide)
    · rw [a1]; exact R9 15 (by decide)
    · rw [a2] at y; omega
    · rw [a6] at y; omega
    · rw [a10] at y; omega
    · rcases (show k = 0 ∨ k = 1 ∨ k = 2 ∨ k = 3 by omega) with h | h | h | h <;> subst h
      · rw [s0, e0]
      · rw [s1, e1]
      · rw [s2, e2]
      · rw [s3, e3]
    · have h1 : M (4 + 13 + 2 * u) 1 = 0 := by
        rcases (show u = 0 ∨ u = 1 ∨ u = 2 by omega) with h | h | h <;> subst h
        · exact l1
        · exact l2
        · exact l3
      have h2 : M 223 (u : Int) = 0 := Z 223 (by decide) _
      refine ⟨?_, ?_⟩
      · rw [h1, h2]; exact ⟨fun q => absurd rfl q, fun q => absurd q (by decide)⟩
      · funext nm
        unfold rlf lwf
        rw [if_pos h2, h1]
        rfl
  have sr : SRl 4 61 0 M M := by
    refine ⟨fun j x y => ?_, fun j x y => ?_, fun j x y => ?_, fun h o x y z w => ?_, ?_⟩
    · rw [a2] at y; omega
    · exact ⟨by rw [Z 235 (by decide), (g1 j x y).2.2.2], fun _ => (g1 j x y).2.1⟩
    · rw [Z 236 (by decide), g2 j x y]
    · have k0 : kbit (M (61 + 3) h) o = 0 := by
        rw [(g1 h x y).2.2.1]
        obtain ⟨n, rfl⟩ : ∃ n : Nat, o = (n : Int) := ⟨o.toNat, by omega⟩
        exact kbit_z n (by omega)
      exact ⟨by rw [k0, Z 237 (by decide)], fun _ => Z 237 (by decide) _⟩
    · rw [Z 238 (by decide), g5]
  have r54 : M 209 54 = 0 := R9 54 (by decide)
  refine ⟨⟨⟨tk, sr, by rw [r54, g6], ⟨t4.toI, st⟩, by decide, by rw [f50, e0]⟩, ⟨⟨by rw [R9 65 (by decide), b79], by rw [b79]; exact ⟨by decide, by decide⟩, by rw [b79]; exact ⟨by decide, by decide⟩⟩, fun q x y => ?_⟩, ⟨by rw [R9 67 (by decide), b2], fun q => absurd (b2 10) q⟩⟩, ⟨⟨⟨by rw [R9 61 (by decide), i6], by rw [r62, i7]⟩, fun i x y => ?_⟩, ⟨by rw [i6]; exact ⟨by decide, by decide⟩, by rw [i6, i7]; exact ⟨by decide, by decide⟩, fun i x y => ?_⟩⟩, ⟨⟨funext fun i => by rw [Z 210 (by decide), b3], by rw [R9 1 (by decide), b2]⟩, by rw [b2]; decide, by rw [b2]; decide⟩, ⟨by rw [R9 4 (by decide), c6], by rw [r5, c7]⟩, ⟨⟨⟨?_, ⟨?_, ?_, ?_⟩, ?_, by rw [r60]; exact ⟨by decide, by decide⟩⟩, by rw [r54]; exact ⟨by decide, by decide⟩⟩, ?_⟩, ⟨by rw [g5]; decide, ⟨lw _ l1, lw _ l2, lw _ l3⟩, ⟨fun j x y => ?_, fun i j x y z => ?_⟩, t23.toI⟩, ⟨d1, d2, rw9⟩, Or.inl ⟨rfl, rfl⟩⟩
  · rw [b79] at y; omega
  · rw [i6] at y; omega
  · rw [i6] at y; omega
  · unfold TxI
    rw [R9 12 (by decide), R9 13 (by decide), R9 14 (by decide), s0, s1, s2, s3]
    refine ⟨⟨by decide, by decide⟩, ⟨by decide, by decide⟩, ⟨by decide, by decide⟩, fun i _ _ => ?_, fun i _ _ => ?_, fun i _ _ => ?_, fun i _ _ => ?_, ⟨by decide, by decide⟩, ⟨by decide, by decide⟩, ⟨by decide, by decide⟩, ⟨by decide, by decide⟩⟩
    · rw [Z 215 (by decide)]; exact ⟨by decide, by decide⟩
    · rw [Z 216 (by decide)]; exact ⟨by decide, by decide⟩
    · rw [Z 217 (by decide), Z 218 (by decide), Z 219 (by decide)]; exact ⟨⟨by decide, by decide⟩, ⟨by decide, by decide⟩, ⟨by decide, by decide⟩⟩
    · rw [Z 220 (by decide), Z 221 (by decide), Z 222 (by decide)]; exact ⟨⟨by decide, by decide⟩, ⟨by decide, by decide⟩, ⟨by decide, by decide⟩⟩
  · intro q; exact absurd (Z 223 (by decide) _) q
  · intro q; exact absurd (Z 223 (by decide) _) q
  · intro q; exact absurd (Z 223 (by decide) _) q
  · refine ⟨fun i _ _ => ?_, fun i _ _ => ?_, fun i _ _ => ?_, ?_⟩
    · rw [Z 233 (by decide)]; exact ⟨by decide, by decide⟩
    · rw [Z 234 (by decide)]; exact ⟨by decide, by decide⟩
    · rw [Z 236 (by decide)]; exact ⟨by decide, by decide⟩
    · rw [Z 238 (by decide)]; exact ⟨by decide, by decide⟩
  · refine ⟨fun i _ _ => ?_, fun i _ _ => ?_, fun i _ _ => ?_, ?_, ?_, ?_, ?_⟩
    · rw [Z 215 (by decide), Z 216 (by decide)]; exact ⟨⟨by decide, by decide⟩, ⟨by decide, by decide⟩⟩
    · rw [Z 217 (by decide), Z 218 (by decide), Z 219 (by decide)]; exact ⟨⟨by decide, by decide⟩, ⟨by decide, by decide⟩, ⟨by decide, by decide⟩⟩
    · rw [Z 220 (by decide), Z 221 (by decide), Z 222 (by decide)]; exact ⟨⟨by decide, by decide⟩, ⟨by decide, by decide⟩, ⟨by decide, by decide⟩⟩
    · rw [s4]; exact ⟨by decide, by decide⟩
    · rw [s5]; exact ⟨by decide, by decide⟩
    · rw [s6]; exact ⟨by decide, by decide⟩
    · rw [s7]; exact ⟨by decide, by decide⟩
  · rw [a10] at y; omega
  · rw [a10] at z; omega
end ZBR
