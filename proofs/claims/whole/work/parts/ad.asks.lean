section ZASK
theorem gs_5 {t : Nat} {M Mg : zM} (hg : GsR t M Mg) : Mg 67 5 = M 61 5 := by
  obtain ⟨Ma, cy, rfl⟩ := hg
  rw [agM_n t Ma (by decide)]; exact cy.2.2.1
theorem REL.h5 {t d : Nat} {C R : zM} (h : REL t d C R) : C 61 5 ≤ 9000 := h.2.2.2.2.2.1.1
theorem g_heard {t d : Nat} {M M1 M2 : zM} {x o r1 r2 : Int} (h : REL t d M M) (hc : Cn t M M1 ∧ r1 = if two (M t 2) x o then M 66 (x * 6 + o) else -1) (hr : Rn M1 M2 ∧ r2 = if two (M1 209 12) x o then M1 236 (6 * x + o) else -1) : r2 = r1 ∧ REL t d M2 M2 := by
  obtain ⟨h1, h2⟩ := h.ask hc.1 hr.1
  exact ⟨by rw [hc.2, hr.2]; exact q_heard h1.1.1 x o, h2⟩
theorem g_sound {t d : Nat} {M M1 M2 : zM} {x y r1 r2 : Int} (h : REL t d M M) (hc : Cn t M M1 ∧ r1 = if 0 ≤ x ∧ x < M t 2 ∧ 0 ≤ y ∧ y ≤ 99 then zsnd (M (t + 7)) (M (t + 8)) (M (t + 9)) x y (M t 10).toNat 0 else -1) (hr : Rn M1 M2 ∧ r2 = if 0 ≤ x ∧ x < M1 209 12 ∧ 0 ≤ y ∧ y ≤ 99 then zsnd (M1 220) (M1 221) (M1 222) x y (M1 209 14).toNat 0 else -1) : r2 = r1 ∧ REL t d M2 M2 := by
  obtain ⟨h1, h2⟩ := h.ask hc.1 hr.1
  exact ⟨by rw [hc.2, hr.2]; exact q_sound h1.1.1 x y, h2⟩
theorem g_named {t d : Nat} {M M1 M2 : zM} {x r1 r2 : Int} (h : REL t d M M) (hc : Cn t M M1 ∧ r1 = zfind (M (t + 1)) x (M t 2).toNat 0) (hr : Rn M1 M2 ∧ r2 = zfind (M1 214) x (M1 209 12).toNat 0) : r2 = r1 ∧ REL t d M2 M2 := by
  obtain ⟨h1, h2⟩ := h.ask hc.1 hr.1
  exact ⟨by rw [hc.2, hr.2]; exact q_named h1.1.1 x, h2⟩
theorem g_fault {t d : Nat} {M M1 M2 : zM} {x r1 r2 : Int} (h : REL t d M M) (hc : Cn t M M1 ∧ r1 = if x = 0 then M 42 6 else if x = 1 then M 42 7 else -1) (hr : Rn M1 M2 ∧ r2 = if x = 0 then M1 209 4 else if x = 1 then M1 209 5 else -1) : r2 = r1 ∧ REL t d M2 M2 := by
  obtain ⟨h1, h2⟩ := h.ask hc.1 hr.1
  exact ⟨by rw [hc.2, hr.2, h1.2.2.2.1.1, h1.2.2.2.1.2], h2⟩
theorem g_law {t d : Nat} {M M1 M2 : zM} {w x o r1 r2 : Int} (h : REL t d M M) (hc : Cn t M M1 ∧ r1 = lwC M t w x o) (hr : Rn M1 M2 ∧ r2 = lwR M1 w x o) : r2 = r1 ∧ REL t d M2 M2 := by
  obtain ⟨h1, h2⟩ := h.ask hc.1 hr.1
  exact ⟨by rw [hc.2, hr.2]; exact q_law h1.1.1 w x o, h2⟩
theorem g_count {t d : Nat} {M M1 M2 : zM} {w r1 r2 : Int} (h : REL t d M M) (hc : Cn t M M1 ∧ r1 = ctC M t w) (hr : Rn M1 M2 ∧ r2 = ctR M1 w) : r2 = r1 ∧ REL t d M2 M2 := by
  obtain ⟨h1, h2⟩ := h.ask hc.1 hr.1
  exact ⟨by rw [hc.2, hr.2]; exact q_count h1.1.1 h1.2.1.1 h1.2.1.2 h1.1.2.1.1.1 w, h2⟩
theorem g_whose {t d : Nat} {M M1 M2 : zM} {r1 r2 : Int} (h : REL t d M M) (hc : Cn t M M1 ∧ r1 = whC M t) (hr : Rn M1 M2 ∧ r2 = whR M1) : r2 = r1 ∧ REL t d M2 M2 := by
  obtain ⟨h1, h2⟩ := h.ask hc.1 hr.1
  exact ⟨by rw [hc.2, hr.2]; exact q_whose h1.1.1 h1.2.1.1 h1.2.1.2, h2⟩
theorem g_ask {t d : Nat} {M M1 M2 : zM} {w r1 r2 : Int} (h : REL t d M M) (hc : Cn t M M1 ∧ ((¬ (0 ≤ w ∧ w ≤ 1)) ∧ r1 = -1 ∨ ¬ (¬ (0 ≤ w ∧ w ≤ 1)) ∧ r1 = if w = 0 then (akF (maC M t (whC M t)) 23 1 0 (maC M t (whC M t) 0)).1 else (akF (maC M t (whC M t)) 23 1 0 (maC M t (whC M t) 0)).2)) (hr : Rn M1 M2 ∧ ((¬ (0 ≤ w ∧ w ≤ 1)) ∧ r2 = -1 ∨ ¬ (¬ (0 ≤ w ∧ w ≤ 1)) ∧ r2 = if w = 0 then akR (maR M1 (whR M1)) 23 1 0 else maR M1 (whR M1) (akR (maR M1 (whR M1)) 23 1 0))) : r2 = r1 ∧ REL t d M2 M2 := by
  obtain ⟨h1, h2⟩ := h.ask hc.1 hr.1
  refine ⟨?_, h2⟩
  rcases hc.2 with ⟨a, e1⟩ | ⟨a, e1⟩ <;> rcases hr.2 with ⟨b, e2⟩ | ⟨b, e2⟩
  · rw [e1, e2]
  · exact absurd a b
  · exact absurd b a
  · rw [e1, e2]; exact q_ask h1.1.1 h1.2.1.1 h1.2.1.2 w
theorem g_busiest {t d : Nat} {M M1 M2 : zM} {g w r1 r2 : Int} (h : REL t d M M) (hc : Cn t M M1 ∧ (¬ (0 ≤ g ∧ g ≤ 9 ∧ 0 ≤ w ∧ w ≤ 1) ∧ r1 = -1 ∨ (0 ≤ g ∧ g ≤ 9 ∧ 0 ≤ w ∧ w ≤ 1) ∧ r1 = if w = 0 then (bsF (hoA M (M t 2) (M (t + 10) 0 + g)) 100 0 0 (-1)).1 else (bsF (hoA M (M t 2) (M (t + 10) 0 + g)) 100 0 0 (-1)).2)) (hr : Rn M1 M2 ∧ (¬ (0 ≤ g ∧ g ≤ 9 ∧ 0 ≤ w ∧ w ≤ 1) ∧ r2 = -1 ∨ (0 ≤ g ∧ g ≤ 9 ∧ 0 ≤ w ∧ w ≤ 1) ∧ r2 = if w = 0 then bsR (byR M1 g) 99 1 0 else byR M1 g (bsR (byR M1 g) 99 1 0))) : r2 = r1 ∧ REL t d M2 M2 := by
  obtain ⟨h1, h2⟩ := h.ask hc.1 hr.1
  refine ⟨?_, h2⟩
  rcases hc.2 with ⟨a, e1⟩ | ⟨a, e1⟩ <;> rcases hr.2 with ⟨b, e2⟩ | ⟨b, e2⟩
  · rw [e1, e2]
  · exact absurd b a
  · exact absurd a b
  · rw [e1, e2]; exact q_busiest h1.1.1 g w
theorem g_before {t d : Nat} {M M1 M2 : zM} {x g w r1 r2 : Int} (h : REL t d M M) (hc : Cn t M M1 ∧ r1 = if ¬ (two (M t 2) x g ∧ 0 ≤ w ∧ w ≤ 1) then -2147483648 else if w = 0 then (bfF (alC M t x g) 18 2 0 (alC M t x g 0)).1 else (bfF (alC M t x g) 18 2 0 (alC M t x g 0)).2) (hr : Rn M1 M2 ∧ r2 = if ¬ (two (M1 209 12) x g ∧ 0 ≤ w ∧ w ≤ 1) then -2147483648 else if w = 0 then bfR (alR M1 x g) 9 1 0 else alR M1 x g (bfR (alR M1 x g) 9 1 0)) : r2 = r1 ∧ REL t d M2 M2 := by
  obtain ⟨h1, h2⟩ := h.ask hc.1 hr.1
  refine ⟨?_, h2⟩
  rw [hc.2, hr.2, h1.n, q_before h1.1.1 h1.2.2.2.2.2.1.2.2.1.2 x g w]
theorem g_rests {t d : Nat} {M M1 M2 : zM} {x r1 r2 : Int} (h : REL t d M M) (hc : Cn t M M1 ∧ r1 = if 0 ≤ x ∧ x < M t 2 then rsO (rsC M t x) 4 0 0 else -1) (hr : Rn M1 M2 ∧ r2 = if 0 ≤ x ∧ x < M1 209 12 then raR (rsR M1 x) (-1) 16 0 0 else -1) : r2 = r1 ∧ REL t d M2 M2 := by
  obtain ⟨h1, h2⟩ := h.ask hc.1 hr.1
  refine ⟨?_, h2⟩
  rw [hc.2, hr.2, h1.n, q_rests h1.1.1 x]
theorem g_rest {t d : Nat} {M M1 M2 : zM} {x k r1 r2 : Int} (h : REL t d M M) (hc : Cn t M M1 ∧ r1 = if 0 ≤ x ∧ x < M t 2 ∧ 0 ≤ k then rtO (rsC M t x) 4 0 k else -1) (hr : Rn M1 M2 ∧ r2 = if 0 ≤ x ∧ x < M1 209 12 ∧ 0 ≤ k then raR (rsR M1 x) k 16 0 0 else -1) : r2 = r1 ∧ REL t d M2 M2 := by
  obtain ⟨h1, h2⟩ := h.ask hc.1 hr.1
  refine ⟨?_, h2⟩
  rw [hc.2, hr.2, h1.n]
  by_cases c : 0 ≤ x ∧ x < M t 2 ∧ 0 ≤ k
  · rw [if_pos c, if_pos c]; exact q_rest h1.1.1 x c.2.2
  · rw [if_neg c, if_neg c]
theorem g_loudest {t d : Nat} {M M2 : zM} {r1 r2 : Int} (h : REL t d M M) (hc : r1 = ldF (soC M t) (M t 2).toNat 0 (-2) 0) (hr : Rn M M2 ∧ r2 = ldF (soR M) (M 209 12).toNat 0 (-2) 0) : r2 = r1 ∧ REL t d M2 M2 := by
  obtain ⟨h1, h2⟩ := h.ask (M1 := M) ⟨Cq.rf M, h.1.1.2.2.2.2.2⟩ hr.1
  exact ⟨by rw [hc, hr.2]; exact q_loudest h1.1.1, h2⟩
theorem g_passed {t d : Nat} {M M1 M2 : zM} {x n r1 r2 : Int} (h : REL t d M M) (hc : Cn t M M1 ∧ ((¬ (0 ≤ x ∧ x < M t 2 ∧ 0 ≤ n ∧ n ≤ 6)) ∧ r1 = -1 ∨ ¬ (¬ (0 ≤ x ∧ x < M t 2 ∧ 0 ≤ n ∧ n ≤ 6)) ∧ r1 = rfO (fun j => hoC M t j) (M t 2).toNat n.toNat (b_ishl 1 x))) (hr : Rn M1 M2 ∧ ((¬ (0 ≤ x ∧ x < M1 209 12 ∧ 0 ≤ n ∧ n ≤ 6)) ∧ r2 = -1 ∨ ¬ (¬ (0 ≤ x ∧ x < M1 209 12 ∧ 0 ≤ n ∧ n ≤ 6)) ∧ ∃ Mb, Pb M1 Mb ∧ r2 = rfO (hoR Mb 0) (M1 209 12).toNat n.toNat (b_ishl 1 x))) : r2 = r1 ∧ REL t d M2 M2 := by
  obtain ⟨h1, h2⟩ := h.ask hc.1 hr.1
  refine ⟨?_, h2⟩
  have hr2 := hr.2
  have n9 := h1.n
  rcases hc.2 with ⟨a, e1⟩ | ⟨a, e1⟩ <;> rcases hr2 with ⟨b, e2⟩ | ⟨b, Mb, pb, e2⟩
  · rw [e1, e2]
  · rw [n9] at b; exact absurd a b
  · rw [n9] at b; exact absurd b a
  · rw [e1, e2]; exact q_passed h1.1.1 pb _ _
theorem g_gossip {t d : Nat} {M M1 M2 : zM} {x n r1 r2 : Int} (h : REL t d M M) (hc : Cn t M M1 ∧ ((¬ (0 ≤ x ∧ x < M t 2 ∧ 0 ≤ n ∧ n ≤ 6)) ∧ r1 = -1 ∨ ¬ (¬ (0 ≤ x ∧ x < M t 2 ∧ 0 ≤ n ∧ n ≤ 6)) ∧ r1 = rfO (fun j => M 64 j) (M t 2).toNat n.toNat (b_ishl 1 x))) (hr : Rn M1 M2 ∧ ((¬ (0 ≤ x ∧ x < M1 209 12 ∧ 0 ≤ n ∧ n ≤ 6)) ∧ r2 = -1 ∨ ¬ (¬ (0 ≤ x ∧ x < M1 209 12 ∧ 0 ≤ n ∧ n ≤ 6)) ∧ r2 = rfO (knR M1 0) (M1 209 12).toNat n.toNat (b_ishl 1 x))) : r2 = r1 ∧ REL t d M2 M2 := by
  obtain ⟨h1, h2⟩ := h.ask hc.1 hr.1
  refine ⟨?_, h2⟩
  have n9 := h1.n
  rcases hc.2 with ⟨a, e1⟩ | ⟨a, e1⟩ <;> rcases hr.2 with ⟨b, e2⟩ | ⟨b, e2⟩
  · rw [e1, e2]
  · rw [n9] at b; exact absurd a b
  · rw [n9] at b; exact absurd b a
  · rw [e1, e2]; exact q_gossip h1.1.1 _ _
theorem g_alone {t d : Nat} {M M1 M2 : zM} {r1 r2 : Int} (h : REL t d M M) (hc : Cn t M M1 ∧ r1 = zbits (fun j => if hbC M t j = 0 ∧ hoC M t j = 0 then 1 else 0) (M t 2).toNat 0 0) (hr : Rn M1 M2 ∧ ∃ Mb, Pb M1 Mb ∧ r2 = zbits (fun h => if b_ior (hbR Mb 0 h) (hoR Mb 0 h) = 0 then 1 else 0) (M1 209 12).toNat 0 0) : r2 = r1 ∧ REL t d M2 M2 := by
  obtain ⟨h1, h2⟩ := h.ask hc.1 hr.1
  obtain ⟨_, Mb, pb, e2⟩ := hr
  exact ⟨by rw [hc.2, e2]; exact q_alone h1.1.1 pb, h2⟩
theorem g_warn {t d : Nat} {M M1 M2 : zM} {r1 r2 : Int} (h : REL t d M M) (hc : Cn t M M1 ∧ r1 = wnF (fun j => kset (hbC M t j) j) (M t 2).toNat (b_ishl 1 (M t 2) - 1).toNat 0 (b_ishl 1 (M t 2) - 1)) (hr : Rn M1 M2 ∧ ∃ Mb, Pb M1 Mb ∧ r2 = wnR (hbR Mb 0) (M1 209 12).toNat (b_ishl 1 (M1 209 12)).toNat 0 (-1)) : r2 = r1 ∧ REL t d M2 M2 := by
  obtain ⟨h1, h2⟩ := h.ask hc.1 hr.1
  obtain ⟨_, Mb, pb, e2⟩ := hr
  exact ⟨by rw [hc.2, e2]; exact q_warn h1.1.1 pb, h2⟩
theorem g_ahead {t d : Nat} {M M1 M2 : zM} {n w x r1 r2 : Int} (h : REL t d M M) (hc : Cn t M M1 ∧ ((¬ (0 ≤ n ∧ n ≤ 99 ∧ 0 ≤ w ∧ w ≤ 3 ∧ (w < 2 ∨ (0 ≤ x ∧ x < M t 2)))) ∧ r1 = -1 ∨ ¬ (¬ (0 ≤ n ∧ n ≤ 99 ∧ 0 ≤ w ∧ w ≤ 3 ∧ (w < 2 ∨ (0 ≤ x ∧ x < M t 2)))) ∧ ∃ Mg, GsR t M Mg ∧ r1 = ahv M (passM t 67 n.toNat Mg) w x)) (hr : Rn M1 M2 ∧ ((¬ (0 ≤ n ∧ n ≤ 99 ∧ 0 ≤ w ∧ w ≤ 3 ∧ (w < 2 ∨ (0 ≤ x ∧ x < M1 209 12)))) ∧ r2 = -1 ∨ ¬ (¬ (0 ≤ n ∧ n ≤ 99 ∧ 0 ≤ w ∧ w ≤ 3 ∧ (w < 2 ∨ (0 ≤ x ∧ x < M1 209 12)))) ∧ ∃ Mb, LtR M1 Mb ∧ r2 = ahR M1 (goR 1 n.toNat Mb) w x)) : r2 = r1 ∧ REL t d M2 M2 := by
  obtain ⟨h1, h2⟩ := h.ask hc.1 hr.1
  refine ⟨?_, h2⟩
  have n9 := h1.n
  rcases hc.2 with ⟨a, e1⟩ | ⟨a, Mg, hg, e1⟩ <;> rcases hr.2 with ⟨b, e2⟩ | ⟨b, Mb, lb, e2⟩
  · rw [e1, e2]
  · rw [n9] at b; exact absurd a b
  · rw [n9] at b; exact absurd b a
  · have z := Decidable.not_not.mp a
    rw [e1, e2]; exact q_ahead h1.1.1 h.h5 hg lb ⟨z.1, z.2.1⟩ (by omega)
theorem g_first {t d : Nat} {M M1 M2 : zM} {w r1 r2 : Int} (h : REL t d M M) (hc : Cn t M M1 ∧ ((¬ (0 ≤ w ∧ w ≤ 1)) ∧ r1 = -1 ∨ ¬ (¬ (0 ≤ w ∧ w ≤ 1)) ∧ ∃ Mg, GsR t M Mg ∧ r1 = fsR w (fsF t 99 0 Mg))) (hr : Rn M1 M2 ∧ ((¬ (0 ≤ w ∧ w ≤ 1)) ∧ r2 = -1 ∨ ¬ (¬ (0 ≤ w ∧ w ≤ 1)) ∧ ∃ Mb, LtR M1 Mb ∧ r2 = fsG w 100 0 Mb)) : r2 = r1 ∧ REL t d M2 M2 := by
  obtain ⟨h1, h2⟩ := h.ask hc.1 hr.1
  refine ⟨?_, h2⟩
  rcases hc.2 with ⟨a, e1⟩ | ⟨a, Mg, hg, e1⟩ <;> rcases hr.2 with ⟨b, e2⟩ | ⟨b, Mb, lb, e2⟩
  · rw [e1, e2]
  · exact absurd a b
  · exact absurd b a
  · rw [e1, e2]
    exact q_first 99 0 Mg Mb (h1.1.1.gs hg lb) (by rw [gs_5 hg]; have := h.h5; omega)
theorem g_next {t d : Nat} {M M1 M2 : zM} {x o r1 r2 : Int} (h : REL t d M M) (hc : Cn t M M1 ∧ ((¬ two (M t 2) x o) ∧ r1 = -1 ∨ ¬ (¬ two (M t 2) x o) ∧ ∃ Mg, GsR t M Mg ∧ r1 = nhF t (M (61 + 5) (x * 6 + o)) (x * 6 + o) 99 1 Mg)) (hr : Rn M1 M2 ∧ ((¬ two (M1 209 12) x o) ∧ r2 = -1 ∨ ¬ (¬ two (M1 209 12) x o) ∧ ∃ Mb, LtR M1 Mb ∧ r2 = nhG (M1 236 (6 * x + o)) (36 + 6 * x + o) 99 1 Mb)) : r2 = r1 ∧ REL t d M2 M2 := by
  obtain ⟨h1, h2⟩ := h.ask hc.1 hr.1
  refine ⟨?_, h2⟩
  have n9 := h1.n
  have n6 := h.1.1.n6
  rcases hc.2 with ⟨a, e1⟩ | ⟨a, Mg, hg, e1⟩ <;> rcases hr.2 with ⟨b, e2⟩ | ⟨b, Mb, lb, e2⟩
  · rw [e1, e2]
  · rw [n9] at b; exact absurd a b
  · rw [n9] at b; exact absurd b a
  · have z := Decidable.not_not.mp a
    unfold two at z
    have v := h1.1.1.2.1.2.2.1 (x * 6 + o) (by omega) (by omega)
    rw [show 36 * (0 : Int) + (x * 6 + o) = 6 * x + o by omega] at v
    rw [e1, e2, v, show 36 + 6 * x + o = 36 + (x * 6 + o) by omega]
    exact q_next (by omega) 99 1 Mg Mb (h1.1.1.gs hg lb) (by rw [gs_5 hg]; have := h.h5; omega)
theorem g_tried {t d : Nat} {M M1 M2 : zM} {w i n r1 r2 : Int} (h : REL t d M M) (hc : Cn t M M1 ∧ ((¬ (0 ≤ w ∧ w ≤ 4 ∧ 0 ≤ n ∧ n ≤ 99 ∧ ((w = 2 ∧ 0 ≤ i ∧ i < M t 2) ∨ (w ≠ 2 ∧ i = 0)))) ∧ r1 = -1 ∨ ¬ (¬ (0 ≤ w ∧ w ≤ 4 ∧ 0 ≤ n ∧ n ≤ 99 ∧ ((w = 2 ∧ 0 ≤ i ∧ i < M t 2) ∨ (w ≠ 2 ∧ i = 0)))) ∧ ∃ Mg, GsR t M Mg ∧ r1 = pairsC (passM t 67 n.toNat (trM w i (M t 2) Mg)) 67 - pairsC M 61)) (hr : Rn M1 M2 ∧ ((¬ (0 ≤ w ∧ w ≤ 4 ∧ 0 ≤ n ∧ n ≤ 99 ∧ ((w = 2 ∧ 0 ≤ i ∧ i < M1 209 12) ∨ (w ≠ 2 ∧ i = 0)))) ∧ r2 = -1 ∨ ¬ (¬ (0 ≤ w ∧ w ≤ 4 ∧ 0 ≤ n ∧ n ≤ 99 ∧ ((w = 2 ∧ 0 ≤ i ∧ i < M1 209 12) ∨ (w ≠ 2 ∧ i = 0)))) ∧ ∃ Mb, LtR M1 Mb ∧ r2 = pairsR (goR 1 n.toNat (trR w i Mb)) 1 - pairsR M1 0)) : r2 = r1 ∧ REL t d M2 M2 := by
  obtain ⟨h1, h2⟩ := h.ask hc.1 hr.1
  refine ⟨?_, h2⟩
  have n9 := h1.n
  rcases hc.2 with ⟨a, e1⟩ | ⟨a, Mg, hg, e1⟩ <;> rcases hr.2 with ⟨b, e2⟩ | ⟨b, Mb, lb, e2⟩
  · rw [e1, e2]
  · rw [n9] at b; exact absurd a b
  · rw [n9] at b; exact absurd b a
  · have z := Decidable.not_not.mp a
    rw [e1, e2]; exact q_tried h1.1.1 h.h5 hg lb ⟨z.1, z.2.1⟩ ⟨z.2.2.1, z.2.2.2.1⟩
theorem g_chance {t d : Nat} {M M1 M2 : zM} {sd n9 x o r1 r2 : Int} (h : REL t d M M) (rs : sd ≤ 2147483647) (hc : Cn t M M1 ∧ ((¬ (0 ≤ sd ∧ 1 ≤ n9 ∧ n9 ≤ 99 ∧ two (M t 2) x o)) ∧ r1 = -1 ∨ ¬ (¬ (0 ≤ sd ∧ 1 ≤ n9 ∧ n9 ≤ 99 ∧ two (M t 2) x o)) ∧ chP t M n9.toNat x o 10 sd 0 r1)) (hr : Rn M1 M2 ∧ ((¬ (0 ≤ sd ∧ 1 ≤ n9 ∧ n9 ≤ 99 ∧ two (M1 209 12) x o)) ∧ r2 = -1 ∨ ¬ (¬ (0 ≤ sd ∧ 1 ≤ n9 ∧ n9 ≤ 99 ∧ two (M1 209 12) x o)) ∧ chG M1 n9.toNat x o 10 sd 0 r2)) : r2 = r1 ∧ REL t d M2 M2 := by
  obtain ⟨h1, h2⟩ := h.ask hc.1 hr.1
  refine ⟨?_, h2⟩
  have nn := h1.n
  have n6 := h.1.1.n6
  rcases hc.2 with ⟨a, e1⟩ | ⟨a, e1⟩ <;> rcases hr.2 with ⟨b, e2⟩ | ⟨b, e2⟩
  · rw [e1, e2]
  · rw [nn] at b; exact absurd a b
  · rw [nn] at b; exact absurd b a
  · have z := Decidable.not_not.mp a
    unfold two at z
    exact q_chance h1.1.1 h.h5 (by omega) (by omega) (by omega) 10 sd 0 r1 r2 ⟨z.1, rs⟩ e1 e2
theorem g_nears {t d : Nat} {M M1 M2 : zM} {r1 r2 : Int} (h : REL t d M M) (hc : Cn t M M1 ∧ nrP (cntF M) t M (lsG (cntF M) M (M 201 6).toNat 0 0) 10 0 0 r1) (hr : Rn M1 M2 ∧ nrG (cntR M1) M1 10 0 0 r2) : r2 = r1 ∧ REL t d M2 M2 := by
  obtain ⟨h1, h2⟩ := h.ask hc.1 hr.1
  exact ⟨q_nears h1.1.1 h1.2.1.1 h1.2.1.2 10 0 0 r1 r2 (by decide) (by decide) hc.2 hr.2, h2⟩
end ZASK
