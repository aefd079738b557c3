theorem m_X11_signToken {G : zG} {l : Launch} {L : Nat} {P : zP} {M : zM} {q v : Int} (hP : PFok P) (hq : q = M 209 7) (hn : 0 ≤ q ∧ q < M 209 6 ∧ M 209 6 ≤ 700) (hv : v = sgC (M 210 q) (foll (M 210) (M 209 6) q)) : AM G l yX11_signToken mdX11_signToken [aR 209] (LAY L) P M (zrel none (LAY L) P (fun M' => M' 209 7 = q + sgL v ∧ TKq (if v = -1 then 1 else 5) v (M' 209 8) (M' 209 9) ∧ M' 209 10 = M 209 10 ∧ Fk M M')) := by
  have hf : (q + 1 < M 209 6 ∧ foll (M 210) (M 209 6) q = M 210 (q + 1)) ∨ (¬ q + 1 < M 209 6 ∧ foll (M 210) (M 209 6) q = 0) := by
    unfold foll
    by_cases c : q + 1 < M 209 6
    · left; exact ⟨c, by rw [if_pos c]⟩
    · right; exact ⟨c, by rw [if_neg c]⟩
  obtain ⟨d, ed⟩ : ∃ d, d = foll (M 210) (M 209 6) q := ⟨_, rfl⟩
  rw [← ed] at hf hv
  have hC := sgC_c (M 210 q) d
  rw [← hv] at hC
  rcases hC with h | h | h | h | h | h | h | h | h | h | h | h | h | h
  · rw [h.2.2, show sgL 4 = 2 from by decide, if_neg (by decide)]; exact m_signT_a hP hq hn h.1 (by have := h.2.1; omega)
  · rw [h.2.2, show sgL 6 = 2 from by decide, if_neg (by decide)]; exact m_signT_b hP hq hn h.1 (by have := h.2.1; omega)
  · rw [h.2.2.2, show sgL 3 = 1 from by decide, if_neg (by decide)]; exact m_signT_c hP hq hn h.1 (by have := h.2.1; have := h.2.2.1; omega)
  · rw [h.2.2, show sgL 7 = 2 from by decide, if_neg (by decide)]; exact m_signT_d hP hq hn h.1 (by have := h.2.1; omega)
  · rw [h.2.2, show sgL 8 = 1 from by decide, if_neg (by decide)]; exact m_signT_e hP hq hn h.1 (by have := h.2.1; omega)
  · rw [h.2, show sgL 5 = 1 from by decide, if_neg (by decide)]; exact m_signT_f hP hq hn h.1
  · rw [h.2, show sgL 9 = 1 from by decide, if_neg (by decide)]; exact m_signT_g hP hq hn h.1
  · rw [h.2, show sgL 10 = 1 from by decide, if_neg (by decide)]; exact m_signT_h hP hq hn h.1
  · rw [h.2, show sgL 11 = 1 from by decide, if_neg (by decide)]; exact m_signT_i hP hq hn h.1
  · rw [h.2, show sgL 12 = 1 from by decide, if_neg (by decide)]; exact m_signT_j hP hq hn h.1
  · rw [h.2, show sgL 13 = 1 from by decide, if_neg (by decide)]; exact m_signT_k hP hq hn h.1
  · rw [h.2, show sgL 14 = 1 from by decide, if_neg (by decide)]; exact m_signT_l hP hq hn h.1
  · rw [h.2, show sgL 15 = 1 from by decide, if_neg (by decide)]; exact m_signT_m hP hq hn h.1
  · obtain ⟨h1, h2, h3, h4, h5, h6, h7, h8, h9, h10, h11⟩ := h
    rw [h11, show sgL (-1) = 1 from by decide, if_pos rfl]
    by_cases c : M 210 q = 37
    · exact m_signT_n hP hq hn c
    · exact m_signT_o hP hq hn ⟨h1, h2, h3, h4, h5, h6, h7, h8, h9, h10, c⟩

set_option maxRecDepth 100000 in
set_option maxHeartbeats 4000000 in
theorem lpX11_token1 {G : zG} {l : Launch} {L : Nat} {P : zP} {M0 : zM} {Z : zZ} (hP : PFok P) (hN : 0 ≤ M0 209 6 ∧ M0 209 6 ≤ 700) : ∀ (n : Nat) (p : Int) (g0 : 0 ≤ p) (g1 : p + n = M0 209 6) (kk : AW G l mdX11_token Z 52 [some (aR 209)] [] (LAY L) P (sm M0 209 7 (skp (M0 210) (M0 209 6) p)) 0 0), AW G l mdX11_token Z 0 [some (aR 209)] [] (LAY L) P (sm M0 209 7 p) 0 0 := by
  intro n
  induction n with
  | zero =>
    intro p g0 g1 kk
    refine a_aloadn dX11_token_0 rfl ?_
    refine b_getI (j' := 7) dX11_token_1 flX11_139 rfl rfl (L209 L) (fun hr1 => ?_)
    try simp (disch := omega) only [sm_n, sm_k, us_s, us_n] at hr1 ⊢
    refine a_aloadn dX11_token_4 rfl ?_
    refine b_getI (j' := 6) dX11_token_5 flX11_136 rfl rfl (L209 L) (fun hr5 => ?_)
    try simp (disch := omega) only [sm_n, sm_k, us_s, us_n] at hr5 ⊢
    refine a_icmp_ge (tgt := 52) dX11_token_8 (by decide) ⟨by omega, by omega⟩ ⟨by omega, by omega⟩ (fun hb8 => ?_) (fun hb8 => ?_)
    · have er : skp (M0 210) (M0 209 6) p = p := rn_stop (by rw [wsF_1]; omega)
      rw [er] at kk
      exact kk
    · exfalso; omega
  | succ n ih =>
    intro p g0 g1 kk
    refine a_aloadn dX11_token_0 rfl ?_
    refine b_getI (j' := 7) dX11_token_1 flX11_139 rfl rfl (L209 L) (fun hr1 => ?_)
    try simp (disch := omega) only [sm_n, sm_k, us_s, us_n] at hr1 ⊢
    refine a_aloadn dX11_token_4 rfl ?_
    refine b_getI (j' := 6) dX11_token_5 flX11_136 rfl rfl (L209 L) (fun hr5 => ?_)
    try simp (disch := omega) only [sm_n, sm_k, us_s, us_n] at hr5 ⊢
    refine a_icmp_ge (tgt := 52) dX11_token_8 (by decide) ⟨by omega, by omega⟩ ⟨by omega, by omega⟩ (fun hb8 => ?_) (fun hb8 => ?_)
    · exfalso; omega
    · refine a_aloadn dX11_token_11 rfl ?_
      refine a_getR (j' := 0) (y := 210) dX11_token_12 flX11_7 rfl rfl (L209 L) (p209_0 hP) ?_
      refine a_aloadn dX11_token_15 rfl ?_
      refine b_getI (j' := 7) dX11_token_16 flX11_139 rfl rfl (L209 L) (fun hr16 => ?_)
      try simp (disch := omega) only [sm_n, sm_k, us_s, us_n] at hr16 ⊢
      refine b_iald (N := 700) dX11_token_19 (L210 L) (by decide) (by omega) (by omega) (fun hr19 => ?_)
      try simp (disch := omega) only [sm_n, sm_k, us_s, us_n] at hr19 ⊢
      refine a_bipush (w := 10) dX11_token_20 (by decide) ?_
      refine a_icmp_eq (tgt := 39) dX11_token_22 (by decide) hr19 ⟨by omega, by omega⟩ (fun hb22 => ?_) (fun hb22 => ?_)
      · refine a_aloadn dX11_token_39 rfl ?_
        refine a_dupR dX11_token_40 ?_
        refine b_getI (j' := 7) dX11_token_41 flX11_139 rfl rfl (L209 L) (fun hr41 => ?_)
        try simp (disch := omega) only [sm_n, sm_k, us_s, us_n] at hr41 ⊢
        refine a_iconst dX11_token_44 ?_
        refine a_iadd dX11_token_45 ?_
        refine a_putI (j' := 7) dX11_token_46 flX11_139 rfl rfl (L209 L) (by decide) rfl ⟨by omega, by omega⟩ ?_
        refine a_goto (tgt := 0) dX11_token_49 (by decide) ?_
        have er : skp (M0 210) (M0 209 6) p = skp (M0 210) (M0 209 6) (p + 1) := rn_step (by omega) (by rw [wsF_1]; omega)
        rw [er] at kk
        rw [sm_sm]
        exact ih _ (by omega) (by omega) kk
      · refine a_aloadn dX11_token_25 rfl ?_
        refine a_getR (j' := 0) (y := 210) dX11_token_26 flX11_7 rfl rfl (L209 L) (p209_0 hP) ?_
        refine a_aloadn dX11_token_29 rfl ?_
        refine b_getI (j' := 7) dX11_token_30 flX11_139 rfl rfl (L209 L) (fun hr30 => ?_)
        try simp (disch := omega) only [sm_n, sm_k, us_s, us_n] at hr30 ⊢
        refine b_iald (N := 700) dX11_token_33 (L210 L) (by decide) (by omega) (by omega) (fun hr33 => ?_)
        try simp (disch := omega) only [sm_n, sm_k, us_s, us_n] at hr33 ⊢
        refine a_bipush (w := 32) dX11_token_34 (by decide) ?_
        refine a_icmp_ne (tgt := 52) dX11_token_36 (by decide) hr33 ⟨by omega, by omega⟩ (fun hb36 => ?_) (fun hb36 => ?_)
        · have er : skp (M0 210) (M0 209 6) p = p := rn_stop (by rw [wsF_1]; omega)
          rw [er] at kk
          exact kk
        · refine a_aloadn dX11_token_39 rfl ?_
          refine a_dupR dX11_token_40 ?_
          refine b_getI (j' := 7) dX11_token_41 flX11_139 rfl rfl (L209 L) (fun hr41 => ?_)
          try simp (disch := omega) only [sm_n, sm_k, us_s, us_n] at hr41 ⊢
          refine a_iconst dX11_token_44 ?_
          refine a_iadd dX11_token_45 ?_
          refine a_putI (j' := 7) dX11_token_46 flX11_139 rfl rfl (L209 L) (by decide) rfl ⟨by omega, by omega⟩ ?_
          refine a_goto (tgt := 0) dX11_token_49 (by decide) ?_
          have er : skp (M0 210) (M0 209 6) p = skp (M0 210) (M0 209 6) (p + 1) := rn_step (by omega) (by rw [wsF_1]; omega)
          rw [er] at kk
          rw [sm_sm]
          exact ih _ (by omega) (by omega) kk

set_option maxRecDepth 100000 in
set_option maxHeartbeats 4000000 in
theorem lpX11_token2 {G : zG} {l : Launch} {L : Nat} {P : zP} {M0 : zM} {Z : zZ} (hP : PFok P) (hN : 0 ≤ M0 209 6 ∧ M0 209 6 ≤ 700) : ∀ (n : Nat) (p : Int) (g0 : 0 ≤ p) (g1 : p + n = M0 209 6) (kk : AW G l mdX11_token Z 114 [some (aR 209)] [] (LAY L) P (sm M0 209 7 (rnE (loF (M0 210)) (M0 209 6) p)) 0 0), AW G l mdX11_token Z 90 [some (aR 209)] [] (LAY L) P (sm M0 209 7 p) 0 0 := by
  intro n
  induction n with
  | zero =>
    intro p g0 g1 kk
    refine a_aloadn dX11_token_90 rfl ?_
    refine a_aloadn dX11_token_91 rfl ?_
    refine b_getI (j' := 7) dX11_token_92 flX11_139 rfl rfl (L209 L) (fun hr92 => ?_)
    try simp (disch := omega) only [sm_n, sm_k, us_s, us_n] at hr92 ⊢
    refine a_oneV (as := [_]) (q := 209) dX11_token_95 mvX11_145 ⟨by decide, by decide⟩ (L209 L) rfl rfl rfl (Nat.le_of_ble_eq_true rfl) ⟨rfl, rfl⟩ ⟨by decide, by decide⟩ (m_X11_isSmall hP (by rw [show sm M0 209 7 p 209 6 = M0 209 6 from by rw [sm_k, us_n (by decide)]]; omega)) (fun x95 hx95 => ?_)
    rw [show sm M0 209 7 p 209 6 = M0 209 6 from by rw [sm_k, us_n (by decide)], show sm M0 209 7 p 210 = M0 210 from by rw [sm_n (by decide)]] at hx95
    refine a_if_eq (tgt := 114) dX11_token_98 (by decide) ⟨by omega, by omega⟩ (fun hb98 => ?_) (fun hb98 => ?_)
    · have er : rnE (loF (M0 210)) (M0 209 6) p = p := rn_stop (by omega)
      rw [er] at kk
      exact kk
    · exfalso; omega
  | succ n ih =>
    intro p g0 g1 kk
    refine a_aloadn dX11_token_90 rfl ?_
    refine a_aloadn dX11_token_91 rfl ?_
    refine b_getI (j' := 7) dX11_token_92 flX11_139 rfl rfl (L209 L) (fun hr92 => ?_)
    try simp (disch := omega) only [sm_n, sm_k, us_s, us_n] at hr92 ⊢
    refine a_oneV (as := [_]) (q := 209) dX11_token_95 mvX11_145 ⟨by decide, by decide⟩ (L209 L) rfl rfl rfl (Nat.le_of_ble_eq_true rfl) ⟨rfl, rfl⟩ ⟨by decide, by decide⟩ (m_X11_isSmall hP (by rw [show sm M0 209 7 p 209 6 = M0 209 6 from by rw [sm_k, us_n (by decide)]]; omega)) (fun x95 hx95 => ?_)
    rw [show sm M0 209 7 p 209 6 = M0 209 6 from by rw [sm_k, us_n (by decide)], show sm M0 209 7 p 210 = M0 210 from by rw [sm_n (by decide)]] at hx95
    refine a_if_eq (tgt := 114) dX11_token_98 (by decide) ⟨by omega, by omega⟩ (fun hb98 => ?_) (fun hb98 => ?_)
    · have er : rnE (loF (M0 210)) (M0 209 6) p = p := rn_stop (by omega)
      rw [er] at kk
      exact kk
    · refine a_aloadn dX11_token_101 rfl ?_
      refine a_dupR dX11_token_102 ?_
      refine b_getI (j' := 7) dX11_token_103 flX11_139 rfl rfl (L209 L) (fun hr103 => ?_)
      try simp (disch := omega) only [sm_n, sm_k, us_s, us_n] at hr103 ⊢
      refine a_iconst dX11_token_106 ?_
      refine a_iadd dX11_token_107 ?_
      refine a_putI (j' := 7) dX11_token_108 flX11_139 rfl rfl (L209 L) (by decide) rfl ⟨by omega, by omega⟩ ?_
      refine a_goto (tgt := 90) dX11_token_111 (by decide) ?_
      have er : rnE (loF (M0 210)) (M0 209 6) p = rnE (loF (M0 210)) (M0 209 6) (p + 1) := rn_step (by omega) (by omega)
      rw [er] at kk
      rw [sm_sm]
      exact ih _ (by omega) (by omega) kk

theorem tkA {x n9 s v : Int} (h0 : 0 ≤ x ∧ x ≤ 20) (h1 : n9 = swp x) (hs : s = 3) (hv : v = n9) : TKq s v 1 x := by
  refine Or.inr (Or.inr (Or.inr (Or.inl ⟨hs, rfl, h0.1, h0.2, ?_⟩)))
  rw [hv, h1]
  unfold swp
  by_cases c1 : x = 11
  · rw [if_pos c1]; exact Or.inl ⟨c1, rfl⟩
  · rw [if_neg c1]
    by_cases c2 : x = 12
    · rw [if_pos c2]; exact Or.inr (Or.inl ⟨c2, rfl⟩)
    · rw [if_neg c2]; exact Or.inr (Or.inr ⟨c1, c2, rfl⟩)

set_option maxRecDepth 100000 in
set_option maxHeartbeats 4000000 in
theorem tlX11_tokW {G : zG} {l : Launch} {L : Nat} {P : zP} {M : zM} {q e s v : Int} (hP : PFok P) (hW : ∀ i : Int, 0 ≤ i → i < 107 → M 211 i = wrd i) (he : e = M 209 7) (hq : q = M 209 10) (hr : 0 ≤ q ∧ q < e ∧ e ≤ 700) (hl : ∀ i : Int, q ≤ i → i < e → 97 ≤ M 210 i ∧ M 210 i ≤ 122) (hs : (e - q ≤ 6 ∧ wnF9 (wvF (M 210) q e) ≠ -1 ∧ s = 3 ∧ v = wnF9 (wvF (M 210) q e)) ∨ (e - q ≤ 6 ∧ wnF9 (wvF (M 210) q e) = -1 ∧ s = 2 ∧ v = wvF (M 210) q e) ∨ (6 < e - q ∧ s = 1)) : AW G l mdX11_token (zrel none (LAY L) P (fun M' => M' 209 7 = e ∧ M' 209 10 = q ∧ TKq s v (M' 209 8) (M' 209 9) ∧ Fk M M')) 114 [some (aR 209)] [] (LAY L) P M 0 0 := by
  have wx := wfi_in (M 210) q e 21 0 (by omega)
  have wl : q + 5 < e → wfi (M 210) q e 21 0 = -1 := wf_long
  have ww : e ≤ q + 6 → _ := wf_wn hl (by omega)
  have wi := wvF_in hl
  obtain ⟨x, ex⟩ : ∃ x, x = wfi (M 210) q e 21 0 := ⟨_, rfl⟩
  rw [← ex] at wx wl ww
  refine a_aloadn dX11_token_114 rfl ?_
  refine a_aloadn dX11_token_115 rfl ?_
  refine a_aloadn dX11_token_116 rfl ?_
  refine b_getI (j' := 10) dX11_token_117 flX11_133 rfl rfl (L209 L) (fun hr117 => ?_)
  try simp (disch := omega) only [sm_n, sm_k, us_s, us_n, ← he, ← hq] at hr117 ⊢
  refine a_aloadn dX11_token_120 rfl ?_
  refine b_getI (j' := 7) dX11_token_121 flX11_139 rfl rfl (L209 L) (fun hr121 => ?_)
  try simp (disch := omega) only [sm_n, sm_k, us_s, us_n, ← he, ← hq] at hr121 ⊢
  refine a_callV (as := [_, _]) (q := 209) dX11_token_124 mvX11_149 ⟨by decide, by decide⟩ (L209 L) rfl rfl rfl (Nat.le_of_ble_eq_true rfl) ⟨rfl, rfl⟩ ⟨by decide, by decide⟩ (m_X11_wordAt hP (by omega) hW) ?_
  rw [← ex]
  refine a_putI (j' := 9) dX11_token_127 flX11_153 rfl rfl (L209 L) (by decide) rfl ⟨by omega, by omega⟩ ?_
  refine a_aloadn dX11_token_130 rfl ?_
  refine a_aloadn dX11_token_131 rfl ?_
  refine b_getI (j' := 9) dX11_token_132 flX11_153 rfl rfl (L209 L) (fun hr132 => ?_)
  try simp (disch := omega) only [sm_n, sm_k, us_s, us_n, ← he, ← hq] at hr132 ⊢
  refine a_if_lt (tgt := 142) dX11_token_135 (by decide) ⟨by omega, by omega⟩ (fun hb135 => ?_) (fun hb135 => ?_)
  · refine a_aloadn dX11_token_142 rfl ?_
    refine b_getI (j' := 7) dX11_token_143 flX11_139 rfl rfl (L209 L) (fun hr143 => ?_)
    try simp (disch := omega) only [sm_n, sm_k, us_s, us_n, ← he, ← hq] at hr143 ⊢
    refine a_aloadn dX11_token_146 rfl ?_
    refine b_getI (j' := 10) dX11_token_147 flX11_133 rfl rfl (L209 L) (fun hr147 => ?_)
    try simp (disch := omega) only [sm_n, sm_k, us_s, us_n, ← he, ← hq] at hr147 ⊢
    refine a_isub dX11_token_150 ?_
    refine a_bipush (w := 6) dX11_token_151 (by decide) ?_
    refine a_icmp_le (tgt := 161) dX11_token_153 (by decide) ⟨by omega, by omega⟩ ⟨by omega, by omega⟩ (fun hb153 => ?_) (fun hb153 => ?_)
    · refine a_iconst dX11_token_161 ?_
      refine a_putI (j' := 8) dX11_token_162 flX11_142 rfl rfl (L209 L) (by decide) rfl ⟨by omega, by omega⟩ ?_
      refine a_aloadn dX11_token_165 rfl ?_
      refine b_getI (j' := 8) dX11_token_166 flX11_142 rfl rfl (L209 L) (fun hr166 => ?_)
      try simp (disch := omega) only [sm_n, sm_k, us_s, us_n, ← he, ← hq] at hr166 ⊢
      refine a_iconst dX11_token_169 ?_
      refine a_icmp_ne (tgt := 281) dX11_token_170 (by decide) ⟨by omega, by omega⟩ ⟨by omega, by omega⟩ (fun hb170 => ?_) (fun hb170 => ?_)
      · exact a_return dX11_token_281 rfl rfl rfl (zrel_V (by
      refine ⟨by simp (disch := decide) only [sm_k, us_s, us_n] <;> omega, by simp (disch := decide) only [sm_k, us_s, us_n] <;> omega, ?_, by repeat (first | exact Fk.rf _ | refine Fk.sm ?_ (by omega) _)⟩
      simp (disch := decide) only [sm_k, us_s, us_n]
      first
      | (exfalso; omega)
      | (have hx : 0 ≤ x := by omega
         have y := (ww (by omega)).resolve_left (by omega)
         have sw := swp_in (k := x) (by omega)
         have sv : s = 3 ∧ v = wnF9 (wvF (M 210) q e) := by omega
         exact tkA ⟨y.1, y.2.1⟩ y.2.2 sv.1 sv.2)
      | (have hx : x < 0 ∧ e - q ≤ 6 := by omega
         have y := (ww (by omega)).resolve_right (by omega)
         have sv : s = 2 ∧ v = wvF (M 210) q e := by omega
         exact Or.inr (Or.inr (Or.inl ⟨sv.1, rfl, sv.2⟩)))
      | (have hx : 6 < e - q := by omega
         have sv : s = 1 := by omega
         exact Or.inr (Or.inl ⟨sv, Or.inl rfl⟩))))
      · refine a_aloadn dX11_token_173 rfl ?_
        refine a_aloadn dX11_token_174 rfl ?_
        refine a_aloadn dX11_token_175 rfl ?_
        refine b_getI (j' := 10) dX11_token_176 flX11_133 rfl rfl (L209 L) (fun hr176 => ?_)
        try simp (disch := omega) only [sm_n, sm_k, us_s, us_n, ← he, ← hq] at hr176 ⊢
        refine a_aloadn dX11_token_179 rfl ?_
        refine b_getI (j' := 7) dX11_token_180 flX11_139 rfl rfl (L209 L) (fun hr180 => ?_)
        try simp (disch := omega) only [sm_n, sm_k, us_s, us_n, ← he, ← hq] at hr180 ⊢
        refine a_callV (as := [_, _]) (q := 209) dX11_token_183 mvX11_156 ⟨by decide, by decide⟩ (L209 L) rfl rfl rfl (Nat.le_of_ble_eq_true rfl) ⟨rfl, rfl⟩ ⟨by decide, by decide⟩ (m_X11_packed hP (by omega) (by rw [sm_n (show 210 ≠ 209 by decide), sm_n (show 210 ≠ 209 by decide)]; exact hl)) ?_
        rw [sm_n (show 210 ≠ 209 by decide), sm_n (show 210 ≠ 209 by decide)]
        refine a_putI (j' := 9) dX11_token_186 flX11_153 rfl rfl (L209 L) (by decide) rfl ⟨by omega, by omega⟩ ?_
        refine a_goto (tgt := 281) dX11_token_189 (by decide) ?_
        exact a_return dX11_token_281 rfl rfl rfl (zrel_V (by
      refine ⟨by simp (disch := decide) only [sm_k, us_s, us_n] <;> omega, by simp (disch := decide) only [sm_k, us_s, us_n] <;> omega, ?_, by repeat (first | exact Fk.rf _ | refine Fk.sm ?_ (by omega) _)⟩
      simp (disch := decide) only [sm_k, us_s, us_n]
      first
      | (exfalso; omega)
      | (have hx : 0 ≤ x := by omega
         have y := (ww (by omega)).resolve_left (by omega)
         have sw := swp_in (k := x) (by omega)
         have sv : s = 3 ∧ v = wnF9 (wvF (M 210) q e) := by omega
         exact tkA ⟨y.1, y.2.1⟩ y.2.2 sv.1 sv.2)
      | (have hx : x < 0 ∧ e - q ≤ 6 := by omega
         have y := (ww (by omega)).resolve_right (by omega)
         have sv : s = 2 ∧ v = wvF (M 210) q e := by omega
         exact Or.inr (Or.inr (Or.inl ⟨sv.1, rfl, sv.2⟩)))
      | (have hx : 6 < e - q := by omega
         have sv : s = 1 := by omega
         exact Or.inr (Or.inl ⟨sv, Or.inl rfl⟩))))
    · refine a_bipush (w := 6) dX11_token_156 (by decide) ?_
      refine a_goto (tgt := 162) dX11_token_158 (by decide) ?_
      refine a_putI (j' := 8) dX11_token_162 flX11_142 rfl rfl (L209 L) (by decide) rfl ⟨by omega, by omega⟩ ?_
      refine a_aloadn dX11_token_165 rfl ?_
      refine b_getI (j' := 8) dX11_token_166 flX11_142 rfl rfl (L209 L) (fun hr166 => ?_)
      try simp (disch := omega) only [sm_n, sm_k, us_s, us_n, ← he, ← hq] at hr166 ⊢
      refine a_iconst dX11_token_169 ?_
      refine a_icmp_ne (tgt := 281) dX11_token_170 (by decide) ⟨by omega, by omega⟩ ⟨by omega, by omega⟩ (fun hb170 => ?_) (fun hb170 => ?_)
      · exact a_return dX11_token_281 rfl rfl rfl (zrel_V (by
      refine ⟨by simp (disch := decide) only [sm_k, us_s, us_n] <;> omega, by simp (disch := decide) only [sm_k, us_s, us_n] <;> omega, ?_, by repeat (first | exact Fk.rf _ | refine Fk.sm ?_ (by omega) _)⟩
      simp (disch := decide) only [sm_k, us_s, us_n]
      first
      | (exfalso; omega)
      | (have hx : 0 ≤ x := by omega
         have y := (ww (by omega)).resolve_left (by omega)
         have sw := swp_in (k := x) (by omega)
         have sv : s = 3 ∧ v = wnF9 (wvF (M 210) q e) := by omega
         exact tkA ⟨y.1, y.2.1⟩ y.2.2 sv.1 sv.2)
      | (have hx : x < 0 ∧ e - q ≤ 6 := by omega
         have y := (ww (by omega)).resolve_right (by omega)
         have sv : s = 2 ∧ v = wvF (M 210) q e := by omega
         exact Or.inr (Or.inr (Or.inl ⟨sv.1, rfl, sv.2⟩)))
      | (have hx : 6 < e - q := by omega
         have sv : s = 1 := by omega
         exact Or.inr (Or.inl ⟨sv, Or.inl rfl⟩))))
      · refine a_aloadn dX11_token_173 rfl ?_
        refine a_aloadn dX11_token_174 rfl ?_
        refine a_aloadn dX11_token_175 rfl ?_
        refine b_getI (j' := 10) dX11_token_176 flX11_133 rfl rfl (L209 L) (fun hr176 => ?_)
        try simp (disch := omega) only [sm_n, sm_k, us_s, us_n, ← he, ← hq] at hr176 ⊢
        refine a_aloadn dX11_token_179 rfl ?_
        refine b_getI (j' := 7) dX11_token_180 flX11_139 rfl rfl (L209 L) (fun hr180 => ?_)
        try simp (disch := omega) only [sm_n, sm_k, us_s, us_n, ← he, ← hq] at hr180 ⊢
        refine a_callV (as := [_, _]) (q := 209) dX11_token_183 mvX11_156 ⟨by decide, by decide⟩ (L209 L) rfl rfl rfl (Nat.le_of_ble_eq_true rfl) ⟨rfl, rfl⟩ ⟨by decide, by decide⟩ (m_X11_packed hP (by omega) (by rw [sm_n (show 210 ≠ 209 by decide), sm_n (show 210 ≠ 209 by decide)]; exact hl)) ?_
        rw [sm_n (show 210 ≠ 209 by decide), sm_n (show 210 ≠ 209 by decide)]
        refine a_putI (j' := 9) dX11_token_186 flX11_153 rfl rfl (L209 L) (by decide) rfl ⟨by omega, by omega⟩ ?_
        refine a_goto (tgt := 281) dX11_token_189 (by decide) ?_
        exact a_return dX11_token_281 rfl rfl rfl (zrel_V (by
      refine ⟨by simp (disch := decide) only [sm_k, us_s, us_n] <;> omega, by simp (disch := decide) only [sm_k, us_s, us_n] <;> omega, ?_, by repeat (first | exact Fk.rf _ | refine Fk.sm ?_ (by omega) _)⟩
      simp (disch := decide) only [sm_k, us_s, us_n]
      first
      | (exfalso; omega)
      | (have hx : 0 ≤ x := by omega
         have y := (ww (by omega)).resolve_left (by omega)
         have sw := swp_in (k := x) (by omega)
         have sv : s = 3 ∧ v = wnF9 (wvF (M 210) q e) := by omega
         exact tkA ⟨y.1, y.2.1⟩ y.2.2 sv.1 sv.2)
      | (have hx : x < 0 ∧ e - q ≤ 6 := by omega
         have y := (ww (by omega)).resolve_right (by omega)
         have sv : s = 2 ∧ v = wvF (M 210) q e := by omega
         exact Or.inr (Or.inr (Or.inl ⟨sv.1, rfl, sv.2⟩)))
      | (have hx : 6 < e - q := by omega
         have sv : s = 1 := by omega
         exact Or.inr (Or.inl ⟨sv, Or.inl rfl⟩))))
  · refine a_iconst dX11_token_138 ?_
    refine a_goto (tgt := 162) dX11_token_139 (by decide) ?_
    refine a_putI (j' := 8) dX11_token_162 flX11_142 rfl rfl (L209 L) (by decide) rfl ⟨by omega, by omega⟩ ?_
    refine a_aloadn dX11_token_165 rfl ?_
    refine b_getI (j' := 8) dX11_token_166 flX11_142 rfl rfl (L209 L) (fun hr166 => ?_)
    try simp (disch := omega) only [sm_n, sm_k, us_s, us_n, ← he, ← hq] at hr166 ⊢
    refine a_iconst dX11_token_169 ?_
    refine a_icmp_ne (tgt := 281) dX11_token_170 (by decide) ⟨by omega, by omega⟩ ⟨by omega, by omega⟩ (fun hb170 => ?_) (fun hb170 => ?_)
    · exact a_return dX11_token_281 rfl rfl rfl (zrel_V (by
      refine ⟨by simp (disch := decide) only [sm_k, us_s, us_n] <;> omega, by simp (disch := decide) only [sm_k, us_s, us_n] <;> omega, ?_, by repeat (first | exact Fk.rf _ | refine Fk.sm ?_ (by omega) _)⟩
      simp (disch := decide) only [sm_k, us_s, us_n]
      first
      | (exfalso; omega)
      | (have hx : 0 ≤ x := by omega
         have y := (ww (by omega)).resolve_left (by omega)
         have sw := swp_in (k := x) (by omega)
         have sv : s = 3 ∧ v = wnF9 (wvF (M 210) q e) := by omega
         exact tkA ⟨y.1, y.2.1⟩ y.2.2 sv.1 sv.2)
      | (have hx : x < 0 ∧ e - q ≤ 6 := by omega
         have y := (ww (by omega)).resolve_right (by omega)
         have sv : s = 2 ∧ v = wvF (M 210) q e := by omega
         exact Or.inr (Or.inr (Or.inl ⟨sv.1, rfl, sv.2⟩)))
      | (have hx : 6 < e - q := by omega
         have sv : s = 1 := by omega
         exact Or.inr (Or.inl ⟨sv, Or.inl rfl⟩))))
    · refine a_aloadn dX11_token_173 rfl ?_
      refine a_aloadn dX11_token_174 rfl ?_
      refine a_aloadn dX11_token_175 rfl ?_
      refine b_getI (j' := 10) dX11_token_176 flX11_133 rfl rfl (L209 L) (fun hr176 => ?_)
      try simp (disch := omega) only [sm_n, sm_k, us_s, us_n, ← he, ← hq] at hr176 ⊢
      refine a_aloadn dX11_token_179 rfl ?_
      refine b_getI (j' := 7) dX11_token_180 flX11_139 rfl rfl (L209 L) (fun hr180 => ?_)
      try simp (disch := omega) only [sm_n, sm_k, us_s, us_n, ← he, ← hq] at hr180 ⊢
      refine a_callV (as := [_, _]) (q := 209) dX11_token_183 mvX11_156 ⟨by decide, by decide⟩ (L209 L) rfl rfl rfl (Nat.le_of_ble_eq_true rfl) ⟨rfl, rfl⟩ ⟨by decide, by decide⟩ (m_X11_packed hP (by omega) (by rw [sm_n (show 210 ≠ 209 by decide), sm_n (show 210 ≠ 209 by decide)]; exact hl)) ?_
      rw [sm_n (show 210 ≠ 209 by decide), sm_n (show 210 ≠ 209 by decide)]
      refine a_putI (j' := 9) dX11_token_186 flX11_153 rfl rfl (L209 L) (by decide) rfl ⟨by omega, by omega⟩ ?_
      refine a_goto (tgt := 281) dX11_token_189 (by decide) ?_
      exact a_return dX11_token_281 rfl rfl rfl (zrel_V (by
      refine ⟨by simp (disch := decide) only [sm_k, us_s, us_n] <;> omega, by simp (disch := decide) only [sm_k, us_s, us_n] <;> omega, ?_, by repeat (first | exact Fk.rf _ | refine Fk.sm ?_ (by omega) _)⟩
      simp (disch := decide) only [sm_k, us_s, us_n]
      first
      | (exfalso; omega)
      | (have hx : 0 ≤ x := by omega
         have y := (ww (by omega)).resolve_left (by omega)
         have sw := swp_in (k := x) (by omega)
         have sv : s = 3 ∧ v = wnF9 (wvF (M 210) q e) := by omega
         exact tkA ⟨y.1, y.2.1⟩ y.2.2 sv.1 sv.2)
      | (have hx : x < 0 ∧ e - q ≤ 6 := by omega
         have y := (ww (by omega)).resolve_right (by omega)
         have sv : s = 2 ∧ v = wvF (M 210) q e := by omega
         exact Or.inr (Or.inr (Or.inl ⟨sv.1, rfl, sv.2⟩)))
      | (have hx : 6 < e - q := by omega
         have sv : s = 1 := by omega
         exact Or.inr (Or.inl ⟨sv, Or.inl rfl⟩))))

/-- the reference's number under way -/
def dgM (M : zM) (p w : Int) : zM := sm (sm M 209 9 w) 209 7 p
theorem dgM_s (M : zM) (p w p2 w2 : Int) : sm (sm (dgM M p w) 209 9 w2) 209 7 p2 = dgM M p2 w2 := by
  unfold dgM
  funext k j
  by_cases e : k = 209
  · subst e
    simp only [sm_k]
    unfold us
    by_cases c1 : j = 7
    · simp only [if_pos c1]
    · by_cases c2 : j = 9
      · simp only [if_neg c1, if_pos c2]
      · simp only [if_neg c1, if_neg c2]
  · rw [sm_n e, sm_n e, sm_n e, sm_n e, sm_n e, sm_n e]
theorem dgM_f (M : zM) (p w : Int) : dgM M p w 209 7 = p ∧ dgM M p w 209 9 = w ∧ dgM M p w 209 6 = M 209 6 ∧ dgM M p w 210 = M 210 := by
  unfold dgM
  exact ⟨by rw [sm_s], by rw [sm_k, us_n (by decide), sm_s], by rw [sm_k, us_n (by decide), sm_k, us_n (by decide)], by rw [sm_n (by decide), sm_n (by decide)]⟩

set_option maxRecDepth 100000 in
set_option maxHeartbeats 4000000 in
theorem lpX11_token3 {G : zG} {l : Launch} {L : Nat} {P : zP} {M0 : zM} (hP : PFok P) (hN : 0 ≤ M0 209 6 ∧ M0 209 6 ≤ 700) : ∀ (n : Nat) (p w : Int) (g0 : 0 ≤ p) (g1 : p + n = M0 209 6) (gw : 0 ≤ w ∧ w ≤ 1000000), AW G l mdX11_token (zrel none (LAY L) P (fun M' => M' = dgM M0 (rnE (diF (M0 210)) (M0 209 6) p) (nvR (M0 210) (rnE (diF (M0 210)) (M0 209 6) p - p).toNat p w))) 213 [some (aR 209)] [] (LAY L) P (dgM M0 p w) 0 0 := by
  intro n
  induction n with
  | zero =>
    intro p w g0 g1 gw
    obtain ⟨f7, f9, f6, f10⟩ := dgM_f M0 p w
    refine a_aloadn dX11_token_213 rfl ?_
    refine a_aloadn dX11_token_214 rfl ?_
    refine b_getI (j' := 7) dX11_token_215 flX11_139 rfl rfl (L209 L) (fun hr215 => ?_)
    rw [f7] at hr215
    rw [f7]
    refine a_oneV (as := [_]) (q := 209) dX11_token_218 mvX11_159 ⟨by decide, by decide⟩ (L209 L) rfl rfl rfl (Nat.le_of_ble_eq_true rfl) ⟨rfl, rfl⟩ ⟨by decide, by decide⟩ (m_X11_isDigit hP (by rw [f6]; omega)) (fun x218 hx218 => ?_)
    rw [f6, f10] at hx218
    have hd : p < M0 209 6 ∧ diF (M0 210) p ≠ 0 → 48 ≤ M0 210 p ∧ M0 210 p ≤ 57 := fun z => diF_1.mp z.2
    refine a_if_eq (tgt := 281) dX11_token_221 (by decide) ⟨by omega, by omega⟩ (fun hb221 => ?_) (fun hb221 => ?_)
    · obtain ⟨f7, f9, f6, f10⟩ := dgM_f M0 p w
      have er : rnE (diF (M0 210)) (M0 209 6) p = p := rn_stop (by omega)
      exact a_return dX11_token_281 rfl rfl rfl (zrel_V (by rw [er, show (p - p).toNat = 0 by omega]; rfl))
    · exfalso; omega
  | succ n ih =>
    intro p w g0 g1 gw
    obtain ⟨f7, f9, f6, f10⟩ := dgM_f M0 p w
    refine a_aloadn dX11_token_213 rfl ?_
    refine a_aloadn dX11_token_214 rfl ?_
    refine b_getI (j' := 7) dX11_token_215 flX11_139 rfl rfl (L209 L) (fun hr215 => ?_)
    rw [f7] at hr215
    rw [f7]
    refine a_oneV (as := [_]) (q := 209) dX11_token_218 mvX11_159 ⟨by decide, by decide⟩ (L209 L) rfl rfl rfl (Nat.le_of_ble_eq_true rfl) ⟨rfl, rfl⟩ ⟨by decide, by decide⟩ (m_X11_isDigit hP (by rw [f6]; omega)) (fun x218 hx218 => ?_)
    rw [f6, f10] at hx218
    have hd : p < M0 209 6 ∧ diF (M0 210) p ≠ 0 → 48 ≤ M0 210 p ∧ M0 210 p ≤ 57 := fun z => diF_1.mp z.2
    refine a_if_eq (tgt := 281) dX11_token_221 (by decide) ⟨by omega, by omega⟩ (fun hb221 => ?_) (fun hb221 => ?_)
    · have er : rnE (diF (M0 210)) (M0 209 6) p = p := rn_stop (by omega)
      exact a_return dX11_token_281 rfl rfl rfl (zrel_V (by rw [er, show (p - p).toNat = 0 by omega]; rfl))
    · refine a_aloadn dX11_token_224 rfl ?_
      refine a_aloadn dX11_token_225 rfl ?_
      refine b_getI (j' := 9) dX11_token_226 flX11_153 rfl rfl (L209 L) (fun hr226 => ?_)
      rw [f9] at hr226
      rw [f9]
      refine a_ldc (w := 99999) dX11_token_229 knX11_162 (by decide) ?_
      refine a_icmp_le (tgt := 241) dX11_token_231 (by decide) ⟨by omega, by omega⟩ ⟨by omega, by omega⟩ (fun hb231 => ?_) (fun hb231 => ?_)
      · refine a_bipush (w := 10) dX11_token_241 (by decide) ?_
        refine a_aloadn dX11_token_243 rfl ?_
        refine b_getI (j' := 9) dX11_token_244 flX11_153 rfl rfl (L209 L) (fun hr244 => ?_)
        rw [f9] at hr244
        rw [f9]
        refine a_imul dX11_token_247 ?_
        refine a_aloadn dX11_token_248 rfl ?_
        refine a_getR (j' := 0) (y := 210) dX11_token_249 flX11_7 rfl rfl (L209 L) (p209_0 hP) ?_
        refine a_aloadn dX11_token_252 rfl ?_
        refine b_getI (j' := 7) dX11_token_253 flX11_139 rfl rfl (L209 L) (fun hr253 => ?_)
        rw [f7] at hr253
        rw [f7]
        refine b_iald (N := 700) dX11_token_256 (L210 L) (by decide) (by omega) (by omega) (fun hr256 => ?_)
        rw [f10] at hr256
        rw [f10]
        refine a_iadd dX11_token_257 ?_
        refine a_bipush (w := 48) dX11_token_258 (by decide) ?_
        refine a_isub dX11_token_260 ?_
        refine a_putI (j' := 9) dX11_token_261 flX11_153 rfl rfl (L209 L) (by decide) rfl ⟨by omega, by omega⟩ ?_
        refine a_aloadn dX11_token_264 rfl ?_
        refine a_dupR dX11_token_265 ?_
        refine b_getI (j' := 7) dX11_token_266 flX11_139 rfl rfl (L209 L) (fun hr266 => ?_)
        rw [show sm (dgM M0 p w) 209 9 _ 209 7 = p from by rw [sm_k, us_n (by decide)]; exact f7] at hr266
        rw [show sm (dgM M0 p w) 209 9 _ 209 7 = p from by rw [sm_k, us_n (by decide)]; exact f7]
        refine a_iconst dX11_token_269 ?_
        refine a_iadd dX11_token_270 ?_
        refine a_putI (j' := 7) dX11_token_271 flX11_139 rfl rfl (L209 L) (by decide) rfl ⟨by omega, by omega⟩ ?_
        refine a_goto (tgt := 213) dX11_token_274 (by decide) ?_
        have er : rnE (diF (M0 210)) (M0 209 6) p = rnE (diF (M0 210)) (M0 209 6) (p + 1) := rn_step (by omega) (by omega)
        have eb := rn_all (diF (M0 210)) (n := M0 209 6) (p := p + 1) (by omega)
        rw [er, show (rnE (diF (M0 210)) (M0 209 6) (p + 1) - p).toNat = (rnE (diF (M0 210)) (M0 209 6) (p + 1) - (p + 1)).toNat + 1 by omega]
        simp only [nvR]
        rw [dgM_s]
        first
        | (rw [if_pos (by omega)]; exact ih _ _ (by omega) (by omega) (by omega))
        | (rw [if_neg (by omega)]; exact ih _ _ (by omega) (by omega) (by omega))
      · refine a_aloadn dX11_token_234 rfl ?_
        refine b_getI (j' := 9) dX11_token_235 flX11_153 rfl rfl (L209 L) (fun hr235 => ?_)
        rw [f9] at hr235
        rw [f9]
        refine a_goto (tgt := 261) dX11_token_238 (by decide) ?_
        refine a_putI (j' := 9) dX11_token_261 flX11_153 rfl rfl (L209 L) (by decide) rfl ⟨by omega, by omega⟩ ?_
        refine a_aloadn dX11_token_264 rfl ?_
        refine a_dupR dX11_token_265 ?_
        refine b_getI (j' := 7) dX11_token_266 flX11_139 rfl rfl (L209 L) (fun hr266 => ?_)
        rw [show sm (dgM M0 p w) 209 9 _ 209 7 = p from by rw [sm_k, us_n (by decide)]; exact f7] at hr266
        rw [show sm (dgM M0 p w) 209 9 _ 209 7 = p from by rw [sm_k, us_n (by decide)]; exact f7]
        refine a_iconst dX11_token_269 ?_
        refine a_iadd dX11_token_270 ?_
        refine a_putI (j' := 7) dX11_token_271 flX11_139 rfl rfl (L209 L) (by decide) rfl ⟨by omega, by omega⟩ ?_
        refine a_goto (tgt := 213) dX11_token_274 (by decide) ?_
        have er : rnE (diF (M0 210)) (M0 209 6) p = rnE (diF (M0 210)) (M0 209 6) (p + 1) := rn_step (by omega) (by omega)
        have eb := rn_all (diF (M0 210)) (n := M0 209 6) (p := p + 1) (by omega)
        rw [er, show (rnE (diF (M0 210)) (M0 209 6) (p + 1) - p).toNat = (rnE (diF (M0 210)) (M0 209 6) (p + 1) - (p + 1)).toNat + 1 by omega]
        simp only [nvR]
        rw [dgM_s]
        first
        | (rw [if_pos (by omega)]; exact ih _ _ (by omega) (by omega) (by omega))
        | (rw [if_neg (by omega)]; exact ih _ _ (by omega) (by omega) (by omega))

/-- the next token is come to, in the reference -/
def TkR (f : Int → Int) (n p : Int) (M M' : zM) : Prop := M' 209 7 = tkE f n (skp f n p) ∧ M' 209 10 = skp f n p ∧ TKq (tkS f n (skp f n p)) (tkV f n (skp f n p)) (M' 209 8) (M' 209 9) ∧ Fk M M'
theorem tkW_s {f : Int → Int} {n q e : Int} (hq : q < n) (hl : loF f q ≠ 0) (he : e = rnE (loF f) n q) : tkE f n q = e ∧ ((e - q ≤ 6 ∧ wnF9 (wvF f q e) ≠ -1 ∧ tkS f n q = 3 ∧ tkV f n q = wnF9 (wvF f q e)) ∨ (e - q ≤ 6 ∧ wnF9 (wvF f q e) = -1 ∧ tkS f n q = 2 ∧ tkV f n q = wvF f q e) ∨ (6 < e - q ∧ tkS f n q = 1)) := by
  unfold tkE tkS tkV
  rw [if_neg (show ¬ n ≤ q by omega), if_neg (show ¬ n ≤ q by omega), if_neg (show ¬ n ≤ q by omega), if_pos hl, if_pos hl, if_pos hl, ← he]
  refine ⟨rfl, ?_⟩
  by_cases c1 : 6 < e - q
  · rw [if_pos c1]; exact Or.inr (Or.inr ⟨c1, rfl⟩)
  · rw [if_neg c1, if_neg c1]
    by_cases c2 : wnF9 (wvF f q e) = -1
    · rw [if_pos c2, if_pos c2]; exact Or.inr (Or.inl ⟨by omega, c2, rfl, rfl⟩)
    · rw [if_neg c2, if_neg c2]; exact Or.inl ⟨by omega, c2, rfl, rfl⟩

set_option maxRecDepth 100000 in
set_option maxHeartbeats 4000000 in
theorem tk52 {G : zG} {l : Launch} {L : Nat} {P : zP} {M0 : zM} {p q : Int} (hP : PFok P) (hN : 0 ≤ M0 209 6 ∧ M0 209 6 ≤ 700) (hW : ∀ i : Int, 0 ≤ i → i < 107 → M0 211 i = wrd i) (hp : 0 ≤ p ∧ p ≤ M0 209 6) (eq : q = skp (M0 210) (M0 209 6) p) : AW G l mdX11_token (zrel none (LAY L) P (TkR (M0 210) (M0 209 6) p M0)) 52 [some (aR 209)] [] (LAY L) P (sm M0 209 7 q) 0 0 := by
  have qs := rn_all (wsF (M0 210)) (n := M0 209 6) (p := p) hp.2
  have q1 : p ≤ q ∧ q ≤ M0 209 6 := by rw [eq]; exact ⟨qs.1, qs.2.1⟩
  obtain ⟨M1, e1⟩ : ∃ M1, M1 = sm (sm M0 209 7 q) 209 10 q := ⟨_, rfl⟩
  have m7 : M1 209 7 = q := by rw [e1, sm_k, us_n (by decide), sm_s]
  have m10 : M1 209 10 = q := by rw [e1, sm_s]
  have m6 : M1 209 6 = M0 209 6 := by rw [e1, sm_k, us_n (by decide), sm_k, us_n (by decide)]
  have mr : ∀ k : Nat, k ≠ 209 → M1 k = M0 k := fun k hk => by rw [e1, sm_n hk, sm_n hk]
  have mf : Fk M0 M1 := by rw [e1]; exact ((Fk.rf M0).sm (by omega) _).sm (by omega) _
  have hW1 : ∀ i : Int, 0 ≤ i → i < 107 → M1 211 i = wrd i := fun i i0 i1 => by rw [mr 211 (by decide)]; exact hW i i0 i1
  unfold TkR
  rw [← eq]
  refine a_aloadn dX11_token_52 rfl ?_
  refine a_aloadn dX11_token_53 rfl ?_
  refine b_getI (j' := 7) dX11_token_54 flX11_139 rfl rfl (L209 L) (fun hr54 => ?_)
  try simp (disch := omega) only [sm_n, sm_k, us_s, us_n] at hr54 ⊢
  refine a_putI (j' := 10) dX11_token_57 flX11_133 rfl rfl (L209 L) (by decide) rfl ⟨by omega, by omega⟩ ?_
  rw [← e1]
  refine a_aloadn dX11_token_60 rfl ?_
  refine b_getI (j' := 7) dX11_token_61 flX11_139 rfl rfl (L209 L) (fun hr61 => ?_)
  try simp (disch := omega) only [sm_n, sm_k, us_s, us_n] at hr61 ⊢
  rw [m7] at hr61
  rw [m7]
  refine a_aloadn dX11_token_64 rfl ?_
  refine b_getI (j' := 6) dX11_token_65 flX11_136 rfl rfl (L209 L) (fun hr65 => ?_)
  try simp (disch := omega) only [sm_n, sm_k, us_s, us_n] at hr65 ⊢
  rw [m6] at hr65
  rw [m6]
  refine a_icmp_ne (tgt := 79) dX11_token_68 (by decide) ⟨by omega, by omega⟩ ⟨by omega, by omega⟩ (fun hb68 => ?_) (fun hb68 => ?_)
  · refine a_aloadn dX11_token_79 rfl ?_
    refine a_aloadn dX11_token_80 rfl ?_
    refine b_getI (j' := 7) dX11_token_81 flX11_139 rfl rfl (L209 L) (fun hr81 => ?_)
    try simp (disch := omega) only [sm_n, sm_k, us_s, us_n] at hr81 ⊢
    rw [m7] at hr81
    rw [m7]
    refine a_oneV (as := [_]) (q := 209) dX11_token_84 mvX11_145 ⟨by decide, by decide⟩ (L209 L) rfl rfl rfl (Nat.le_of_ble_eq_true rfl) ⟨rfl, rfl⟩ ⟨by decide, by decide⟩ (m_X11_isSmall hP (by rw [m6]; omega)) (fun x84 hx84 => ?_)
    rw [m6, mr 210 (by decide)] at hx84
    refine a_if_eq (tgt := 192) dX11_token_87 (by decide) ⟨by omega, by omega⟩ (fun hb87 => ?_) (fun hb87 => ?_)
    · refine a_aloadn dX11_token_192 rfl ?_
      refine a_aloadn dX11_token_193 rfl ?_
      refine b_getI (j' := 7) dX11_token_194 flX11_139 rfl rfl (L209 L) (fun hr194 => ?_)
      try simp (disch := omega) only [sm_n, sm_k, us_s, us_n] at hr194 ⊢
      rw [m7] at hr194
      rw [m7]
      refine a_oneV (as := [_]) (q := 209) dX11_token_197 mvX11_159 ⟨by decide, by decide⟩ (L209 L) rfl rfl rfl (Nat.le_of_ble_eq_true rfl) ⟨rfl, rfl⟩ ⟨by decide, by decide⟩ (m_X11_isDigit hP (by rw [m6]; omega)) (fun x197 hx197 => ?_)
      rw [m6, mr 210 (by decide)] at hx197
      refine a_if_eq (tgt := 277) dX11_token_200 (by decide) ⟨by omega, by omega⟩ (fun hb200 => ?_) (fun hb200 => ?_)
      · refine a_aloadn dX11_token_277 rfl ?_
        refine a_relVv (as := []) (q := 209) dX11_token_278 mvX11_163 ⟨by decide, by decide⟩ (L209 L) rfl rfl rfl (Nat.le_of_ble_eq_true rfl) ⟨rfl, rfl⟩ ⟨by decide, by decide⟩ (m_X11_signToken (q := q) (v := sgC (M0 210 q) (foll (M0 210) (M0 209 6) q)) hP m7.symm (by rw [m6]; omega) (by rw [m6, mr 210 (by decide)])) (fun M2 hM2 => ?_)
        exact a_return dX11_token_281 rfl rfl rfl (by
      first
      | (have hq9 : q = M0 209 6 := by omega
         refine zrel_V ⟨?_, ?_, ?_, mf.sm (by omega) _⟩
         · rw [sm_k, us_n (by decide), m7]; unfold tkE; rw [if_pos (by omega)]
         · rw [sm_k, us_n (by decide), m10]
         · unfold tkS; rw [if_pos (by omega), sm_s]; exact Or.inl ⟨rfl, rfl⟩)
      | (obtain ⟨s1, s2, s4, s3⟩ := hM2
         have h1 : ¬ loF (M0 210) q ≠ 0 := by omega
         have h2 : ¬ diF (M0 210) q ≠ 0 := by omega
         have hn9 : ¬ M0 209 6 ≤ q := by omega
         refine zrel_V ⟨?_, ?_, ?_, mf.tr s3⟩
         · rw [s1]; unfold tkE; rw [if_neg (by omega), if_neg h1, if_neg h2]
         · rw [s4]; exact m10
         · unfold tkS tkV; rw [if_neg hn9, if_neg h1, if_neg h2, if_neg hn9, if_neg h1, if_neg h2]; exact s2))
      · refine a_aloadn dX11_token_203 rfl ?_
        refine a_iconst dX11_token_204 ?_
        refine a_putI (j' := 8) dX11_token_205 flX11_142 rfl rfl (L209 L) (by decide) rfl ⟨by omega, by omega⟩ ?_
        refine a_aloadn dX11_token_208 rfl ?_
        refine a_iconst dX11_token_209 ?_
        refine a_putI (j' := 9) dX11_token_210 flX11_153 rfl rfl (L209 L) (by decide) rfl ⟨by omega, by omega⟩ ?_
        have h1 : ¬ loF (M0 210) q ≠ 0 := by omega
        have h2 : diF (M0 210) q ≠ 0 := by omega
        have hn9 : ¬ M0 209 6 ≤ q := by omega
        obtain ⟨M2, e2⟩ : ∃ M2, M2 = sm M1 209 8 3 := ⟨_, rfl⟩
        rw [← e2]
        have n7 : M2 209 7 = q := by rw [e2, sm_k, us_n (by decide)]; exact m7
        have n6 : M2 209 6 = M0 209 6 := by rw [e2, sm_k, us_n (by decide)]; exact m6
        have n10 : M2 209 10 = q := by rw [e2, sm_k, us_n (by decide)]; exact m10
        have nr : M2 210 = M0 210 := by rw [e2, sm_n (by decide)]; exact mr 210 (by decide)
        refine a_mem (M' := dgM M2 q 0) (sm_id (M := sm M2 209 9 0) (k := 209) (i := 7) (v := q) (by rw [sm_k, us_n (by decide)]; exact n7)).symm ?_
        refine AW.mono2 (lpX11_token3 hP (by rw [n6]; exact hN) (M0 209 6 - q).toNat q 0 (by omega) (by rw [n6]; omega) (by omega)) ?_
        rintro r lay P' M' ⟨z1, z2, z3, z4⟩
        refine ⟨z1, z2, z3, ?_⟩
        rw [n6, nr] at z4
        have eb := rn_all (diF (M0 210)) (n := M0 209 6) (p := q) (by omega)
        have hz := nv_q (f := M0 210) (rnE (diF (M0 210)) (M0 209 6) q - q).toNat q 0 0 (fun i i1 i2 => diF_1.mp (eb.2.2.1 i i1 (by omega))) (by unfold nvq; omega)
        have df := dgM_f M2 (rnE (diF (M0 210)) (M0 209 6) q) (nvR (M0 210) (rnE (diF (M0 210)) (M0 209 6) q - q).toNat q 0)
        rw [← z4] at df
        have d8 : M' 209 8 = 3 := by rw [z4]; unfold dgM; rw [sm_k, us_n (by decide), sm_k, us_n (by decide), e2, sm_s]
        have d10 : M' 209 10 = q := by rw [z4]; unfold dgM; rw [sm_k, us_n (by decide), sm_k, us_n (by decide)]; exact n10
        have fr : Fk M0 M' := by rw [z4]; unfold dgM; rw [e2]; exact ((mf.sm (by omega) _).sm (by omega) _).sm (by omega) _
        refine ⟨?_, d10, ?_, fr⟩
        · rw [df.1]; unfold tkE; rw [if_neg (by omega), if_neg h1, if_pos h2]
        · rw [d8, df.2.1]
          unfold tkS tkV
          rw [if_neg hn9, if_neg h1, if_pos h2, if_neg hn9, if_neg h1, if_pos h2]
          exact Or.inr (Or.inr (Or.inr (Or.inr (Or.inl ⟨rfl, rfl, hz⟩))))
    · have ei : M1 = sm M1 209 7 q := (sm_id m7).symm
      refine a_mem (M' := sm M1 209 7 q) ei ?_
      refine lpX11_token2 hP (by rw [m6]; exact hN) (M0 209 6 - q).toNat q (by omega) (by rw [m6]; omega) ?_
      rw [m6, mr 210 (by decide)]
      obtain ⟨e, ee⟩ : ∃ e, e = rnE (loF (M0 210)) (M0 209 6) q := ⟨_, rfl⟩
      rw [← ee]
      have eb := rn_all (loF (M0 210)) (n := M0 209 6) (p := q) (by omega)
      rw [← ee] at eb
      have ex := tkW_s (f := M0 210) (n := M0 209 6) (q := q) (e := e) (by omega) (by omega) ee
      have eq1 : q + 1 ≤ e := by
        have z := rn_all (loF (M0 210)) (n := M0 209 6) (p := q + 1) (by omega)
        rw [ee, rn_step (by omega) (by omega)]; exact z.1
      refine AW.mono2 (tlX11_tokW (M := sm M1 209 7 e) (q := q) (e := e) (s := tkS (M0 210) (M0 209 6) q) (v := tkV (M0 210) (M0 209 6) q) hP (fun i i0 i1 => by rw [sm_n (by decide)]; exact hW1 i i0 i1) (by rw [sm_s]) (by rw [sm_k, us_n (by decide)]; exact m10.symm) (by omega) (fun i i0 i1 => by rw [sm_n (by decide), mr 210 (by decide)]; exact loF_1.mp (eb.2.2.1 i i0 i1)) (by rw [sm_n (by decide), mr 210 (by decide)]; omega)) ?_
      rintro r lay P' M' ⟨z1, z2, z3, z4, z5, z6, z7⟩
      exact ⟨z1, z2, z3, by rw [z4, ex.1], z5, z6, (mf.sm (by omega) _).tr z7⟩
  · refine a_aloadn dX11_token_71 rfl ?_
    refine a_iconst dX11_token_72 ?_
    refine a_putI (j' := 8) dX11_token_73 flX11_142 rfl rfl (L209 L) (by decide) rfl ⟨by omega, by omega⟩ ?_
    refine a_goto (tgt := 281) dX11_token_76 (by decide) ?_
    exact a_return dX11_token_281 rfl rfl rfl (by
      first
      | (have hq9 : q = M0 209 6 := by omega
         refine zrel_V ⟨?_, ?_, ?_, mf.sm (by omega) _⟩
         · rw [sm_k, us_n (by decide), m7]; unfold tkE; rw [if_pos (by omega)]
         · rw [sm_k, us_n (by decide), m10]
         · unfold tkS; rw [if_pos (by omega), sm_s]; exact Or.inl ⟨rfl, rfl⟩)
      | (obtain ⟨s1, s2, s4, s3⟩ := hM2
         have h1 : ¬ loF (M0 210) q ≠ 0 := by omega
         have h2 : ¬ diF (M0 210) q ≠ 0 := by omega
         have hn9 : ¬ M0 209 6 ≤ q := by omega
         refine zrel_V ⟨?_, ?_, ?_, mf.tr s3⟩
         · rw [s1]; unfold tkE; rw [if_neg (by omega), if_neg h1, if_neg h2]
         · rw [s4]; exact m10
         · unfold tkS tkV; rw [if_neg hn9, if_neg h1, if_neg h2, if_neg hn9, if_neg h1, if_neg h2]; exact s2))

set_option maxRecDepth 100000 in
set_option maxHeartbeats 4000000 in
theorem m_X11_token {G : zG} {l : Launch} {L : Nat} {P : zP} {M : zM} (hP : PFok P) (hN : 0 ≤ M 209 6 ∧ M 209 6 ≤ 700) (hW : ∀ i : Int, 0 ≤ i → i < 107 → M 211 i = wrd i) (hp : 0 ≤ M 209 7 ∧ M 209 7 ≤ M 209 6) : AM G l yX11_token mdX11_token [aR 209] (LAY L) P M (zrel none (LAY L) P (TkR (M 210) (M 209 6) (M 209 7) M)) := by
  refine AM.go [some (aR 209)] rfl (Nat.le_of_ble_eq_true rfl) ?_ (by decide) rfl rfl
  refine a_mem (M' := sm M 209 7 (M 209 7)) (sm_id rfl).symm ?_
  exact lpX11_token1 hP hN (M 209 6 - M 209 7).toNat (M 209 7) (by omega) (by omega) (tk52 hP hN hW hp rfl)
