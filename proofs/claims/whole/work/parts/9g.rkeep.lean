section ZRKT
/-- a row's second half copied to its first, as far as i -/
def cpP (q : Nat) (nn i : Int) (M : zM) : zM := fun k j => if k = q ∧ 0 ≤ j ∧ j < i then M q (nn + j) else M k j
theorem cpP_n {q k : Nat} {nn i : Int} {M : zM} (h : k ≠ q) : cpP q nn i M k = M k := by
  funext j; unfold cpP; rw [if_neg (fun z => h z.1)]
theorem cpP_k {q : Nat} {nn i j : Int} {M : zM} : cpP q nn i M q j = if 0 ≤ j ∧ j < i then M q (nn + j) else M q j := by
  unfold cpP
  by_cases c : 0 ≤ j ∧ j < i
  · rw [if_pos ⟨rfl, c⟩, if_pos c]
  · rw [if_neg (fun z => c z.2), if_neg c]
theorem cpP_0 {q : Nat} {nn : Int} {M : zM} : cpP q nn 0 M = M := by
  funext k j
  unfold cpP
  rw [if_neg (by omega)]
theorem cpP_s {q : Nat} {nn i : Int} {M : zM} (h0 : 0 ≤ i) (hi : i < nn) : sm (cpP q nn i M) q i (cpP q nn i M q (nn + i)) = cpP q nn (i + 1) M := by
  have e1 : cpP q nn i M q (nn + i) = M q (nn + i) := by rw [cpP_k, if_neg (by omega)]
  rw [e1]
  funext k j
  by_cases e : k = q
  · subst e
    rw [sm_k]
    by_cases ej : j = i
    · subst ej; rw [us_s, cpP_k, if_pos ⟨h0, by omega⟩]
    · rw [us_n ej, cpP_k, cpP_k]
      by_cases c : 0 ≤ j ∧ j < i
      · rw [if_pos c, if_pos (by omega)]
      · rw [if_neg c, if_neg (by omega)]
  · rw [sm_n e, cpP_n e, cpP_n e]
/-- a text that tells nothing, as far as a and b -/
def plV (j : Int) : Int := if j = 0 then 3 else if j = 1 then 2 else 0
def plP (a b : Int) (M : zM) : zM := fun k j => if k = 212 ∧ 0 ≤ j ∧ j < a then 0 else if k = 213 ∧ 4 ≤ j ∧ j < 4 + a then plV (j - 4) else if k = 223 ∧ 3 ≤ j ∧ j < b then 0 else M k j
theorem plP_n {k : Nat} {a b : Int} {M : zM} (h : k ≠ 212) (h2 : k ≠ 213) (h3 : k ≠ 223) : plP a b M k = M k := by
  funext j; unfold plP; rw [if_neg (fun z => h z.1), if_neg (fun z => h2 z.1), if_neg (fun z => h3 z.1)]
theorem plP_12 {a b j : Int} {M : zM} : plP a b M 212 j = if 0 ≤ j ∧ j < a then 0 else M 212 j := by
  unfold plP
  by_cases c : 0 ≤ j ∧ j < a
  · rw [if_pos ⟨rfl, c⟩, if_pos c]
  · rw [if_neg (fun z => c z.2), if_neg (by omega), if_neg (by omega), if_neg c]
theorem plP_13 {a b j : Int} {M : zM} : plP a b M 213 j = if 4 ≤ j ∧ j < 4 + a then plV (j - 4) else M 213 j := by
  unfold plP
  rw [if_neg (by omega)]
  by_cases c : 4 ≤ j ∧ j < 4 + a
  · rw [if_pos ⟨rfl, c⟩, if_pos c]
  · rw [if_neg (fun z => c z.2), if_neg (by omega), if_neg c]
theorem plP_23 {a b j : Int} {M : zM} : plP a b M 223 j = if 3 ≤ j ∧ j < b then 0 else M 223 j := by
  unfold plP
  rw [if_neg (by omega), if_neg (by omega)]
  by_cases c : 3 ≤ j ∧ j < b
  · rw [if_pos ⟨rfl, c⟩, if_pos c]
  · rw [if_neg (fun z => c z.2), if_neg c]
theorem plP_0 {M : zM} : plP 0 3 M = M := by
  funext k j
  unfold plP
  rw [if_neg (by omega), if_neg (by omega), if_neg (by omega)]
theorem plP_s {i v : Int} {M : zM} (h0 : 0 ≤ i) (hv : v = plV i) : sm (sm (plP i 3 M) 212 i 0) 213 (4 + i) v = plP (i + 1) 3 M := by
  funext k j
  by_cases e : k = 213
  · subst e
    rw [sm_k, sm_n (by decide), plP_13]
    by_cases ej : j = 4 + i
    · subst ej; rw [us_s, if_pos (by omega), hv, show 4 + i - 4 = i by omega]
    · rw [us_n ej, plP_13]
      by_cases c : 4 ≤ j ∧ j < 4 + i
      · rw [if_pos c, if_pos (by omega)]
      · rw [if_neg c, if_neg (by omega)]
  rw [sm_n e]
  by_cases e2 : k = 212
  · subst e2
    rw [sm_k, plP_12]
    by_cases ej : j = i
    · subst ej; rw [us_s, if_pos (by omega)]
    · rw [us_n ej, plP_12]
      by_cases c : 0 ≤ j ∧ j < i
      · rw [if_pos c, if_pos (by omega)]
      · rw [if_neg c, if_neg (by omega)]
  rw [sm_n e2]
  by_cases e3 : k = 223
  · subst e3
    rw [plP_23, plP_23]
  · rw [plP_n e2 e e3, plP_n e2 e e3]
theorem plP_t {a i : Int} {M : zM} (h0 : 3 ≤ i) : sm (plP a i M) 223 i 0 = plP a (i + 1) M := by
  funext k j
  by_cases e3 : k = 223
  · subst e3
    rw [sm_k, plP_23]
    by_cases ej : j = i
    · subst ej; rw [us_s, if_pos (by omega)]
    · rw [us_n ej, plP_23]
      by_cases c : 3 ≤ j ∧ j < i
      · rw [if_pos c, if_pos (by omega)]
      · rw [if_neg c, if_neg (by omega)]
  rw [sm_n e3]
  by_cases e : k = 213
  · subst e; rw [plP_13, plP_13]
  by_cases e2 : k = 212
  · subst e2; rw [plP_12, plP_12]
  · rw [plP_n e2 e e3, plP_n e2 e e3]
def plM (M : zM) : zM := plP 4 6 (sm (sm (sm (sm (sm M 209 16 0) 209 17 0) 209 18 0) 209 19 0) 209 42 0)
/-- what begin does behind atFirst; keepText's copies -/
def bgM (M : zM) : zM := sm (sm (sm (sm (ptM (sm M 209 54 (M 213 3))) 209 61 0) 209 62 (-1)) 209 65 0) 209 67 0
def BgK (M0 M' : zM) : Prop := ∃ M1, AfR 0 M0 M1 ∧ M' = bgM M1
def ktA (M : zM) : zM := cpP 222 12 12 (cpP 221 12 12 (cpP 220 12 12 (cpP 219 10 10 (cpP 218 10 10 (cpP 217 10 10 (cpP 216 6 6 (cpP 215 6 6 (cpP 214 6 6 (cpP 213 4 4 (sm (sm (sm (sm M 209 12 (M 209 16)) 209 13 (M 209 17)) 209 14 (M 209 18)) 209 15 (M 209 19)))))))))))
def ktB (M : zM) : zM := cpP 228 64 64 (cpP 227 64 64 (cpP 226 64 64 (cpP 225 3 3 (cpP 224 3 3 M))))
def ktM (M : zM) : zM := ktB (cpP 223 3 3 (ktA M))
end ZRKT

set_option maxRecDepth 100000 in
set_option maxHeartbeats 4000000 in
theorem lpX11_copies {G : zG} {l : Launch} {L : Nat} {P : zP} {q N : Nat} {nn : Int} {M0 : zM} (hl : (LAY L)[q]? = some (.inl (0, N))) (hq : 2 ≤ q) (hN : nn + nn ≤ N ∧ N ≤ 1000) (hn0 : 0 ≤ nn) : ∀ (n : Nat) (i : Int) (M : zM) (g0 : 0 ≤ i) (g1 : i + n = nn) (hM : M = cpP q nn i M0), AW G l mdX11_copies (zdet none (LAY L) P (cpP q nn nn M0)) 2 [some (aR q), some (aI nn), some (aI i)] [] (LAY L) P M 0 0 := by
  intro n
  induction n with
  | zero =>
    intro i M g0 g1 hM
    refine a_iloadn dX11_copies_2 rfl ?_
    refine a_iloadn dX11_copies_3 rfl ?_
    refine a_icmp_ge (tgt := 21) dX11_copies_4 (by decide) ⟨by omega, by omega⟩ ⟨by omega, by omega⟩ (fun hb4 => ?_) (fun hb4 => ?_)
    · exact a_return dX11_copies_21 rfl rfl rfl (zdet_V (by rw [hM, show i = nn by omega]))
    · exfalso; omega
  | succ n ih =>
    intro i M g0 g1 hM
    refine a_iloadn dX11_copies_2 rfl ?_
    refine a_iloadn dX11_copies_3 rfl ?_
    refine a_icmp_ge (tgt := 21) dX11_copies_4 (by decide) ⟨by omega, by omega⟩ ⟨by omega, by omega⟩ (fun hb4 => ?_) (fun hb4 => ?_)
    · exfalso; omega
    · refine a_aloadn dX11_copies_7 rfl ?_
      refine a_iloadn dX11_copies_8 rfl ?_
      refine a_aloadn dX11_copies_9 rfl ?_
      refine a_iloadn dX11_copies_10 rfl ?_
      refine a_iloadn dX11_copies_11 rfl ?_
      refine a_iadd dX11_copies_12 ?_
      refine b_iald (N := N) dX11_copies_13 hl (by omega) (by omega) (by omega) (fun hr13 => ?_)
      refine a_iast (N := N) dX11_copies_14 hl hq (by omega) (by omega) (by omega) hr13 ?_
      refine c_iinc (ls' := [_, _, _]) dX11_copies_15 rfl (by decide) rfl rfl ?_
      refine a_goto (tgt := 2) dX11_copies_18 (by decide) ?_
      subst hM
      exact ih _ _ (by omega) (by omega) (cpP_s g0 (by omega))

set_option maxRecDepth 100000 in
set_option maxHeartbeats 4000000 in
theorem m_X11_copies {G : zG} {l : Launch} {L : Nat} {P : zP} {M : zM} {q N : Nat} {nn : Int} (hl : (LAY L)[q]? = some (.inl (0, N))) (hq : 2 ≤ q) (hN : nn + nn ≤ N ∧ N ≤ 1000) (hn0 : 0 ≤ nn) : AM G l yX11_copies mdX11_copies [aR q, aI nn] (LAY L) P M (zdet none (LAY L) P (cpP q nn nn M)) := by
  refine AM.go [some (aR q), some (aI nn), none] rfl (Nat.le_of_ble_eq_true rfl) ?_ (by decide) rfl rfl
  refine a_iconst dX11_copies_0 ?_
  refine c_istoren (ls' := [_, _, _]) dX11_copies_1 (by decide) rfl rfl ?_
  exact lpX11_copies hl hq hN hn0 nn.toNat 0 M (by omega) (by omega) cpP_0.symm

set_option maxRecDepth 100000 in
set_option maxHeartbeats 4000000 in
theorem lpX11_plain2 {G : zG} {l : Launch} {L : Nat} {P : zP} {M0 : zM} (hP : PFok P) : ∀ (n : Nat) (i : Int) (M : zM) (g0 : 3 ≤ i) (g1 : i + n = 6) (hM : M = plP 4 i M0), AW G l mdX11_plain (zdet none (LAY L) P (plP 4 6 M0)) 73 [some (aR 209), some (aI i)] [] (LAY L) P M 0 0 := by
  intro n
  induction n with
  | zero =>
    intro i M g0 g1 hM
    refine a_iloadn dX11_plain_73 rfl ?_
    refine a_bipush (w := 6) dX11_plain_74 (by decide) ?_
    refine a_icmp_ge (tgt := 92) dX11_plain_76 (by decide) ⟨by omega, by omega⟩ ⟨by omega, by omega⟩ (fun hb76 => ?_) (fun hb76 => ?_)
    · exact a_return dX11_plain_92 rfl rfl rfl (zdet_V (by rw [hM, show i = 6 by omega]))
    · exfalso; omega
  | succ n ih =>
    intro i M g0 g1 hM
    refine a_iloadn dX11_plain_73 rfl ?_
    refine a_bipush (w := 6) dX11_plain_74 (by decide) ?_
    refine a_icmp_ge (tgt := 92) dX11_plain_76 (by decide) ⟨by omega, by omega⟩ ⟨by omega, by omega⟩ (fun hb76 => ?_) (fun hb76 => ?_)
    · exfalso; omega
    · refine a_aloadn dX11_plain_79 rfl ?_
      refine a_getR (j' := 31) (y := 223) dX11_plain_80 flX11_54 rfl rfl (L209 L) (p209_31 hP) ?_
      refine a_iloadn dX11_plain_83 rfl ?_
      refine a_iconst dX11_plain_84 ?_
      refine a_zast (N := 6) dX11_plain_85 (L223 L) (by decide) (by decide) (by omega) (by omega) (by omega) ?_
      refine c_iinc (ls' := [_, _]) dX11_plain_86 rfl (by decide) rfl rfl ?_
      refine a_goto (tgt := 73) dX11_plain_89 (by decide) ?_
      subst hM
      exact ih _ _ (by omega) (by omega) (plP_t g0)

set_option maxRecDepth 100000 in
set_option maxHeartbeats 4000000 in
theorem lpX11_plain1 {G : zG} {l : Launch} {L : Nat} {P : zP} {M0 : zM} (hP : PFok P) : ∀ (n : Nat) (i : Int) (M : zM) (g0 : 0 ≤ i) (g1 : i + n = 4) (hM : M = plP i 3 M0), AW G l mdX11_plain (zdet none (LAY L) P (plP 4 6 M0)) 27 [some (aR 209), some (aI i)] [] (LAY L) P M 0 0 := by
  intro n
  induction n with
  | zero =>
    intro i M g0 g1 hM
    refine a_iloadn dX11_plain_27 rfl ?_
    refine a_iconst dX11_plain_28 ?_
    refine a_icmp_ge (tgt := 71) dX11_plain_29 (by decide) ⟨by omega, by omega⟩ ⟨by omega, by omega⟩ (fun hb29 => ?_) (fun hb29 => ?_)
    · refine a_iconst dX11_plain_71 ?_
      refine c_istoren (ls' := [_, _]) dX11_plain_72 (by decide) rfl rfl ?_
      exact lpX11_plain2 hP 3 3 _ (by omega) (by omega) (by rw [hM, show i = 4 by omega])
    · exfalso; omega
  | succ n ih =>
    intro i M g0 g1 hM
    refine a_iloadn dX11_plain_27 rfl ?_
    refine a_iconst dX11_plain_28 ?_
    refine a_icmp_ge (tgt := 71) dX11_plain_29 (by decide) ⟨by omega, by omega⟩ ⟨by omega, by omega⟩ (fun hb29 => ?_) (fun hb29 => ?_)
    · exfalso; omega
    · refine a_aloadn dX11_plain_32 rfl ?_
      refine a_getR (j' := 20) (y := 212) dX11_plain_33 flX11_20 rfl rfl (L209 L) (p209_20 hP) ?_
      refine a_iloadn dX11_plain_36 rfl ?_
      refine a_iconst dX11_plain_37 ?_
      refine a_zast (N := 4) dX11_plain_38 (L212 L) (by decide) (by decide) (by omega) (by omega) (by omega) ?_
      refine a_aloadn dX11_plain_39 rfl ?_
      refine a_getR (j' := 21) (y := 213) dX11_plain_40 flX11_24 rfl rfl (L209 L) (p209_21 hP) ?_
      refine a_iconst dX11_plain_43 ?_
      refine a_iloadn dX11_plain_44 rfl ?_
      refine a_iadd dX11_plain_45 ?_
      refine a_iloadn dX11_plain_46 rfl ?_
      refine a_if_ne (tgt := 54) dX11_plain_47 (by decide) ⟨by omega, by omega⟩ (fun hb47 => ?_) (fun hb47 => ?_)
      · refine a_iloadn dX11_plain_54 rfl ?_
        refine a_iconst dX11_plain_55 ?_
        refine a_icmp_ne (tgt := 63) dX11_plain_56 (by decide) ⟨by omega, by omega⟩ ⟨by omega, by omega⟩ (fun hb56 => ?_) (fun hb56 => ?_)
        · refine a_iconst dX11_plain_63 ?_
          refine a_iast (N := 8) dX11_plain_64 (L213 L) (by decide) (by decide) (by omega) (by omega) ⟨by omega, by omega⟩ ?_
          refine c_iinc (ls' := [_, _]) dX11_plain_65 rfl (by decide) rfl rfl ?_
          refine a_goto (tgt := 27) dX11_plain_68 (by decide) ?_
          subst hM
          exact ih _ _ (by omega) (by omega) (plP_s g0 (by unfold plV; repeat (first | rw [if_pos (by omega)] | rw [if_neg (by omega)])))
        · refine a_iconst dX11_plain_59 ?_
          refine a_goto (tgt := 64) dX11_plain_60 (by decide) ?_
          refine a_iast (N := 8) dX11_plain_64 (L213 L) (by decide) (by decide) (by omega) (by omega) ⟨by omega, by omega⟩ ?_
          refine c_iinc (ls' := [_, _]) dX11_plain_65 rfl (by decide) rfl rfl ?_
          refine a_goto (tgt := 27) dX11_plain_68 (by decide) ?_
          subst hM
          exact ih _ _ (by omega) (by omega) (plP_s g0 (by unfold plV; repeat (first | rw [if_pos (by omega)] | rw [if_neg (by omega)])))
      · refine a_iconst dX11_plain_50 ?_
        refine a_goto (tgt := 64) dX11_plain_51 (by decide) ?_
        refine a_iast (N := 8) dX11_plain_64 (L213 L) (by decide) (by decide) (by omega) (by omega) ⟨by omega, by omega⟩ ?_
        refine c_iinc (ls' := [_, _]) dX11_plain_65 rfl (by decide) rfl rfl ?_
        refine a_goto (tgt := 27) dX11_plain_68 (by decide) ?_
        subst hM
        exact ih _ _ (by omega) (by omega) (plP_s g0 (by unfold plV; repeat (first | rw [if_pos (by omega)] | rw [if_neg (by omega)])))

set_option maxRecDepth 100000 in
set_option maxHeartbeats 4000000 in
theorem m_X11_plain {G : zG} {l : Launch} {L : Nat} {P : zP} {M : zM}  (hP : PFok P) : AM G l yX11_plain mdX11_plain [aR 209] (LAY L) P M (zdet none (LAY L) P (plM M)) := by
  refine AM.go [some (aR 209), none] rfl (Nat.le_of_ble_eq_true rfl) ?_ (by decide) rfl rfl
  refine a_aloadn dX11_plain_0 rfl ?_
  refine a_iconst dX11_plain_1 ?_
  refine a_putI (j' := 16) dX11_plain_2 flX11_186 rfl rfl (L209 L) (by decide) rfl ⟨by omega, by omega⟩ ?_
  refine a_aloadn dX11_plain_5 rfl ?_
  refine a_iconst dX11_plain_6 ?_
  refine a_putI (j' := 17) dX11_plain_7 flX11_189 rfl rfl (L209 L) (by decide) rfl ⟨by omega, by omega⟩ ?_
  refine a_aloadn dX11_plain_10 rfl ?_
  refine a_iconst dX11_plain_11 ?_
  refine a_putI (j' := 18) dX11_plain_12 flX11_192 rfl rfl (L209 L) (by decide) rfl ⟨by omega, by omega⟩ ?_
  refine a_aloadn dX11_plain_15 rfl ?_
  refine a_iconst dX11_plain_16 ?_
  refine a_putI (j' := 19) dX11_plain_17 flX11_195 rfl rfl (L209 L) (by decide) rfl ⟨by omega, by omega⟩ ?_
  refine a_aloadn dX11_plain_20 rfl ?_
  refine a_iconst dX11_plain_21 ?_
  refine a_putI (j' := 42) dX11_plain_22 flX11_198 rfl rfl (L209 L) (by decide) rfl ⟨by omega, by omega⟩ ?_
  refine a_iconst dX11_plain_25 ?_
  refine c_istoren (ls' := [_, _]) dX11_plain_26 (by decide) rfl rfl ?_
  exact lpX11_plain1 hP 4 0 _ (by omega) (by omega) plP_0.symm

set_option maxRecDepth 100000 in
set_option maxHeartbeats 4000000 in
theorem m_X11_begin {G : zG} {l : Launch} {L : Nat} {P : zP} {M : zM}  (hP : PFok P) : AM G l yX11_begin mdX11_begin [aR 209] (LAY L) P M (zrel none (LAY L) P (BgK M)) := by
  refine AM.go [some (aR 209)] rfl (Nat.le_of_ble_eq_true rfl) ?_ (by decide) rfl rfl
  refine a_aloadn dX11_begin_0 rfl ?_
  refine a_iconst dX11_begin_1 ?_
  refine a_relVv (as := [_]) (q := 209) dX11_begin_2 mvX11_315 ⟨by decide, by decide⟩ (L209 L) rfl rfl rfl (Nat.le_of_ble_eq_true rfl) ⟨rfl, rfl⟩ ⟨by decide, by decide⟩ (m_X11_atFirst hP (Or.inl rfl)) (fun M1 hM1 => ?_)
  refine a_aloadn dX11_begin_5 rfl ?_
  refine a_aloadn dX11_begin_6 rfl ?_
  refine a_getR (j' := 21) (y := 213) dX11_begin_7 flX11_24 rfl rfl (L209 L) (p209_21 hP) ?_
  refine a_iconst dX11_begin_10 ?_
  refine b_iald (N := 8) dX11_begin_11 (L213 L) (by decide) (by omega) (by omega) (fun hr11 => ?_)
  refine a_i2l dX11_begin_12 hr11 ?_
  refine a_putL (j' := 54) dX11_begin_13 flX11_318 rfl rfl (L209 L) (by decide) rfl (by have := hr11; exact ⟨by omega, by omega⟩) ?_
  refine a_aloadn dX11_begin_16 rfl ?_
  refine a_callVv (as := []) (q := 209) dX11_begin_17 mvX11_322 ⟨by decide, by decide⟩ (L209 L) rfl rfl rfl (Nat.le_of_ble_eq_true rfl) ⟨rfl, rfl⟩ ⟨by decide, by decide⟩ (m_X11_plainTried hP) ?_
  refine a_aloadn dX11_begin_20 rfl ?_
  refine a_iconst dX11_begin_21 ?_
  refine a_putI (j' := 61) dX11_begin_22 flX11_325 rfl rfl (L209 L) (by decide) rfl ⟨by omega, by omega⟩ ?_
  refine a_aloadn dX11_begin_25 rfl ?_
  refine a_iconst dX11_begin_26 ?_
  refine a_putI (j' := 62) dX11_begin_27 flX11_103 rfl rfl (L209 L) (by decide) rfl ⟨by omega, by omega⟩ ?_
  refine a_aloadn dX11_begin_30 rfl ?_
  refine a_iconst dX11_begin_31 ?_
  refine a_putI (j' := 65) dX11_begin_32 flX11_328 rfl rfl (L209 L) (by decide) rfl ⟨by omega, by omega⟩ ?_
  refine a_aloadn dX11_begin_35 rfl ?_
  refine a_iconst dX11_begin_36 ?_
  refine a_putZ (j' := 67) dX11_begin_37 flX11_331 rfl rfl (L209 L) (by decide) rfl (by omega) ?_
  exact a_return dX11_begin_40 rfl rfl rfl (zrel_V ⟨M1, hM1, rfl⟩)

set_option maxRecDepth 100000 in
set_option maxHeartbeats 4000000 in
theorem tlX11_kt {G : zG} {l : Launch} {L : Nat} {P : zP} {M0 M : zM} (hP : PFok P) (hM : M = cpP 223 3 3 (ktA M0)) : AW G l mdX11_keepText (zrel none (LAY L) P (BgK (ktM M0))) 148 [some (aR 209), none] [] (LAY L) P M 0 0 := by
  refine a_aloadn dX11_keepText_148 rfl ?_
  refine a_getR (j' := 32) (y := 224) dX11_keepText_149 flX11_57 rfl rfl (L209 L) (p209_32 hP) ?_
  refine a_iconst dX11_keepText_152 ?_
  refine a_callSv (as := [_, _]) dX11_keepText_153 mvX11_213 ⟨by decide, by decide⟩ rfl rfl (Nat.le_of_ble_eq_true rfl) ⟨rfl, rfl⟩ ⟨by decide, by decide⟩ (m_X11_copies (L224 L) (by decide) ⟨by omega, by omega⟩ (by omega)) ?_
  refine a_aloadn dX11_keepText_156 rfl ?_
  refine a_getR (j' := 33) (y := 225) dX11_keepText_157 flX11_60 rfl rfl (L209 L) (p209_33 hP) ?_
  refine a_iconst dX11_keepText_160 ?_
  refine a_callSv (as := [_, _]) dX11_keepText_161 mvX11_213 ⟨by decide, by decide⟩ rfl rfl (Nat.le_of_ble_eq_true rfl) ⟨rfl, rfl⟩ ⟨by decide, by decide⟩ (m_X11_copies (L225 L) (by decide) ⟨by omega, by omega⟩ (by omega)) ?_
  refine a_aloadn dX11_keepText_164 rfl ?_
  refine a_getR (j' := 34) (y := 226) dX11_keepText_165 flX11_63 rfl rfl (L209 L) (p209_34 hP) ?_
  refine a_bipush (w := 64) dX11_keepText_168 (by decide) ?_
  refine a_callSv (as := [_, _]) dX11_keepText_170 mvX11_213 ⟨by decide, by decide⟩ rfl rfl (Nat.le_of_ble_eq_true rfl) ⟨rfl, rfl⟩ ⟨by decide, by decide⟩ (m_X11_copies (L226 L) (by decide) ⟨by omega, by omega⟩ (by omega)) ?_
  refine a_aloadn dX11_keepText_173 rfl ?_
  refine a_getR (j' := 35) (y := 227) dX11_keepText_174 flX11_66 rfl rfl (L209 L) (p209_35 hP) ?_
  refine a_bipush (w := 64) dX11_keepText_177 (by decide) ?_
  refine a_callSv (as := [_, _]) dX11_keepText_179 mvX11_213 ⟨by decide, by decide⟩ rfl rfl (Nat.le_of_ble_eq_true rfl) ⟨rfl, rfl⟩ ⟨by decide, by decide⟩ (m_X11_copies (L227 L) (by decide) ⟨by omega, by omega⟩ (by omega)) ?_
  refine a_aloadn dX11_keepText_182 rfl ?_
  refine a_getR (j' := 36) (y := 228) dX11_keepText_183 flX11_69 rfl rfl (L209 L) (p209_36 hP) ?_
  refine a_bipush (w := 64) dX11_keepText_186 (by decide) ?_
  refine a_callSv (as := [_, _]) dX11_keepText_188 mvX11_213 ⟨by decide, by decide⟩ rfl rfl (Nat.le_of_ble_eq_true rfl) ⟨rfl, rfl⟩ ⟨by decide, by decide⟩ (m_X11_copies (L228 L) (by decide) ⟨by omega, by omega⟩ (by omega)) ?_
  refine a_aloadn dX11_keepText_191 rfl ?_
  refine a_relVv (as := []) (q := 209) dX11_keepText_192 mvX11_217 ⟨by decide, by decide⟩ (L209 L) rfl rfl rfl (Nat.le_of_ble_eq_true rfl) ⟨rfl, rfl⟩ ⟨by decide, by decide⟩ (m_X11_begin hP) (fun M1 hM1 => ?_)
  exact a_return dX11_keepText_195 rfl rfl rfl (zrel_V (by rw [hM] at hM1; exact hM1))

set_option maxRecDepth 100000 in
set_option maxHeartbeats 4000000 in
theorem lpX11_kt {G : zG} {l : Launch} {L : Nat} {P : zP} {M0 : zM} (hP : PFok P) : ∀ (n : Nat) (i : Int) (M : zM) (g0 : 0 ≤ i) (g1 : i + n = 3) (hM : M = cpP 223 3 i (ktA M0)), AW G l mdX11_keepText (zrel none (LAY L) P (BgK (ktM M0))) 123 [some (aR 209), some (aI i)] [] (LAY L) P M 0 0 := by
  intro n
  induction n with
  | zero =>
    intro i M g0 g1 hM
    refine a_iloadn dX11_keepText_123 rfl ?_
    refine a_iconst dX11_keepText_124 ?_
    refine a_icmp_ge (tgt := 148) dX11_keepText_125 (by decide) ⟨by omega, by omega⟩ ⟨by omega, by omega⟩ (fun hb125 => ?_) (fun hb125 => ?_)
    · refine a_forget [1] (ls' := [_, none]) rfl ?_
      exact tlX11_kt hP (by rw [hM, show i = 3 by omega])
    · exfalso; omega
  | succ n ih =>
    intro i M g0 g1 hM
    refine a_iloadn dX11_keepText_123 rfl ?_
    refine a_iconst dX11_keepText_124 ?_
    refine a_icmp_ge (tgt := 148) dX11_keepText_125 (by decide) ⟨by omega, by omega⟩ ⟨by omega, by omega⟩ (fun hb125 => ?_) (fun hb125 => ?_)
    · exfalso; omega
    · refine a_aloadn dX11_keepText_128 rfl ?_
      refine a_getR (j' := 31) (y := 223) dX11_keepText_129 flX11_54 rfl rfl (L209 L) (p209_31 hP) ?_
      refine a_iloadn dX11_keepText_132 rfl ?_
      refine a_aloadn dX11_keepText_133 rfl ?_
      refine a_getR (j' := 31) (y := 223) dX11_keepText_134 flX11_54 rfl rfl (L209 L) (p209_31 hP) ?_
      refine a_iconst dX11_keepText_137 ?_
      refine a_iloadn dX11_keepText_138 rfl ?_
      refine a_iadd dX11_keepText_139 ?_
      refine b_zald (N := 6) dX11_keepText_140 (L223 L) (by decide) (by omega) (by omega) (fun hr140 => ?_)
      refine a_zast (N := 6) dX11_keepText_141 (L223 L) (by decide) (by decide) (by omega) (by omega) (by omega) ?_
      refine c_iinc (ls' := [_, _]) dX11_keepText_142 rfl (by decide) rfl rfl ?_
      refine a_goto (tgt := 123) dX11_keepText_145 (by decide) ?_
      subst hM
      exact ih _ _ (by omega) (by omega) (cpP_s g0 (by omega))

set_option maxRecDepth 100000 in
set_option maxHeartbeats 4000000 in
theorem m_X11_keepText {G : zG} {l : Launch} {L : Nat} {P : zP} {M : zM}  (hP : PFok P) : AM G l yX11_keepText mdX11_keepText [aR 209] (LAY L) P M (zrel none (LAY L) P (BgK (ktM M))) := by
  refine AM.go [some (aR 209), none] rfl (Nat.le_of_ble_eq_true rfl) ?_ (by decide) rfl rfl
  refine a_aloadn dX11_keepText_0 rfl ?_
  refine a_aloadn dX11_keepText_1 rfl ?_
  refine b_getI (j' := 16) dX11_keepText_2 flX11_186 rfl rfl (L209 L) (fun hr2 => ?_)
  refine a_putI (j' := 12) dX11_keepText_5 flX11_201 rfl rfl (L209 L) (by decide) rfl hr2 ?_
  refine a_aloadn dX11_keepText_8 rfl ?_
  refine a_aloadn dX11_keepText_9 rfl ?_
  refine b_getI (j' := 17) dX11_keepText_10 flX11_189 rfl rfl (L209 L) (fun hr10 => ?_)
  refine a_putI (j' := 13) dX11_keepText_13 flX11_204 rfl rfl (L209 L) (by decide) rfl hr10 ?_
  refine a_aloadn dX11_keepText_16 rfl ?_
  refine a_aloadn dX11_keepText_17 rfl ?_
  refine b_getI (j' := 18) dX11_keepText_18 flX11_192 rfl rfl (L209 L) (fun hr18 => ?_)
  refine a_putI (j' := 14) dX11_keepText_21 flX11_207 rfl rfl (L209 L) (by decide) rfl hr18 ?_
  refine a_aloadn dX11_keepText_24 rfl ?_
  refine a_aloadn dX11_keepText_25 rfl ?_
  refine b_getI (j' := 19) dX11_keepText_26 flX11_195 rfl rfl (L209 L) (fun hr26 => ?_)
  refine a_putI (j' := 15) dX11_keepText_29 flX11_210 rfl rfl (L209 L) (by decide) rfl hr26 ?_
  refine a_aloadn dX11_keepText_32 rfl ?_
  refine a_getR (j' := 21) (y := 213) dX11_keepText_33 flX11_24 rfl rfl (L209 L) (p209_21 hP) ?_
  refine a_iconst dX11_keepText_36 ?_
  refine a_callSv (as := [_, _]) dX11_keepText_37 mvX11_213 ⟨by decide, by decide⟩ rfl rfl (Nat.le_of_ble_eq_true rfl) ⟨rfl, rfl⟩ ⟨by decide, by decide⟩ (m_X11_copies (L213 L) (by decide) ⟨by omega, by omega⟩ (by omega)) ?_
  refine a_aloadn dX11_keepText_40 rfl ?_
  refine a_getR (j' := 22) (y := 214) dX11_keepText_41 flX11_27 rfl rfl (L209 L) (p209_22 hP) ?_
  refine a_bipush (w := 6) dX11_keepText_44 (by decide) ?_
  refine a_callSv (as := [_, _]) dX11_keepText_46 mvX11_213 ⟨by decide, by decide⟩ rfl rfl (Nat.le_of_ble_eq_true rfl) ⟨rfl, rfl⟩ ⟨by decide, by decide⟩ (m_X11_copies (L214 L) (by decide) ⟨by omega, by omega⟩ (by omega)) ?_
  refine a_aloadn dX11_keepText_49 rfl ?_
  refine a_getR (j' := 23) (y := 215) dX11_keepText_50 flX11_30 rfl rfl (L209 L) (p209_23 hP) ?_
  refine a_bipush (w := 6) dX11_keepText_53 (by decide) ?_
  refine a_callSv (as := [_, _]) dX11_keepText_55 mvX11_213 ⟨by decide, by decide⟩ rfl rfl (Nat.le_of_ble_eq_true rfl) ⟨rfl, rfl⟩ ⟨by decide, by decide⟩ (m_X11_copies (L215 L) (by decide) ⟨by omega, by omega⟩ (by omega)) ?_
  refine a_aloadn dX11_keepText_58 rfl ?_
  refine a_getR (j' := 24) (y := 216) dX11_keepText_59 flX11_33 rfl rfl (L209 L) (p209_24 hP) ?_
  refine a_bipush (w := 6) dX11_keepText_62 (by decide) ?_
  refine a_callSv (as := [_, _]) dX11_keepText_64 mvX11_213 ⟨by decide, by decide⟩ rfl rfl (Nat.le_of_ble_eq_true rfl) ⟨rfl, rfl⟩ ⟨by decide, by decide⟩ (m_X11_copies (L216 L) (by decide) ⟨by omega, by omega⟩ (by omega)) ?_
  refine a_aloadn dX11_keepText_67 rfl ?_
  refine a_getR (j' := 25) (y := 217) dX11_keepText_68 flX11_36 rfl rfl (L209 L) (p209_25 hP) ?_
  refine a_bipush (w := 10) dX11_keepText_71 (by decide) ?_
  refine a_callSv (as := [_, _]) dX11_keepText_73 mvX11_213 ⟨by decide, by decide⟩ rfl rfl (Nat.le_of_ble_eq_true rfl) ⟨rfl, rfl⟩ ⟨by decide, by decide⟩ (m_X11_copies (L217 L) (by decide) ⟨by omega, by omega⟩ (by omega)) ?_
  refine a_aloadn dX11_keepText_76 rfl ?_
  refine a_getR (j' := 26) (y := 218) dX11_keepText_77 flX11_39 rfl rfl (L209 L) (p209_26 hP) ?_
  refine a_bipush (w := 10) dX11_keepText_80 (by decide) ?_
  refine a_callSv (as := [_, _]) dX11_keepText_82 mvX11_213 ⟨by decide, by decide⟩ rfl rfl (Nat.le_of_ble_eq_true rfl) ⟨rfl, rfl⟩ ⟨by decide, by decide⟩ (m_X11_copies (L218 L) (by decide) ⟨by omega, by omega⟩ (by omega)) ?_
  refine a_aloadn dX11_keepText_85 rfl ?_
  refine a_getR (j' := 27) (y := 219) dX11_keepText_86 flX11_42 rfl rfl (L209 L) (p209_27 hP) ?_
  refine a_bipush (w := 10) dX11_keepText_89 (by decide) ?_
  refine a_callSv (as := [_, _]) dX11_keepText_91 mvX11_213 ⟨by decide, by decide⟩ rfl rfl (Nat.le_of_ble_eq_true rfl) ⟨rfl, rfl⟩ ⟨by decide, by decide⟩ (m_X11_copies (L219 L) (by decide) ⟨by omega, by omega⟩ (by omega)) ?_
  refine a_aloadn dX11_keepText_94 rfl ?_
  refine a_getR (j' := 28) (y := 220) dX11_keepText_95 flX11_45 rfl rfl (L209 L) (p209_28 hP) ?_
  refine a_bipush (w := 12) dX11_keepText_98 (by decide) ?_
  refine a_callSv (as := [_, _]) dX11_keepText_100 mvX11_213 ⟨by decide, by decide⟩ rfl rfl (Nat.le_of_ble_eq_true rfl) ⟨rfl, rfl⟩ ⟨by decide, by decide⟩ (m_X11_copies (L220 L) (by decide) ⟨by omega, by omega⟩ (by omega)) ?_
  refine a_aloadn dX11_keepText_103 rfl ?_
  refine a_getR (j' := 29) (y := 221) dX11_keepText_104 flX11_48 rfl rfl (L209 L) (p209_29 hP) ?_
  refine a_bipush (w := 12) dX11_keepText_107 (by decide) ?_
  refine a_callSv (as := [_, _]) dX11_keepText_109 mvX11_213 ⟨by decide, by decide⟩ rfl rfl (Nat.le_of_ble_eq_true rfl) ⟨rfl, rfl⟩ ⟨by decide, by decide⟩ (m_X11_copies (L221 L) (by decide) ⟨by omega, by omega⟩ (by omega)) ?_
  refine a_aloadn dX11_keepText_112 rfl ?_
  refine a_getR (j' := 30) (y := 222) dX11_keepText_113 flX11_51 rfl rfl (L209 L) (p209_30 hP) ?_
  refine a_bipush (w := 12) dX11_keepText_116 (by decide) ?_
  refine a_callSv (as := [_, _]) dX11_keepText_118 mvX11_213 ⟨by decide, by decide⟩ rfl rfl (Nat.le_of_ble_eq_true rfl) ⟨rfl, rfl⟩ ⟨by decide, by decide⟩ (m_X11_copies (L222 L) (by decide) ⟨by omega, by omega⟩ (by omega)) ?_
  refine a_iconst dX11_keepText_121 ?_
  refine c_istoren (ls' := [_, _]) dX11_keepText_122 (by decide) rfl rfl ?_
  refine lpX11_kt hP 3 0 _ (by omega) (by omega) ?_
  rw [cpP_0]
  unfold ktA
  simp (disch := decide) only [sm_n, sm_k, us_s, us_n]
