section ZGR
set_option maxRecDepth 100000 in
set_option maxHeartbeats 4000000 in
theorem n_m_X11_plainTried {G : zG} {l : Launch} {lay : List zKd} {P : zP} {M : zM}  (hY : ∀ k, 209 ≤ k → k < 243 → lay[k]? = (LAY 0)[k]?) (hP : PFok P) : AM G l yX11_plainTried mdX11_plainTried [aR 209] lay P M (zdet none lay P (ptM M)) := by
  refine AM.go [some (aR 209)] rfl (Nat.le_of_ble_eq_true rfl) ?_ (by decide) rfl rfl
  refine a_aloadn dX11_plainTried_0 rfl ?_
  refine a_iconst dX11_plainTried_1 ?_
  refine a_putZ (j' := 55) dX11_plainTried_2 flX11_334 rfl rfl ((hY 209 (by decide) (by decide)).trans (L209 0)) (by decide) rfl (by omega) ?_
  refine a_aloadn dX11_plainTried_5 rfl ?_
  refine a_iconst dX11_plainTried_6 ?_
  refine a_putZ (j' := 56) dX11_plainTried_7 flX11_337 rfl rfl ((hY 209 (by decide) (by decide)).trans (L209 0)) (by decide) rfl (by omega) ?_
  refine a_aloadn dX11_plainTried_10 rfl ?_
  refine a_iconst dX11_plainTried_11 ?_
  refine a_putZ (j' := 57) dX11_plainTried_12 flX11_340 rfl rfl ((hY 209 (by decide) (by decide)).trans (L209 0)) (by decide) rfl (by omega) ?_
  refine a_aloadn dX11_plainTried_15 rfl ?_
  refine a_iconst dX11_plainTried_16 ?_
  refine a_putZ (j' := 58) dX11_plainTried_17 flX11_343 rfl rfl ((hY 209 (by decide) (by decide)).trans (L209 0)) (by decide) rfl (by omega) ?_
  refine a_aloadn dX11_plainTried_20 rfl ?_
  refine a_iconst dX11_plainTried_21 ?_
  refine a_putI (j' := 59) dX11_plainTried_22 flX11_346 rfl rfl ((hY 209 (by decide) (by decide)).trans (L209 0)) (by decide) rfl ⟨by omega, by omega⟩ ?_
  refine a_aloadn dX11_plainTried_25 rfl ?_
  refine a_aloadn dX11_plainTried_26 rfl ?_
  refine a_getR (j' := 21) (y := 213) dX11_plainTried_27 flX11_24 rfl rfl ((hY 209 (by decide) (by decide)).trans (L209 0)) (p209_21 hP) ?_
  refine a_iconst dX11_plainTried_30 ?_
  refine b_iald (N := 8) dX11_plainTried_31 ((hY 213 (by decide) (by decide)).trans (L213 0)) (by decide) (by omega) (by omega) (fun hr31 => ?_)
  have e31 : sm (sm (sm (sm (sm M 209 55 0) 209 56 0) 209 57 0) 209 58 0) 209 59 (-1) 213 0 = M 213 0 := by rw [sm_n (by decide), sm_n (by decide), sm_n (by decide), sm_n (by decide), sm_n (by decide)]
  rw [e31] at hr31
  rw [e31]
  refine a_putI (j' := 60) dX11_plainTried_32 flX11_349 rfl rfl ((hY 209 (by decide) (by decide)).trans (L209 0)) (by decide) rfl hr31 ?_
  exact a_return dX11_plainTried_35 rfl rfl rfl (zdet_V rfl)

set_option maxRecDepth 100000 in
set_option maxHeartbeats 4000000 in
theorem n_lpX11_atFirst2 {G : zG} {l : Launch} {lay : List zKd} {P : zP} {M0 : zM} {b : Int} (hY : ∀ k, 209 ≤ k → k < 243 → lay[k]? = (LAY 0)[k]?) (hP : PFok P) (hb : b = 0 ∨ b = 1) : ∀ (n : Nat) (i : Int) (M : zM) (g0 : 0 ≤ i) (g1 : i + n = 36) (hf : (∀ (k : Nat) (i : Int), ¬ ((k = 233 ∨ k = 234 ∨ k = 235) ∧ 6 * b ≤ i ∧ i < 6 * b + 6) → ¬ ((k = 236 ∨ k = 237) ∧ 36 * b ≤ i ∧ i < 36 * b + 36) → ¬ (k = 238 ∧ i = b) → M k i = M0 k i)) (h6 : (∀ j : Int, 0 ≤ j → j < 6 → M 233 (6 * b + j) = M0 215 j ∧ M 234 (6 * b + j) = M0 216 j ∧ M 235 (6 * b + j) = 0)) (hj : (∀ j : Int, 0 ≤ j → j < i → M 236 (36 * b + j) = 0 ∧ M 237 (36 * b + j) = 0)), AW G l mdX11_atFirst (zrel none lay P (AfR b M0)) 62 [some (aR 209), some (aI b), some (aI i)] [] lay P M 0 0 := by
  intro n
  induction n with
  | zero =>
    intro i M g0 g1 hf h6 hj
    refine a_iloadn dX11_atFirst_62 rfl ?_
    refine a_bipush (w := 36) dX11_atFirst_63 (by decide) ?_
    refine a_icmp_ge (tgt := 98) dX11_atFirst_65 (by decide) ⟨by omega, by omega⟩ ⟨by omega, by omega⟩ (fun hb65 => ?_) (fun hb65 => ?_)
    · refine a_aloadn dX11_atFirst_98 rfl ?_
      refine a_getR (j' := 53) (y := 238) dX11_atFirst_99 flX11_100 rfl rfl ((hY 209 (by decide) (by decide)).trans (L209 0)) (p209_53 hP) ?_
      refine a_iloadn dX11_atFirst_102 rfl ?_
      refine a_iconst dX11_atFirst_103 ?_
      refine a_iast (N := 2) dX11_atFirst_104 ((hY 238 (by decide) (by decide)).trans (L238 0)) (by decide) (by decide) (by omega) (by omega) ⟨by omega, by omega⟩ ?_
      have hr : AfR b M0 (sm M 238 b 0) := by
        refine ⟨fun j j0 j1 => ?_, fun j j0 j1 => ?_, by rw [sm_s], fun k j h1 h2 h3 => ?_⟩
        · rw [sm_n (by decide), sm_n (by decide), sm_n (by decide)]; exact h6 j j0 j1
        · rw [sm_n (by decide), sm_n (by decide)]; exact hj j j0 (by omega)
        · by_cases f0 : k = 238
          · subst f0; rw [sm_k, us_n (by omega)]; exact hf 238 j h1 h2 h3
          · rw [sm_n f0]; exact hf k j h1 h2 h3
      exact a_return dX11_atFirst_105 rfl rfl rfl (zrel_V hr)
    · exfalso; omega
  | succ n ih =>
    intro i M g0 g1 hf h6 hj
    refine a_iloadn dX11_atFirst_62 rfl ?_
    refine a_bipush (w := 36) dX11_atFirst_63 (by decide) ?_
    refine a_icmp_ge (tgt := 98) dX11_atFirst_65 (by decide) ⟨by omega, by omega⟩ ⟨by omega, by omega⟩ (fun hb65 => ?_) (fun hb65 => ?_)
    · exfalso; omega
    · refine a_aloadn dX11_atFirst_68 rfl ?_
      refine a_getR (j' := 51) (y := 236) dX11_atFirst_69 flX11_94 rfl rfl ((hY 209 (by decide) (by decide)).trans (L209 0)) (p209_51 hP) ?_
      refine a_bipush (w := 36) dX11_atFirst_72 (by decide) ?_
      refine a_iloadn dX11_atFirst_74 rfl ?_
      refine a_imul dX11_atFirst_75 ?_
      refine a_iloadn dX11_atFirst_76 rfl ?_
      refine a_iadd dX11_atFirst_77 ?_
      refine a_iconst dX11_atFirst_78 ?_
      refine a_iast (N := 72) dX11_atFirst_79 ((hY 236 (by decide) (by decide)).trans (L236 0)) (by decide) (by decide) (by omega) (by omega) ⟨by omega, by omega⟩ ?_
      refine a_aloadn dX11_atFirst_80 rfl ?_
      refine a_getR (j' := 52) (y := 237) dX11_atFirst_81 flX11_97 rfl rfl ((hY 209 (by decide) (by decide)).trans (L209 0)) (p209_52 hP) ?_
      refine a_bipush (w := 36) dX11_atFirst_84 (by decide) ?_
      refine a_iloadn dX11_atFirst_86 rfl ?_
      refine a_imul dX11_atFirst_87 ?_
      refine a_iloadn dX11_atFirst_88 rfl ?_
      refine a_iadd dX11_atFirst_89 ?_
      refine a_iconst dX11_atFirst_90 ?_
      refine a_zast (N := 72) dX11_atFirst_91 ((hY 237 (by decide) (by decide)).trans (L237 0)) (by decide) (by decide) (by omega) (by omega) (by omega) ?_
      refine c_iinc (ls' := [_, _, _]) dX11_atFirst_92 rfl (by decide) rfl rfl ?_
      refine a_goto (tgt := 62) dX11_atFirst_95 (by decide) ?_
      refine ih _ _ (by omega) (by omega) (fun k j h1 h2 h3 => by
        by_cases f0 : k = 236 ∨ k = 237
        · rcases f0 with f0 | f0 <;> subst f0
          · rw [sm_n (by decide), sm_k, us_n (by omega)]; exact hf 236 j h1 h2 h3
          · rw [sm_k, us_n (by omega), sm_n (by decide)]; exact hf 237 j h1 h2 h3
        · rw [sm_n (by omega), sm_n (by omega)]; exact hf k j h1 h2 h3) (fun j j0 j1 => ?_) (fun j j0 j1 => ?_)
      · rw [sm_n (by decide), sm_n (by decide), sm_n (by decide), sm_n (by decide), sm_n (by decide), sm_n (by decide)]; exact h6 j j0 j1
      by_cases ej : j = i
      · subst ej
        refine ⟨?_, ?_⟩
        · rw [sm_n (by decide), sm_s]
        · rw [sm_s]
      · have h9 := hj j j0 (by omega)
        refine ⟨?_, ?_⟩
        · rw [sm_n (by decide), sm_k, us_n (by omega)]; exact h9.1
        · rw [sm_k, us_n (by omega), sm_n (by decide)]; exact h9.2

set_option maxRecDepth 100000 in
set_option maxHeartbeats 4000000 in
theorem n_lpX11_atFirst1 {G : zG} {l : Launch} {lay : List zKd} {P : zP} {M0 : zM} {b : Int} {Z : zZ} (hY : ∀ k, 209 ≤ k → k < 243 → lay[k]? = (LAY 0)[k]?) (hP : PFok P) (hb : b = 0 ∨ b = 1) : ∀ (n : Nat) (i : Int) (M : zM) (g0 : 0 ≤ i) (g1 : i + n = 6) (hf : (∀ (k : Nat) (i : Int), ¬ ((k = 233 ∨ k = 234 ∨ k = 235) ∧ 6 * b ≤ i ∧ i < 6 * b + 6) → ¬ ((k = 236 ∨ k = 237) ∧ 36 * b ≤ i ∧ i < 36 * b + 36) → ¬ (k = 238 ∧ i = b) → M k i = M0 k i)) (hj : (∀ j : Int, 0 ≤ j → j < i → M 233 (6 * b + j) = M0 215 j ∧ M 234 (6 * b + j) = M0 216 j ∧ M 235 (6 * b + j) = 0)) (kk : ∀ M' : zM, (∀ (k : Nat) (i : Int), ¬ ((k = 233 ∨ k = 234 ∨ k = 235) ∧ 6 * b ≤ i ∧ i < 6 * b + 6) → ¬ ((k = 236 ∨ k = 237) ∧ 36 * b ≤ i ∧ i < 36 * b + 36) → ¬ (k = 238 ∧ i = b) → M' k i = M0 k i) → (∀ j : Int, 0 ≤ j → j < 6 → M' 233 (6 * b + j) = M0 215 j ∧ M' 234 (6 * b + j) = M0 216 j ∧ M' 235 (6 * b + j) = 0) → AW G l mdX11_atFirst Z 60 [some (aR 209), some (aI b), none] [] lay P M' 0 0), AW G l mdX11_atFirst Z 2 [some (aR 209), some (aI b), some (aI i)] [] lay P M 0 0 := by
  intro n
  induction n with
  | zero =>
    intro i M g0 g1 hf hj kk
    refine a_iloadn dX11_atFirst_2 rfl ?_
    refine a_bipush (w := 6) dX11_atFirst_3 (by decide) ?_
    refine a_icmp_ge (tgt := 60) dX11_atFirst_5 (by decide) ⟨by omega, by omega⟩ ⟨by omega, by omega⟩ (fun hb5 => ?_) (fun hb5 => ?_)
    · refine a_forget [2] (ls' := [_, _, none]) rfl (kk M hf (fun j j0 j1 => hj j j0 (by omega)))
    · exfalso; omega
  | succ n ih =>
    intro i M g0 g1 hf hj kk
    refine a_iloadn dX11_atFirst_2 rfl ?_
    refine a_bipush (w := 6) dX11_atFirst_3 (by decide) ?_
    refine a_icmp_ge (tgt := 60) dX11_atFirst_5 (by decide) ⟨by omega, by omega⟩ ⟨by omega, by omega⟩ (fun hb5 => ?_) (fun hb5 => ?_)
    · exfalso; omega
    · refine a_aloadn dX11_atFirst_8 rfl ?_
      refine a_getR (j' := 48) (y := 233) dX11_atFirst_9 flX11_85 rfl rfl ((hY 209 (by decide) (by decide)).trans (L209 0)) (p209_48 hP) ?_
      refine a_bipush (w := 6) dX11_atFirst_12 (by decide) ?_
      refine a_iloadn dX11_atFirst_14 rfl ?_
      refine a_imul dX11_atFirst_15 ?_
      refine a_iloadn dX11_atFirst_16 rfl ?_
      refine a_iadd dX11_atFirst_17 ?_
      refine a_aloadn dX11_atFirst_18 rfl ?_
      refine a_getR (j' := 23) (y := 215) dX11_atFirst_19 flX11_30 rfl rfl ((hY 209 (by decide) (by decide)).trans (L209 0)) (p209_23 hP) ?_
      refine a_iloadn dX11_atFirst_22 rfl ?_
      refine b_iald (N := 12) dX11_atFirst_23 ((hY 215 (by decide) (by decide)).trans (L215 0)) (by decide) (by omega) (by omega) (fun hr23 => ?_)
      have e23 : M 215 i = M0 215 i := by rw [hf 215 i (by omega) (by omega) (by omega)]
      rw [e23] at hr23
      rw [e23]
      refine a_iast (N := 12) dX11_atFirst_24 ((hY 233 (by decide) (by decide)).trans (L233 0)) (by decide) (by decide) (by omega) (by omega) hr23 ?_
      refine a_aloadn dX11_atFirst_25 rfl ?_
      refine a_getR (j' := 49) (y := 234) dX11_atFirst_26 flX11_88 rfl rfl ((hY 209 (by decide) (by decide)).trans (L209 0)) (p209_49 hP) ?_
      refine a_bipush (w := 6) dX11_atFirst_29 (by decide) ?_
      refine a_iloadn dX11_atFirst_31 rfl ?_
      refine a_imul dX11_atFirst_32 ?_
      refine a_iloadn dX11_atFirst_33 rfl ?_
      refine a_iadd dX11_atFirst_34 ?_
      refine a_aloadn dX11_atFirst_35 rfl ?_
      refine a_getR (j' := 24) (y := 216) dX11_atFirst_36 flX11_33 rfl rfl ((hY 209 (by decide) (by decide)).trans (L209 0)) (p209_24 hP) ?_
      refine a_iloadn dX11_atFirst_39 rfl ?_
      refine b_iald (N := 12) dX11_atFirst_40 ((hY 216 (by decide) (by decide)).trans (L216 0)) (by decide) (by omega) (by omega) (fun hr40 => ?_)
      have e40 : (sm M 233 (6 * b + i) (M0 215 i)) 216 i = M0 216 i := by rw [sm_n (by decide), hf 216 i (by omega) (by omega) (by omega)]
      rw [e40] at hr40
      rw [e40]
      refine a_iast (N := 12) dX11_atFirst_41 ((hY 234 (by decide) (by decide)).trans (L234 0)) (by decide) (by decide) (by omega) (by omega) hr40 ?_
      refine a_aloadn dX11_atFirst_42 rfl ?_
      refine a_getR (j' := 50) (y := 235) dX11_atFirst_43 flX11_91 rfl rfl ((hY 209 (by decide) (by decide)).trans (L209 0)) (p209_50 hP) ?_
      refine a_bipush (w := 6) dX11_atFirst_46 (by decide) ?_
      refine a_iloadn dX11_atFirst_48 rfl ?_
      refine a_imul dX11_atFirst_49 ?_
      refine a_iloadn dX11_atFirst_50 rfl ?_
      refine a_iadd dX11_atFirst_51 ?_
      refine a_iconst dX11_atFirst_52 ?_
      refine a_iast (N := 12) dX11_atFirst_53 ((hY 235 (by decide) (by decide)).trans (L235 0)) (by decide) (by decide) (by omega) (by omega) ⟨by omega, by omega⟩ ?_
      refine c_iinc (ls' := [_, _, _]) dX11_atFirst_54 rfl (by decide) rfl rfl ?_
      refine a_goto (tgt := 2) dX11_atFirst_57 (by decide) ?_
      refine ih _ _ (by omega) (by omega) (fun k j h1 h2 h3 => by
        by_cases f0 : k = 233 ∨ k = 234 ∨ k = 235
        · rcases f0 with f0 | f0 | f0 <;> subst f0
          · rw [sm_n (by decide), sm_n (by decide), sm_k, us_n (by omega)]; exact hf 233 j h1 h2 h3
          · rw [sm_n (by decide), sm_k, us_n (by omega), sm_n (by decide)]; exact hf 234 j h1 h2 h3
          · rw [sm_k, us_n (by omega), sm_n (by decide), sm_n (by decide)]; exact hf 235 j h1 h2 h3
        · rw [sm_n (by omega), sm_n (by omega), sm_n (by omega)]; exact hf k j h1 h2 h3) (fun j j0 j1 => ?_) kk
      by_cases ej : j = i
      · subst ej
        refine ⟨?_, ?_, ?_⟩
        · rw [sm_n (by decide), sm_n (by decide), sm_s]
        · rw [sm_n (by decide), sm_s]
        · rw [sm_s]
      · have h9 := hj j j0 (by omega)
        refine ⟨?_, ?_, ?_⟩
        · rw [sm_n (by decide), sm_n (by decide), sm_k, us_n (by omega)]; exact h9.1
        · rw [sm_n (by decide), sm_k, us_n (by omega), sm_n (by decide)]; exact h9.2.1
        · rw [sm_k, us_n (by omega), sm_n (by decide), sm_n (by decide)]; exact h9.2.2

set_option maxRecDepth 100000 in
set_option maxHeartbeats 4000000 in
theorem n_m_X11_atFirst {G : zG} {l : Launch} {lay : List zKd} {P : zP} {M : zM} {b : Int} (hY : ∀ k, 209 ≤ k → k < 243 → lay[k]? = (LAY 0)[k]?) (hP : PFok P) (hb : b = 0 ∨ b = 1) : AM G l yX11_atFirst mdX11_atFirst [aR 209, aI b] lay P M (zrel none lay P (AfR b M)) := by
  refine AM.go [some (aR 209), some (aI b), none] rfl (Nat.le_of_ble_eq_true rfl) ?_ (by decide) rfl rfl
  refine a_iconst dX11_atFirst_0 ?_
  refine c_istoren (ls' := [_, _, _]) dX11_atFirst_1 (by decide) rfl rfl ?_
  refine n_lpX11_atFirst1 hY hP hb 6 0 M (by omega) (by omega) (fun _ _ _ _ _ => rfl) (fun j j0 j1 => by omega) (fun M1 h1 h2 => ?_)
  refine a_iconst dX11_atFirst_60 ?_
  refine c_istoren (ls' := [_, _, _]) dX11_atFirst_61 (by decide) rfl rfl ?_
  exact n_lpX11_atFirst2 hY hP hb 36 0 M1 (by omega) (by omega) h1 h2 (fun j j0 j1 => by omega)

set_option maxRecDepth 100000 in
set_option maxHeartbeats 4000000 in
theorem n_lpX11_copies {G : zG} {l : Launch} {lay : List zKd} {P : zP} {q N : Nat} {nn : Int} {M0 : zM} (hl : lay[q]? = some (.inl (0, N))) (hq : 2 ≤ q) (hN : nn + nn ≤ N ∧ N ≤ 1000) (hn0 : 0 ≤ nn) : ∀ (n : Nat) (i : Int) (M : zM) (g0 : 0 ≤ i) (g1 : i + n = nn) (hM : M = cpP q nn i M0), AW G l mdX11_copies (zdet none lay P (cpP q nn nn M0)) 2 [some (aR q), some (aI nn), some (aI i)] [] lay P M 0 0 := by
  intro n
  induction n with
  | zero =>
    intro i M g0 g1 hM
    refine a_iloadn dX11_copies_2 rfl ?_
    refine a_iloadn dX11_copies_3 rfl ?_
    refine a_icmp_ge (tgt := 21) dX11_copies_4 (by decide) ⟨by omega, by omega⟩ ⟨by omega, by omega⟩ (fun hb4 => ?_) (fun hb4 => ?_)
    · exact a_return dX11_copies_21 rfl rfl rfl (zdet_V (by rw [hM, show i = nn by omega]))
    · exfalso; omega
  | succ n ih =>
    intro i M g0 g1 hM
    refine a_iloadn dX11_copies_2 rfl ?_
    refine a_iloadn dX11_copies_3 rfl ?_
    refine a_icmp_ge (tgt := 21) dX11_copies_4 (by decide) ⟨by omega, by omega⟩ ⟨by omega, by omega⟩ (fun hb4 => ?_) (fun hb4 => ?_)
    · exfalso; omega
    · refine a_aloadn dX11_copies_7 rfl ?_
      refine a_iloadn dX11_copies_8 rfl ?_
      refine a_aloadn dX11_copies_9 rfl ?_
      refine a_iloadn dX11_copies_10 rfl ?_
      refine a_iloadn dX11_copies_11 rfl ?_
      refine a_iadd dX11_copies_12 ?_
      refine b_iald (N := N) dX11_copies_13 hl (by omega) (by omega) (by omega) (fun hr13 => ?_)
      refine a_iast (N := N) dX11_copies_14 hl hq (by omega) (by omega) (by omega) hr13 ?_
      refine c_iinc (ls' := [_, _, _]) dX11_copies_15 rfl (by decide) rfl rfl ?_
      refine a_goto (tgt := 2) dX11_copies_18 (by decide) ?_
      subst hM
      exact ih _ _ (by omega) (by omega) (cpP_s g0 (by omega))

set_option maxRecDepth 100000 in
set_option maxHeartbeats 4000000 in
theorem n_m_X11_copies {G : zG} {l : Launch} {lay : List zKd} {P : zP} {M : zM} {q N : Nat} {nn : Int} (hl : lay[q]? = some (.inl (0, N))) (hq : 2 ≤ q) (hN : nn + nn ≤ N ∧ N ≤ 1000) (hn0 : 0 ≤ nn) : AM G l yX11_copies mdX11_copies [aR q, aI nn] lay P M (zdet none lay P (cpP q nn nn M)) := by
  refine AM.go [some (aR q), some (aI nn), none] rfl (Nat.le_of_ble_eq_true rfl) ?_ (by decide) rfl rfl
  refine a_iconst dX11_copies_0 ?_
  refine c_istoren (ls' := [_, _, _]) dX11_copies_1 (by decide) rfl rfl ?_
  exact n_lpX11_copies hl hq hN hn0 nn.toNat 0 M (by omega) (by omega) cpP_0.symm

set_option maxRecDepth 100000 in
set_option maxHeartbeats 4000000 in
theorem n_lpX11_plain2 {G : zG} {l : Launch} {lay : List zKd} {P : zP} {M0 : zM} (hY : ∀ k, 209 ≤ k → k < 243 → lay[k]? = (LAY 0)[k]?) (hP : PFok P) : ∀ (n : Nat) (i : Int) (M : zM) (g0 : 3 ≤ i) (g1 : i + n = 6) (hM : M = plP 4 i M0), AW G l mdX11_plain (zdet none lay P (plP 4 6 M0)) 73 [some (aR 209), some (aI i)] [] lay P M 0 0 := by
  intro n
  induction n with
  | zero =>
    intro i M g0 g1 hM
    refine a_iloadn dX11_plain_73 rfl ?_
    refine a_bipush (w := 6) dX11_plain_74 (by decide) ?_
    refine a_icmp_ge (tgt := 92) dX11_plain_76 (by decide) ⟨by omega, by omega⟩ ⟨by omega, by omega⟩ (fun hb76 => ?_) (fun hb76 => ?_)
    · exact a_return dX11_plain_92 rfl rfl rfl (zdet_V (by rw [hM, show i = 6 by omega]))
    · exfalso; omega
  | succ n ih =>
    intro i M g0 g1 hM
    refine a_iloadn dX11_plain_73 rfl ?_
    refine a_bipush (w := 6) dX11_plain_74 (by decide) ?_
    refine a_icmp_ge (tgt := 92) dX11_plain_76 (by decide) ⟨by omega, by omega⟩ ⟨by omega, by omega⟩ (fun hb76 => ?_) (fun hb76 => ?_)
    · exfalso; omega
    · refine a_aloadn dX11_plain_79 rfl ?_
      refine a_getR (j' := 31) (y := 223) dX11_plain_80 flX11_54 rfl rfl ((hY 209 (by decide) (by decide)).trans (L209 0)) (p209_31 hP) ?_
      refine a_iloadn dX11_plain_83 rfl ?_
      refine a_iconst dX11_plain_84 ?_
      refine a_zast (N := 6) dX11_plain_85 ((hY 223 (by decide) (by decide)).trans (L223 0)) (by decide) (by decide) (by omega) (by omega) (by omega) ?_
      refine c_iinc (ls' := [_, _]) dX11_plain_86 rfl (by decide) rfl rfl ?_
      refine a_goto (tgt := 73) dX11_plain_89 (by decide) ?_
      subst hM
      exact ih _ _ (by omega) (by omega) (plP_t g0)

set_option maxRecDepth 100000 in
set_option maxHeartbeats 4000000 in
theorem n_lpX11_plain1 {G : zG} {l : Launch} {lay : List zKd} {P : zP} {M0 : zM} (hY : ∀ k, 209 ≤ k → k < 243 → lay[k]? = (LAY 0)[k]?) (hP : PFok P) : ∀ (n : Nat) (i : Int) (M : zM) (g0 : 0 ≤ i) (g1 : i + n = 4) (hM : M = plP i 3 M0), AW G l mdX11_plain (zdet none lay P (plP 4 6 M0)) 27 [some (aR 209), some (aI i)] [] lay P M 0 0 := by
  intro n
  induction n with
  | zero =>
    intro i M g0 g1 hM
    refine a_iloadn dX11_plain_27 rfl ?_
    refine a_iconst dX11_plain_28 ?_
    refine a_icmp_ge (tgt := 71) dX11_plain_29 (by decide) ⟨by omega, by omega⟩ ⟨by omega, by omega⟩ (fun hb29 => ?_) (fun hb29 => ?_)
    · refine a_iconst dX11_plain_71 ?_
      refine c_istoren (ls' := [_, _]) dX11_plain_72 (by decide) rfl rfl ?_
      exact n_lpX11_plain2 hY hP 3 3 _ (by omega) (by omega) (by rw [hM, show i = 4 by omega])
    · exfalso; omega
  | succ n ih =>
    intro i M g0 g1 hM
    refine a_iloadn dX11_plain_27 rfl ?_
    refine a_iconst dX11_plain_28 ?_
    refine a_icmp_ge (tgt := 71) dX11_plain_29 (by decide) ⟨by omega, by omega⟩ ⟨by omega, by omega⟩ (fun hb29 => ?_) (fun hb29 => ?_)
    · exfalso; omega
    · refine a_aloadn dX11_plain_32 rfl ?_
      refine a_getR (j' := 20) (y := 212) dX11_plain_33 flX11_20 rfl rfl ((hY 209 (by decide) (by decide)).trans (L209 0)) (p209_20 hP) ?_
      refine a_iloadn dX11_plain_36 rfl ?_
      refine a_iconst dX11_plain_37 ?_
      refine a_zast (N := 4) dX11_plain_38 ((hY 212 (by decide) (by decide)).trans (L212 0)) (by decide) (by decide) (by omega) (by omega) (by omega) ?_
      refine a_aloadn dX11_plain_39 rfl ?_
      refine a_getR (j' := 21) (y := 213) dX11_plain_40 flX11_24 rfl rfl ((hY 209 (by decide) (by decide)).trans (L209 0)) (p209_21 hP) ?_
      refine a_iconst dX11_plain_43 ?_
      refine a_iloadn dX11_plain_44 rfl ?_
      refine a_iadd dX11_plain_45 ?_
      refine a_iloadn dX11_plain_46 rfl ?_
      refine a_if_ne (tgt := 54) dX11_plain_47 (by decide) ⟨by omega, by omega⟩ (fun hb47 => ?_) (fun hb47 => ?_)
      · refine a_iloadn dX11_plain_54 rfl ?_
        refine a_iconst dX11_plain_55 ?_
        refine a_icmp_ne (tgt := 63) dX11_plain_56 (by decide) ⟨by omega, by omega⟩ ⟨by omega, by omega⟩ (fun hb56 => ?_) (fun hb56 => ?_)
        · refine a_iconst dX11_plain_63 ?_
          refine a_iast (N := 8) dX11_plain_64 ((hY 213 (by decide) (by decide)).trans (L213 0)) (by decide) (by decide) (by omega) (by omega) ⟨by omega, by omega⟩ ?_
          refine c_iinc (ls' := [_, _]) dX11_plain_65 rfl (by decide) rfl rfl ?_
          refine a_goto (tgt := 27) dX11_plain_68 (by decide) ?_
          subst hM
          exact ih _ _ (by omega) (by omega) (plP_s g0 (by unfold plV; repeat (first | rw [if_pos (by omega)] | rw [if_neg (by omega)])))
        · refine a_iconst dX11_plain_59 ?_
          refine a_goto (tgt := 64) dX11_plain_60 (by decide) ?_
          refine a_iast (N := 8) dX11_plain_64 ((hY 213 (by decide) (by decide)).trans (L213 0)) (by decide) (by decide) (by omega) (by omega) ⟨by omega, by omega⟩ ?_
          refine c_iinc (ls' := [_, _]) dX11_plain_65 rfl (by decide) rfl rfl ?_
          refine a_goto (tgt := 27) dX11_plain_68 (by decide) ?_
          subst hM
          exact ih _ _ (by omega) (by omega) (plP_s g0 (by unfold plV; repeat (first | rw [if_pos (by omega)] | rw [if_neg (by omega)])))
      · refine a_iconst dX11_plain_50 ?_
        refine a_goto (tgt := 64) dX11_plain_51 (by decide) ?_
        refine a_iast (N := 8) dX11_plain_64 ((hY 213 (by decide) (by decide)).trans (L213 0)) (by decide) (by decide) (by omega) (by omega) ⟨by omega, by omega⟩ ?_
        refine c_iinc (ls' := [_, _]) dX11_plain_65 rfl (by decide) rfl rfl ?_
        refine a_goto (tgt := 27) dX11_plain_68 (by decide) ?_
        subst hM
        exact ih _ _ (by omega) (by omega) (plP_s g0 (by unfold plV; repeat (first | rw [if_pos (by omega)] | rw [if_neg (by omega)])))

set_option maxRecDepth 100000 in
set_option maxHeartbeats 4000000 in
theorem n_m_X11_plain {G : zG} {l : Launch} {lay : List zKd} {P : zP} {M : zM}  (hY : ∀ k, 209 ≤ k → k < 243 → lay[k]? = (LAY 0)[k]?) (hP : PFok P) : AM G l yX11_plain mdX11_plain [aR 209] lay P M (zdet none lay P (plM M)) := by
  refine AM.go [some (aR 209), none] rfl (Nat.le_of_ble_eq_true rfl) ?_ (by decide) rfl rfl
  refine a_aloadn dX11_plain_0 rfl ?_
  refine a_iconst dX11_plain_1 ?_
  refine a_putI (j' := 16) dX11_plain_2 flX11_186 rfl rfl ((hY 209 (by decide) (by decide)).trans (L209 0)) (by decide) rfl ⟨by omega, by omega⟩ ?_
  refine a_aloadn dX11_plain_5 rfl ?_
  refine a_iconst dX11_plain_6 ?_
  refine a_putI (j' := 17) dX11_plain_7 flX11_189 rfl rfl ((hY 209 (by decide) (by decide)).trans (L209 0)) (by decide) rfl ⟨by omega, by omega⟩ ?_
  refine a_aloadn dX11_plain_10 rfl ?_
  refine a_iconst dX11_plain_11 ?_
  refine a_putI (j' := 18) dX11_plain_12 flX11_192 rfl rfl ((hY 209 (by decide) (by decide)).trans (L209 0)) (by decide) rfl ⟨by omega, by omega⟩ ?_
  refine a_aloadn dX11_plain_15 rfl ?_
  refine a_iconst dX11_plain_16 ?_
  refine a_putI (j' := 19) dX11_plain_17 flX11_195 rfl rfl ((hY 209 (by decide) (by decide)).trans (L209 0)) (by decide) rfl ⟨by omega, by omega⟩ ?_
  refine a_aloadn dX11_plain_20 rfl ?_
  refine a_iconst dX11_plain_21 ?_
  refine a_putI (j' := 42) dX11_plain_22 flX11_198 rfl rfl ((hY 209 (by decide) (by decide)).trans (L209 0)) (by decide) rfl ⟨by omega, by omega⟩ ?_
  refine a_iconst dX11_plain_25 ?_
  refine c_istoren (ls' := [_, _]) dX11_plain_26 (by decide) rfl rfl ?_
  exact n_lpX11_plain1 hY hP 4 0 _ (by omega) (by omega) plP_0.symm

set_option maxRecDepth 100000 in
set_option maxHeartbeats 4000000 in
theorem n_m_X11_begin {G : zG} {l : Launch} {lay : List zKd} {P : zP} {M : zM}  (hY : ∀ k, 209 ≤ k → k < 243 → lay[k]? = (LAY 0)[k]?) (hP : PFok P) : AM G l yX11_begin mdX11_begin [aR 209] lay P M (zrel none lay P (BgK M)) := by
  refine AM.go [some (aR 209)] rfl (Nat.le_of_ble_eq_true rfl) ?_ (by decide) rfl rfl
  refine a_aloadn dX11_begin_0 rfl ?_
  refine a_iconst dX11_begin_1 ?_
  refine a_relVv (as := [_]) (q := 209) dX11_begin_2 mvX11_315 ⟨by decide, by decide⟩ ((hY 209 (by decide) (by decide)).trans (L209 0)) rfl rfl rfl (Nat.le_of_ble_eq_true rfl) ⟨rfl, rfl⟩ ⟨by decide, by decide⟩ (n_m_X11_atFirst hY hP (Or.inl rfl)) (fun M1 hM1 => ?_)
  refine a_aloadn dX11_begin_5 rfl ?_
  refine a_aloadn dX11_begin_6 rfl ?_
  refine a_getR (j' := 21) (y := 213) dX11_begin_7 flX11_24 rfl rfl ((hY 209 (by decide) (by decide)).trans (L209 0)) (p209_21 hP) ?_
  refine a_iconst dX11_begin_10 ?_
  refine b_iald (N := 8) dX11_begin_11 ((hY 213 (by decide) (by decide)).trans (L213 0)) (by decide) (by omega) (by omega) (fun hr11 => ?_)
  refine a_i2l dX11_begin_12 hr11 ?_
  refine a_putL (j' := 54) dX11_begin_13 flX11_318 rfl rfl ((hY 209 (by decide) (by decide)).trans (L209 0)) (by decide) rfl (by have := hr11; exact ⟨by omega, by omega⟩) ?_
  refine a_aloadn dX11_begin_16 rfl ?_
  refine a_callVv (as := []) (q := 209) dX11_begin_17 mvX11_322 ⟨by decide, by decide⟩ ((hY 209 (by decide) (by decide)).trans (L209 0)) rfl rfl rfl (Nat.le_of_ble_eq_true rfl) ⟨rfl, rfl⟩ ⟨by decide, by decide⟩ (n_m_X11_plainTried hY hP) ?_
  refine a_aloadn dX11_begin_20 rfl ?_
  refine a_iconst dX11_begin_21 ?_
  refine a_putI (j' := 61) dX11_begin_22 flX11_325 rfl rfl ((hY 209 (by decide) (by decide)).trans (L209 0)) (by decide) rfl ⟨by omega, by omega⟩ ?_
  refine a_aloadn dX11_begin_25 rfl ?_
  refine a_iconst dX11_begin_26 ?_
  refine a_putI (j' := 62) dX11_begin_27 flX11_103 rfl rfl ((hY 209 (by decide) (by decide)).trans (L209 0)) (by decide) rfl ⟨by omega, by omega⟩ ?_
  refine a_aloadn dX11_begin_30 rfl ?_
  refine a_iconst dX11_begin_31 ?_
  refine a_putI (j' := 65) dX11_begin_32 flX11_328 rfl rfl ((hY 209 (by decide) (by decide)).trans (L209 0)) (by decide) rfl ⟨by omega, by omega⟩ ?_
  refine a_aloadn dX11_begin_35 rfl ?_
  refine a_iconst dX11_begin_36 ?_
  refine a_putZ (j' := 67) dX11_begin_37 flX11_331 rfl rfl ((hY 209 (by decide) (by decide)).trans (L209 0)) (by decide) rfl (by omega) ?_
  exact a_return dX11_begin_40 rfl rfl rfl (zrel_V ⟨M1, hM1, rfl⟩)

set_option maxRecDepth 100000 in
set_option maxHeartbeats 4000000 in
theorem n_tlX11_kt {G : zG} {l : Launch} {lay : List zKd} {P : zP} {M0 M : zM} (hY : ∀ k, 209 ≤ k → k < 243 → lay[k]? = (LAY 0)[k]?) (hP : PFok P) (hM : M = cpP 223 3 3 (ktA M0)) : AW G l mdX11_keepText (zrel none lay P (BgK (ktM M0))) 148 [some (aR 209), none] [] lay P M 0 0 := by
  refine a_aloadn dX11_keepText_148 rfl ?_
  refine a_getR (j' := 32) (y := 224) dX11_keepText_149 flX11_57 rfl rfl ((hY 209 (by decide) (by decide)).trans (L209 0)) (p209_32 hP) ?_
  refine a_iconst dX11_keepText_152 ?_
  refine a_callSv (as := [_, _]) dX11_keepText_153 mvX11_213 ⟨by decide, by decide⟩ rfl rfl (Nat.le_of_ble_eq_true rfl) ⟨rfl, rfl⟩ ⟨by decide, by decide⟩ (n_m_X11_copies ((hY 224 (by decide) (by decide)).trans (L224 0)) (by decide) ⟨by omega, by omega⟩ (by omega)) ?_
  refine a_aloadn dX11_keepText_156 rfl ?_
  refine a_getR (j' := 33) (y := 225) dX11_keepText_157 flX11_60 rfl rfl ((hY 209 (by decide) (by decide)).trans (L209 0)) (p209_33 hP) ?_
  refine a_iconst dX11_keepText_160 ?_
  refine a_callSv (as := [_, _]) dX11_keepText_161 mvX11_213 ⟨by decide, by decide⟩ rfl rfl (Nat.le_of_ble_eq_true rfl) ⟨rfl, rfl⟩ ⟨by decide, by decide⟩ (n_m_X11_copies ((hY 225 (by decide) (by decide)).trans (L225 0)) (by decide) ⟨by omega, by omega⟩ (by omega)) ?_
  refine a_aloadn dX11_keepText_164 rfl ?_
  refine a_getR (j' := 34) (y := 226) dX11_keepText_165 flX11_63 rfl rfl ((hY 209 (by decide) (by decide)).trans (L209 0)) (p209_34 hP) ?_
  refine a_bipush (w := 64) dX11_keepText_168 (by decide) ?_
  refine a_callSv (as := [_, _]) dX11_keepText_170 mvX11_213 ⟨by decide, by decide⟩ rfl rfl (Nat.le_of_ble_eq_true rfl) ⟨rfl, rfl⟩ ⟨by decide, by decide⟩ (n_m_X11_copies ((hY 226 (by decide) (by decide)).trans (L226 0)) (by decide) ⟨by omega, by omega⟩ (by omega)) ?_
  refine a_aloadn dX11_keepText_173 rfl ?_
  refine a_getR (j' := 35) (y := 227) dX11_keepText_174 flX11_66 rfl rfl ((hY 209 (by decide) (by decide)).trans (L209 0)) (p209_35 hP) ?_
  refine a_bipush (w := 64) dX11_keepText_177 (by decide) ?_
  refine a_callSv (as := [_, _]) dX11_keepText_179 mvX11_213 ⟨by decide, by decide⟩ rfl rfl (Nat.le_of_ble_eq_true rfl) ⟨rfl, rfl⟩ ⟨by decide, by decide⟩ (n_m_X11_copies ((hY 227 (by decide) (by decide)).trans (L227 0)) (by decide) ⟨by omega, by omega⟩ (by omega)) ?_
  refine a_aloadn dX11_keepText_182 rfl ?_
  refine a_getR (j' := 36) (y := 228) dX11_keepText_183 flX11_69 rfl rfl ((hY 209 (by decide) (by decide)).trans (L209 0)) (p209_36 hP) ?_
  refine a_bipush (w := 64) dX11_keepText_186 (by decide) ?_
  refine a_callSv (as := [_, _]) dX11_keepText_188 mvX11_213 ⟨by decide, by decide⟩ rfl rfl (Nat.le_of_ble_eq_true rfl) ⟨rfl, rfl⟩ ⟨by decide, by decide⟩ (n_m_X11_copies ((hY 228 (by decide) (by decide)).trans (L228 0)) (by decide) ⟨by omega, by omega⟩ (by omega)) ?_
  refine a_aloadn dX11_keepText_191 rfl ?_
  refine a_relVv (as := []) (q := 209) dX11_keepText_192 mvX11_217 ⟨by decide, by decide⟩ ((hY 209 (by decide) (by decide)).trans (L209 0)) rfl rfl rfl (Nat.le_of_ble_eq_true rfl) ⟨rfl, rfl⟩ ⟨by decide, by decide⟩ (n_m_X11_begin hY hP) (fun M1 hM1 => ?_)
  exact a_return dX11_keepText_195 rfl rfl rfl (zrel_V (by rw [hM] at hM1; exact hM1))

set_option maxRecDepth 100000 in
set_option maxHeartbeats 4000000 in
theorem n_lpX11_kt {G : zG} {l : Launch} {lay : List zKd} {P : zP} {M0 : zM} (hY : ∀ k, 209 ≤ k → k < 243 → lay[k]? = (LAY 0)[k]?) (hP : PFok P) : ∀ (n : Nat) (i : Int) (M : zM) (g0 : 0 ≤ i) (g1 : i + n = 3) (hM : M = cpP 223 3 i (ktA M0)), AW G l mdX11_keepText (zrel none lay P (BgK (ktM M0))) 123 [some (aR 209), some (aI i)] [] lay P M 0 0 := by
  intro n
  induction n with
  | zero =>
    intro i M g0 g1 hM
    refine a_iloadn dX11_keepText_123 rfl ?_
    refine a_iconst dX11_keepText_124 ?_
    refine a_icmp_ge (tgt := 148) dX11_keepText_125 (by decide) ⟨by omega, by omega⟩ ⟨by omega, by omega⟩ (fun hb125 => ?_) (fun hb125 => ?_)
    · refine a_forget [1] (ls' := [_, none]) rfl ?_
      exact n_tlX11_kt hY hP (by rw [hM, show i = 3 by omega])
    · exfalso; omega
  | succ n ih =>
    intro i M g0 g1 hM
    refine a_iloadn dX11_keepText_123 rfl ?_
    refine a_iconst dX11_keepText_124 ?_
    refine a_icmp_ge (tgt := 148) dX11_keepText_125 (by decide) ⟨by omega, by omega⟩ ⟨by omega, by omega⟩ (fun hb125 => ?_) (fun hb125 => ?_)
    · exfalso; omega
    · refine a_aloadn dX11_keepText_128 rfl ?_
      refine a_getR (j' := 31) (y := 223) dX11_keepText_129 flX11_54 rfl rfl ((hY 209 (by decide) (by decide)).trans (L209 0)) (p209_31 hP) ?_
      refine a_iloadn dX11_keepText_132 rfl ?_
      refine a_aloadn dX11_keepText_133 rfl ?_
      refine a_getR (j' := 31) (y := 223) dX11_keepText_134 flX11_54 rfl rfl ((hY 209 (by decide) (by decide)).trans (L209 0)) (p209_31 hP) ?_
      refine a_iconst dX11_keepText_137 ?_
      refine a_iloadn dX11_keepText_138 rfl ?_
      refine a_iadd dX11_keepText_139 ?_
      refine b_zald (N := 6) dX11_keepText_140 ((hY 223 (by decide) (by decide)).trans (L223 0)) (by decide) (by omega) (by omega) (fun hr140 => ?_)
      refine a_zast (N := 6) dX11_keepText_141 ((hY 223 (by decide) (by decide)).trans (L223 0)) (by decide) (by decide) (by omega) (by omega) (by omega) ?_
      refine c_iinc (ls' := [_, _]) dX11_keepText_142 rfl (by decide) rfl rfl ?_
      refine a_goto (tgt := 123) dX11_keepText_145 (by decide) ?_
      subst hM
      exact ih _ _ (by omega) (by omega) (cpP_s g0 (by omega))

set_option maxRecDepth 100000 in
set_option maxHeartbeats 4000000 in
theorem n_m_X11_keepText {G : zG} {l : Launch} {lay : List zKd} {P : zP} {M : zM}  (hY : ∀ k, 209 ≤ k → k < 243 → lay[k]? = (LAY 0)[k]?) (hP : PFok P) : AM G l yX11_keepText mdX11_keepText [aR 209] lay P M (zrel none lay P (BgK (ktM M))) := by
  refine AM.go [some (aR 209), none] rfl (Nat.le_of_ble_eq_true rfl) ?_ (by decide) rfl rfl
  refine a_aloadn dX11_keepText_0 rfl ?_
  refine a_aloadn dX11_keepText_1 rfl ?_
  refine b_getI (j' := 16) dX11_keepText_2 flX11_186 rfl rfl ((hY 209 (by decide) (by decide)).trans (L209 0)) (fun hr2 => ?_)
  refine a_putI (j' := 12) dX11_keepText_5 flX11_201 rfl rfl ((hY 209 (by decide) (by decide)).trans (L209 0)) (by decide) rfl hr2 ?_
  refine a_aloadn dX11_keepText_8 rfl ?_
  refine a_aloadn dX11_keepText_9 rfl ?_
  refine b_getI (j' := 17) dX11_keepText_10 flX11_189 rfl rfl ((hY 209 (by decide) (by decide)).trans (L209 0)) (fun hr10 => ?_)
  refine a_putI (j' := 13) dX11_keepText_13 flX11_204 rfl rfl ((hY 209 (by decide) (by decide)).trans (L209 0)) (by decide) rfl hr10 ?_
  refine a_aloadn dX11_keepText_16 rfl ?_
  refine a_aloadn dX11_keepText_17 rfl ?_
  refine b_getI (j' := 18) dX11_keepText_18 flX11_192 rfl rfl ((hY 209 (by decide) (by decide)).trans (L209 0)) (fun hr18 => ?_)
  refine a_putI (j' := 14) dX11_keepText_21 flX11_207 rfl rfl ((hY 209 (by decide) (by decide)).trans (L209 0)) (by decide) rfl hr18 ?_
  refine a_aloadn dX11_keepText_24 rfl ?_
  refine a_aloadn dX11_keepText_25 rfl ?_
  refine b_getI (j' := 19) dX11_keepText_26 flX11_195 rfl rfl ((hY 209 (by decide) (by decide)).trans (L209 0)) (fun hr26 => ?_)
  refine a_putI (j' := 15) dX11_keepText_29 flX11_210 rfl rfl ((hY 209 (by decide) (by decide)).trans (L209 0)) (by decide) rfl hr26 ?_
  refine a_aloadn dX11_keepText_32 rfl ?_
  refine a_getR (j' := 21) (y := 213) dX11_keepText_33 flX11_24 rfl rfl ((hY 209 (by decide) (by decide)).trans (L209 0)) (p209_21 hP) ?_
  refine a_iconst dX11_keepText_36 ?_
  refine a_callSv (as := [_, _]) dX11_keepText_37 mvX11_213 ⟨by decide, by decide⟩ rfl rfl (Nat.le_of_ble_eq_true rfl) ⟨rfl, rfl⟩ ⟨by decide, by decide⟩ (n_m_X11_copies ((hY 213 (by decide) (by decide)).trans (L213 0)) (by decide) ⟨by omega, by omega⟩ (by omega)) ?_
  refine a_aloadn dX11_keepText_40 rfl ?_
  refine a_getR (j' := 22) (y := 214) dX11_keepText_41 flX11_27 rfl rfl ((hY 209 (by decide) (by decide)).trans (L209 0)) (p209_22 hP) ?_
  refine a_bipush (w := 6) dX11_keepText_44 (by decide) ?_
  refine a_callSv (as := [_, _]) dX11_keepText_46 mvX11_213 ⟨by decide, by decide⟩ rfl rfl (Nat.le_of_ble_eq_true rfl) ⟨rfl, rfl⟩ ⟨by decide, by decide⟩ (n_m_X11_copies ((hY 214 (by decide) (by decide)).trans (L214 0)) (by decide) ⟨by omega, by omega⟩ (by omega)) ?_
  refine a_aloadn dX11_keepText_49 rfl ?_
  refine a_getR (j' := 23) (y := 215) dX11_keepText_50 flX11_30 rfl rfl ((hY 209 (by decide) (by decide)).trans (L209 0)) (p209_23 hP) ?_
  refine a_bipush (w := 6) dX11_keepText_53 (by decide) ?_
  refine a_callSv (as := [_, _]) dX11_keepText_55 mvX11_213 ⟨by decide, by decide⟩ rfl rfl (Nat.le_of_ble_eq_true rfl) ⟨rfl, rfl⟩ ⟨by decide, by decide⟩ (n_m_X11_copies ((hY 215 (by decide) (by decide)).trans (L215 0)) (by decide) ⟨by omega, by omega⟩ (by omega)) ?_
  refine a_aloadn dX11_keepText_58 rfl ?_
  refine a_getR (j' := 24) (y := 216) dX11_keepText_59 flX11_33 rfl rfl ((hY 209 (by decide) (by decide)).trans (L209 0)) (p209_24 hP) ?_
  refine a_bipush (w := 6) dX11_keepText_62 (by decide) ?_
  refine a_callSv (as := [_, _]) dX11_keepText_64 mvX11_213 ⟨by decide, by decide⟩ rfl rfl (Nat.le_of_ble_eq_true rfl) ⟨rfl, rfl⟩ ⟨by decide, by decide⟩ (n_m_X11_copies ((hY 216 (by decide) (by decide)).trans (L216 0)) (by decide) ⟨by omega, by omega⟩ (by omega)) ?_
  refine a_aloadn dX11_keepText_67 rfl ?_
  refine a_getR (j' := 25) (y := 217) dX11_keepText_68 flX11_36 rfl rfl ((hY 209 (by decide) (by decide)).trans (L209 0)) (p209_25 hP) ?_
  refine a_bipush (w := 10) dX11_keepText_71 (by decide) ?_
  refine a_callSv (as := [_, _]) dX11_keepText_73 mvX11_213 ⟨by decide, by decide⟩ rfl rfl (Nat.le_of_ble_eq_true rfl) ⟨rfl, rfl⟩ ⟨by decide, by decide⟩ (n_m_X11_copies ((hY 217 (by decide) (by decide)).trans (L217 0)) (by decide) ⟨by omega, by omega⟩ (by omega)) ?_
  refine a_aloadn dX11_keepText_76 rfl ?_
  refine a_getR (j' := 26) (y := 218) dX11_keepText_77 flX11_39 rfl rfl ((hY 209 (by decide) (by decide)).trans (L209 0)) (p209_26 hP) ?_
  refine a_bipush (w := 10) dX11_keepText_80 (by decide) ?_
  refine a_callSv (as := [_, _]) dX11_keepText_82 mvX11_213 ⟨by decide, by decide⟩ rfl rfl (Nat.le_of_ble_eq_true rfl) ⟨rfl, rfl⟩ ⟨by decide, by decide⟩ (n_m_X11_copies ((hY 218 (by decide) (by decide)).trans (L218 0)) (by decide) ⟨by omega, by omega⟩ (by omega)) ?_
  refine a_aloadn dX11_keepText_85 rfl ?_
  refine a_getR (j' := 27) (y := 219) dX11_keepText_86 flX11_42 rfl rfl ((hY 209 (by decide) (by decide)).trans (L209 0)) (p209_27 hP) ?_
  refine a_bipush (w := 10) dX11_keepText_89 (by decide) ?_
  refine a_callSv (as := [_, _]) dX11_keepText_91 mvX11_213 ⟨by decide, by decide⟩ rfl rfl (Nat.le_of_ble_eq_true rfl) ⟨rfl, rfl⟩ ⟨by decide, by decide⟩ (n_m_X11_copies ((hY 219 (by decide) (by decide)).trans (L219 0)) (by decide) ⟨by omega, by omega⟩ (by omega)) ?_
  refine a_aloadn dX11_keepText_94 rfl ?_
  refine a_getR (j' := 28) (y := 220) dX11_keepText_95 flX11_45 rfl rfl ((hY 209 (by decide) (by decide)).trans (L209 0)) (p209_28 hP) ?_
  refine a_bipush (w := 12) dX11_keepText_98 (by decide) ?_
  refine a_callSv (as := [_, _]) dX11_keepText_100 mvX11_213 ⟨by decide, by decide⟩ rfl rfl (Nat.le_of_ble_eq_true rfl) ⟨rfl, rfl⟩ ⟨by decide, by decide⟩ (n_m_X11_copies ((hY 220 (by decide) (by decide)).trans (L220 0)) (by decide) ⟨by omega, by omega⟩ (by omega)) ?_
  refine a_aloadn dX11_keepText_103 rfl ?_
  refine a_getR (j' := 29) (y := 221) dX11_keepText_104 flX11_48 rfl rfl ((hY 209 (by decide) (by decide)).trans (L209 0)) (p209_29 hP) ?_
  refine a_bipush (w := 12) dX11_keepText_107 (by decide) ?_
  refine a_callSv (as := [_, _]) dX11_keepText_109 mvX11_213 ⟨by decide, by decide⟩ rfl rfl (Nat.le_of_ble_eq_true rfl) ⟨rfl, rfl⟩ ⟨by decide, by decide⟩ (n_m_X11_copies ((hY 221 (by decide) (by decide)).trans (L221 0)) (by decide) ⟨by omega, by omega⟩ (by omega)) ?_
  refine a_aloadn dX11_keepText_112 rfl ?_
  refine a_getR (j' := 30) (y := 222) dX11_keepText_113 flX11_51 rfl rfl ((hY 209 (by decide) (by decide)).trans (L209 0)) (p209_30 hP) ?_
  refine a_bipush (w := 12) dX11_keepText_116 (by decide) ?_
  refine a_callSv (as := [_, _]) dX11_keepText_118 mvX11_213 ⟨by decide, by decide⟩ rfl rfl (Nat.le_of_ble_eq_true rfl) ⟨rfl, rfl⟩ ⟨by decide, by decide⟩ (n_m_X11_copies ((hY 222 (by decide) (by decide)).trans (L222 0)) (by decide) ⟨by omega, by omega⟩ (by omega)) ?_
  refine a_iconst dX11_keepText_121 ?_
  refine c_istoren (ls' := [_, _]) dX11_keepText_122 (by decide) rfl rfl ?_
  refine n_lpX11_kt hY hP 3 0 _ (by omega) (by omega) ?_
  rw [cpP_0]
  unfold ktA
  simp (disch := decide) only [sm_n, sm_k, us_s, us_n]

end ZGR
