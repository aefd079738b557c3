/-- a state begins as the text tells -/
def AfR (b : Int) (M0 M : zM) : Prop := (∀ j : Int, 0 ≤ j → j < 6 → M 233 (6 * b + j) = M0 215 j ∧ M 234 (6 * b + j) = M0 216 j ∧ M 235 (6 * b + j) = 0) ∧ (∀ j : Int, 0 ≤ j → j < 36 → M 236 (36 * b + j) = 0 ∧ M 237 (36 * b + j) = 0) ∧ M 238 b = 0 ∧ (∀ (k : Nat) (i : Int), ¬ ((k = 233 ∨ k = 234 ∨ k = 235) ∧ 6 * b ≤ i ∧ i < 6 * b + 6) → ¬ ((k = 236 ∨ k = 237) ∧ 36 * b ≤ i ∧ i < 36 * b + 36) → ¬ (k = 238 ∧ i = b) → M k i = M0 k i)

set_option maxRecDepth 100000 in
set_option maxHeartbeats 4000000 in
theorem lpX11_atFirst1 {G : zG} {l : Launch} {L : Nat} {P : zP} {M0 : zM} {b : Int} {Z : zZ} (hP : PFok P) (hb : b = 0 ∨ b = 1) : ∀ (n : Nat) (i : Int) (M : zM) (g0 : 0 ≤ i) (g1 : i + n = 6) (hf : (∀ (k : Nat) (i : Int), ¬ ((k = 233 ∨ k = 234 ∨ k = 235) ∧ 6 * b ≤ i ∧ i < 6 * b + 6) → ¬ ((k = 236 ∨ k = 237) ∧ 36 * b ≤ i ∧ i < 36 * b + 36) → ¬ (k = 238 ∧ i = b) → M k i = M0 k i)) (hj : (∀ j : Int, 0 ≤ j → j < i → M 233 (6 * b + j) = M0 215 j ∧ M 234 (6 * b + j) = M0 216 j ∧ M 235 (6 * b + j) = 0)) (kk : ∀ M' : zM, (∀ (k : Nat) (i : Int), ¬ ((k = 233 ∨ k = 234 ∨ k = 235) ∧ 6 * b ≤ i ∧ i < 6 * b + 6) → ¬ ((k = 236 ∨ k = 237) ∧ 36 * b ≤ i ∧ i < 36 * b + 36) → ¬ (k = 238 ∧ i = b) → M' k i = M0 k i) → (∀ j : Int, 0 ≤ j → j < 6 → M' 233 (6 * b + j) = M0 215 j ∧ M' 234 (6 * b + j) = M0 216 j ∧ M' 235 (6 * b + j) = 0) → AW G l mdX11_atFirst Z 60 [some (aR 209), some (aI b), none] [] (LAY L) P M' 0 0), AW G l mdX11_atFirst Z 2 [some (aR 209), some (aI b), some (aI i)] [] (LAY L) P M 0 0 := by
  intro n
  induction n with
  | zero =>
    intro i M g0 g1 hf hj kk
    refine a_iloadn dX11_atFirst_2 rfl ?_
    refine a_bipush (w := 6) dX11_atFirst_3 (by decide) ?_
    refine a_icmp_ge (tgt := 60) dX11_atFirst_5 (by decide) ⟨by omega, by omega⟩ ⟨by omega, by omega⟩ (fun hb5 => ?_) (fun hb5 => ?_)
    · refine a_forget [2] (ls' := [_, _, none]) rfl (kk M hf (fun j j0 j1 => hj j j0 (by omega)))
    · exfalso; omega
  | succ n ih =>
    intro i M g0 g1 hf hj kk
    refine a_iloadn dX11_atFirst_2 rfl ?_
    refine a_bipush (w := 6) dX11_atFirst_3 (by decide) ?_
    refine a_icmp_ge (tgt := 60) dX11_atFirst_5 (by decide) ⟨by omega, by omega⟩ ⟨by omega, by omega⟩ (fun hb5 => ?_) (fun hb5 => ?_)
    · exfalso; omega
    · refine a_aloadn dX11_atFirst_8 rfl ?_
      refine a_getR (j' := 48) (y := 233) dX11_atFirst_9 flX11_85 rfl rfl (L209 L) (p209_48 hP) ?_
      refine a_bipush (w := 6) dX11_atFirst_12 (by decide) ?_
      refine a_iloadn dX11_atFirst_14 rfl ?_
      refine a_imul dX11_atFirst_15 ?_
      refine a_iloadn dX11_atFirst_16 rfl ?_
      refine a_iadd dX11_atFirst_17 ?_
      refine a_aloadn dX11_atFirst_18 rfl ?_
      refine a_getR (j' := 23) (y := 215) dX11_atFirst_19 flX11_30 rfl rfl (L209 L) (p209_23 hP) ?_
      refine a_iloadn dX11_atFirst_22 rfl ?_
      refine b_iald (N := 12) dX11_atFirst_23 (L215 L) (by decide) (by omega) (by omega) (fun hr23 => ?_)
      have e23 : M 215 i = M0 215 i := by rw [hf 215 i (by omega) (by omega) (by omega)]
      rw [e23] at hr23
      rw [e23]
      refine a_iast (N := 12) dX11_atFirst_24 (L233 L) (by decide) (by decide) (by omega) (by omega) hr23 ?_
      refine a_aloadn dX11_atFirst_25 rfl ?_
      refine a_getR (j' := 49) (y := 234) dX11_atFirst_26 flX11_88 rfl rfl (L209 L) (p209_49 hP) ?_
      refine a_bipush (w := 6) dX11_atFirst_29 (by decide) ?_
      refine a_iloadn dX11_atFirst_31 rfl ?_
      refine a_imul dX11_atFirst_32 ?_
      refine a_iloadn dX11_atFirst_33 rfl ?_
      refine a_iadd dX11_atFirst_34 ?_
      refine a_aloadn dX11_atFirst_35 rfl ?_
      refine a_getR (j' := 24) (y := 216) dX11_atFirst_36 flX11_33 rfl rfl (L209 L) (p209_24 hP) ?_
      refine a_iloadn dX11_atFirst_39 rfl ?_
      refine b_iald (N := 12) dX11_atFirst_40 (L216 L) (by decide) (by omega) (by omega) (fun hr40 => ?_)
      have e40 : (sm M 233 (6 * b + i) (M0 215 i)) 216 i = M0 216 i := by rw [sm_n (by decide), hf 216 i (by omega) (by omega) (by omega)]
      rw [e40] at hr40
      rw [e40]
      refine a_iast (N := 12) dX11_atFirst_41 (L234 L) (by decide) (by decide) (by omega) (by omega) hr40 ?_
      refine a_aloadn dX11_atFirst_42 rfl ?_
      refine a_getR (j' := 50) (y := 235) dX11_atFirst_43 flX11_91 rfl rfl (L209 L) (p209_50 hP) ?_
      refine a_bipush (w := 6) dX11_atFirst_46 (by decide) ?_
      refine a_iloadn dX11_atFirst_48 rfl ?_
      refine a_imul dX11_atFirst_49 ?_
      refine a_iloadn dX11_atFirst_50 rfl ?_
      refine a_iadd dX11_atFirst_51 ?_
      refine a_iconst dX11_atFirst_52 ?_
      refine a_iast (N := 12) dX11_atFirst_53 (L235 L) (by decide) (by decide) (by omega) (by omega) ⟨by omega, by omega⟩ ?_
      refine c_iinc (ls' := [_, _, _]) dX11_atFirst_54 rfl (by decide) rfl rfl ?_
      refine a_goto (tgt := 2) dX11_atFirst_57 (by decide) ?_
      refine ih _ _ (by omega) (by omega) (fun k j h1 h2 h3 => by
        by_cases f0 : k = 233 ∨ k = 234 ∨ k = 235
        · rcases f0 with f0 | f0 | f0 <;> subst f0
          · rw [sm_n (by decide), sm_n (by decide), sm_k, us_n (by omega)]; exact hf 233 j h1 h2 h3
          · rw [sm_n (by decide), sm_k, us_n (by omega), sm_n (by decide)]; exact hf 234 j h1 h2 h3
          · rw [sm_k, us_n (by omega), sm_n (by decide), sm_n (by decide)]; exact hf 235 j h1 h2 h3
        · rw [sm_n (by omega), sm_n (by omega), sm_n (by omega)]; exact hf k j h1 h2 h3) (fun j j0 j1 => ?_) kk
      by_cases ej : j = i
      · subst ej
        refine ⟨?_, ?_, ?_⟩
        · rw [sm_n (by decide), sm_n (by decide), sm_s]
        · rw [sm_n (by decide), sm_s]
        · rw [sm_s]
      · have h9 := hj j j0 (by omega)
        refine ⟨?_, ?_, ?_⟩
        · rw [sm_n (by decide), sm_n (by decide), sm_k, us_n (by omega)]; exact h9.1
        · rw [sm_n (by decide), sm_k, us_n (by omega), sm_n (by decide)]; exact h9.2.1
        · rw [sm_k, us_n (by omega), sm_n (by decide), sm_n (by decide)]; exact h9.2.2

set_option maxRecDepth 100000 in
set_option maxHeartbeats 4000000 in
theorem lpX11_atFirst2 {G : zG} {l : Launch} {L : Nat} {P : zP} {M0 : zM} {b : Int} (hP : PFok P) (hb : b = 0 ∨ b = 1) : ∀ (n : Nat) (i : Int) (M : zM) (g0 : 0 ≤ i) (g1 : i + n = 36) (hf : (∀ (k : Nat) (i : Int), ¬ ((k = 233 ∨ k = 234 ∨ k = 235) ∧ 6 * b ≤ i ∧ i < 6 * b + 6) → ¬ ((k = 236 ∨ k = 237) ∧ 36 * b ≤ i ∧ i < 36 * b + 36) → ¬ (k = 238 ∧ i = b) → M k i = M0 k i)) (h6 : (∀ j : Int, 0 ≤ j → j < 6 → M 233 (6 * b + j) = M0 215 j ∧ M 234 (6 * b + j) = M0 216 j ∧ M 235 (6 * b + j) = 0)) (hj : (∀ j : Int, 0 ≤ j → j < i → M 236 (36 * b + j) = 0 ∧ M 237 (36 * b + j) = 0)), AW G l mdX11_atFirst (zrel none (LAY L) P (AfR b M0)) 62 [some (aR 209), some (aI b), some (aI i)] [] (LAY L) P M 0 0 := by
  intro n
  induction n with
  | zero =>
    intro i M g0 g1 hf h6 hj
    refine a_iloadn dX11_atFirst_62 rfl ?_
    refine a_bipush (w := 36) dX11_atFirst_63 (by decide) ?_
    refine a_icmp_ge (tgt := 98) dX11_atFirst_65 (by decide) ⟨by omega, by omega⟩ ⟨by omega, by omega⟩ (fun hb65 => ?_) (fun hb65 => ?_)
    · refine a_aloadn dX11_atFirst_98 rfl ?_
      refine a_getR (j' := 53) (y := 238) dX11_atFirst_99 flX11_100 rfl rfl (L209 L) (p209_53 hP) ?_
      refine a_iloadn dX11_atFirst_102 rfl ?_
      refine a_iconst dX11_atFirst_103 ?_
      refine a_iast (N := 2) dX11_atFirst_104 (L238 L) (by decide) (by decide) (by omega) (by omega) ⟨by omega, by omega⟩ ?_
      have hr : AfR b M0 (sm M 238 b 0) := by
        refine ⟨fun j j0 j1 => ?_, fun j j0 j1 => ?_, by rw [sm_s], fun k j h1 h2 h3 => ?_⟩
        · rw [sm_n (by decide), sm_n (by decide), sm_n (by decide)]; exact h6 j j0 j1
        · rw [sm_n (by decide), sm_n (by decide)]; exact hj j j0 (by omega)
        · by_cases f0 : k = 238
          · subst f0; rw [sm_k, us_n (by omega)]; exact hf 238 j h1 h2 h3
          · rw [sm_n f0]; exact hf k j h1 h2 h3
      exact a_return dX11_atFirst_105 rfl rfl rfl (zrel_V hr)
    · exfalso; omega
  | succ n ih =>
    intro i M g0 g1 hf h6 hj
    refine a_iloadn dX11_atFirst_62 rfl ?_
    refine a_bipush (w := 36) dX11_atFirst_63 (by decide) ?_
    refine a_icmp_ge (tgt := 98) dX11_atFirst_65 (by decide) ⟨by omega, by omega⟩ ⟨by omega, by omega⟩ (fun hb65 => ?_) (fun hb65 => ?_)
    · exfalso; omega
    · refine a_aloadn dX11_atFirst_68 rfl ?_
      refine a_getR (j' := 51) (y := 236) dX11_atFirst_69 flX11_94 rfl rfl (L209 L) (p209_51 hP) ?_
      refine a_bipush (w := 36) dX11_atFirst_72 (by decide) ?_
      refine a_iloadn dX11_atFirst_74 rfl ?_
      refine a_imul dX11_atFirst_75 ?_
      refine a_iloadn dX11_atFirst_76 rfl ?_
      refine a_iadd dX11_atFirst_77 ?_
      refine a_iconst dX11_atFirst_78 ?_
      refine a_iast (N := 72) dX11_atFirst_79 (L236 L) (by decide) (by decide) (by omega) (by omega) ⟨by omega, by omega⟩ ?_
      refine a_aloadn dX11_atFirst_80 rfl ?_
      refine a_getR (j' := 52) (y := 237) dX11_atFirst_81 flX11_97 rfl rfl (L209 L) (p209_52 hP) ?_
      refine a_bipush (w := 36) dX11_atFirst_84 (by decide) ?_
      refine a_iloadn dX11_atFirst_86 rfl ?_
      refine a_imul dX11_atFirst_87 ?_
      refine a_iloadn dX11_atFirst_88 rfl ?_
      refine a_iadd dX11_atFirst_89 ?_
      refine a_iconst dX11_atFirst_90 ?_
      refine a_zast (N := 72) dX11_atFirst_91 (L237 L) (by decide) (by decide) (by omega) (by omega) (by omega) ?_
      refine c_iinc (ls' := [_, _, _]) dX11_atFirst_92 rfl (by decide) rfl rfl ?_
      refine a_goto (tgt := 62) dX11_atFirst_95 (by decide) ?_
      refine ih _ _ (by omega) (by omega) (fun k j h1 h2 h3 => by
        by_cases f0 : k = 236 ∨ k = 237
        · rcases f0 with f0 | f0 <;> subst f0
          · rw [sm_n (by decide), sm_k, us_n (by omega)]; exact hf 236 j h1 h2 h3
          · rw [sm_k, us_n (by omega), sm_n (by decide)]; exact hf 237 j h1 h2 h3
        · rw [sm_n (by omega), sm_n (by omega)]; exact hf k j h1 h2 h3) (fun j j0 j1 => ?_) (fun j j0 j1 => ?_)
      · rw [sm_n (by decide), sm_n (by decide), sm_n (by decide), sm_n (by decide), sm_n (by decide), sm_n (by decide)]; exact h6 j j0 j1
      by_cases ej : j = i
      · subst ej
        refine ⟨?_, ?_⟩
        · rw [sm_n (by decide), sm_s]
        · rw [sm_s]
      · have h9 := hj j j0 (by omega)
        refine ⟨?_, ?_⟩
        · rw [sm_n (by decide), sm_k, us_n (by omega)]; exact h9.1
        · rw [sm_k, us_n (by omega), sm_n (by decide)]; exact h9.2

set_option maxRecDepth 100000 in
set_option maxHeartbeats 4000000 in
theorem m_X11_atFirst {G : zG} {l : Launch} {L : Nat} {P : zP} {M : zM} {b : Int} (hP : PFok P) (hb : b = 0 ∨ b = 1) : AM G l yX11_atFirst mdX11_atFirst [aR 209, aI b] (LAY L) P M (zrel none (LAY L) P (AfR b M)) := by
  refine AM.go [some (aR 209), some (aI b), none] rfl (Nat.le_of_ble_eq_true rfl) ?_ (by decide) rfl rfl
  refine a_iconst dX11_atFirst_0 ?_
  refine c_istoren (ls' := [_, _, _]) dX11_atFirst_1 (by decide) rfl rfl ?_
  refine lpX11_atFirst1 hP hb 6 0 M (by omega) (by omega) (fun _ _ _ _ _ => rfl) (fun j j0 j1 => by omega) (fun M1 h1 h2 => ?_)
  refine a_iconst dX11_atFirst_60 ?_
  refine c_istoren (ls' := [_, _, _]) dX11_atFirst_61 (by decide) rfl rfl ?_
  exact lpX11_atFirst2 hP hb 36 0 M1 (by omega) (by omega) h1 h2 (fun j j0 j1 => by omega)

/-- a sight does not speak against the second state, in the reference -/
def sokR (c : Int → Int) (M Mp : zM) (n i : Int) : Int := if c i ≠ 0 ∧ M 239 (4 * i) = 1 ∧ M 239 (4 * i + 1) = n ∧ ¬ (Mp 237 (36 + M 239 (4 * i + 2)) ≠ 0 ↔ M 239 (4 * i + 3) = 1) then 0 else 1

set_option maxRecDepth 100000 in
set_option maxHeartbeats 4000000 in
theorem lpX11_isSo {G : zG} {l : Launch} {L : Nat} {P : zP} {M : zM} {x : Int} (hP : PFok P) (hn : NRI M) (rx : inR x) : ∀ (n : Nat) (k : Int) (g0 : 0 ≤ k) (g1 : k + n = knb M), AW G l mdX11_isSo (zone (LAY L) P M (fun r => r = zall (sokR (M 240) M M x) n k)) 2 [some (aR 209), some (aI x), some (aI k)] [] (LAY L) P M 0 0 := by
  intro n
  induction n with
  | zero =>
    intro k g0 g1
    have q1 := hn.1
    have q2 := knb_in hn
    refine a_iloadn dX11_isSo_2 rfl ?_
    refine a_aloadn dX11_isSo_3 rfl ?_
    refine a_callV (as := []) (q := 209) dX11_isSo_4 mvX11_442 ⟨by decide, by decide⟩ (L209 L) rfl rfl rfl (Nat.le_of_ble_eq_true rfl) ⟨rfl, rfl⟩ ⟨by decide, by decide⟩ m_knb ?_
    refine a_icmp_ge (tgt := 96) dX11_isSo_7 (by decide) ⟨by omega, by omega⟩ ⟨by omega, by omega⟩ (fun hb7 => ?_) (fun hb7 => ?_)
    · refine a_iconst dX11_isSo_96 ?_
      exact a_zreturn dX11_isSo_97 rfl rfl rfl (by omega) (zone_i rfl)
    · exfalso; omega
  | succ n ih =>
    intro k g0 g1
    have q1 := hn.1
    have q2 := knb_in hn
    refine a_iloadn dX11_isSo_2 rfl ?_
    refine a_aloadn dX11_isSo_3 rfl ?_
    refine a_callV (as := []) (q := 209) dX11_isSo_4 mvX11_442 ⟨by decide, by decide⟩ (L209 L) rfl rfl rfl (Nat.le_of_ble_eq_true rfl) ⟨rfl, rfl⟩ ⟨by decide, by decide⟩ m_knb ?_
    refine a_icmp_ge (tgt := 96) dX11_isSo_7 (by decide) ⟨by omega, by omega⟩ ⟨by omega, by omega⟩ (fun hb7 => ?_) (fun hb7 => ?_)
    · exfalso; omega
    · have q3 := hn.2.2 k (by omega) (by omega)
      refine a_aloadn dX11_isSo_10 rfl ?_
      refine a_getR (j' := 64) (y := 240) dX11_isSo_11 flX11_109 rfl rfl (L209 L) (p209_64 hP) ?_
      refine a_iloadn dX11_isSo_14 rfl ?_
      refine b_zald (N := 24) dX11_isSo_15 (L240 L) (by decide) (by omega) (by omega) (fun hr15 => ?_)
      refine a_if_eq (tgt := 90) dX11_isSo_16 (by decide) (by rcases hr15 with z | z <;> exact ⟨by omega, by omega⟩) (fun hb16 => ?_) (fun hb16 => ?_)
      · refine c_iinc (ls' := [_, _, _]) dX11_isSo_90 rfl (by decide) rfl rfl ?_
        refine a_goto (tgt := 2) dX11_isSo_93 (by decide) ?_
        simp only [zall]
        have e9 : sokR (M 240) M M x k = 1 := by
          unfold sokR
          rw [if_neg (by omega)]
        rw [if_neg (by rw [e9]; decide)]
        exact ih _ (by omega) (by omega)
      · refine a_aloadn dX11_isSo_19 rfl ?_
        refine a_getR (j' := 63) (y := 239) dX11_isSo_20 flX11_106 rfl rfl (L209 L) (p209_63 hP) ?_
        refine a_iconst dX11_isSo_23 ?_
        refine a_iloadn dX11_isSo_24 rfl ?_
        refine a_imul dX11_isSo_25 ?_
        refine b_iald (N := 96) dX11_isSo_26 (L239 L) (by decide) (by omega) (by omega) (fun hr26 => ?_)
        refine a_iconst dX11_isSo_27 ?_
        refine a_icmp_ne (tgt := 90) dX11_isSo_28 (by decide) ⟨by omega, by omega⟩ ⟨by omega, by omega⟩ (fun hb28 => ?_) (fun hb28 => ?_)
        · refine c_iinc (ls' := [_, _, _]) dX11_isSo_90 rfl (by decide) rfl rfl ?_
          refine a_goto (tgt := 2) dX11_isSo_93 (by decide) ?_
          simp only [zall]
          have e9 : sokR (M 240) M M x k = 1 := by
            unfold sokR
            rw [if_neg (by omega)]
          rw [if_neg (by rw [e9]; decide)]
          exact ih _ (by omega) (by omega)
        · refine a_aloadn dX11_isSo_31 rfl ?_
          refine a_getR (j' := 63) (y := 239) dX11_isSo_32 flX11_106 rfl rfl (L209 L) (p209_63 hP) ?_
          refine a_iconst dX11_isSo_35 ?_
          refine a_iloadn dX11_isSo_36 rfl ?_
          refine a_imul dX11_isSo_37 ?_
          refine a_iconst dX11_isSo_38 ?_
          refine a_iadd dX11_isSo_39 ?_
          refine b_iald (N := 96) dX11_isSo_40 (L239 L) (by decide) (by omega) (by omega) (fun hr40 => ?_)
          refine a_iloadn dX11_isSo_41 rfl ?_
          refine a_icmp_eq (tgt := 48) dX11_isSo_42 (by decide) hr40 rx (fun hb42 => ?_) (fun hb42 => ?_)
          · have q4 := q3.2.2.2 hb28
            refine a_aloadn dX11_isSo_48 rfl ?_
            refine a_getR (j' := 52) (y := 237) dX11_isSo_49 flX11_97 rfl rfl (L209 L) (p209_52 hP) ?_
            refine a_bipush (w := 36) dX11_isSo_52 (by decide) ?_
            refine a_aloadn dX11_isSo_54 rfl ?_
            refine a_getR (j' := 63) (y := 239) dX11_isSo_55 flX11_106 rfl rfl (L209 L) (p209_63 hP) ?_
            refine a_iconst dX11_isSo_58 ?_
            refine a_iloadn dX11_isSo_59 rfl ?_
            refine a_imul dX11_isSo_60 ?_
            refine a_iconst dX11_isSo_61 ?_
            refine a_iadd dX11_isSo_62 ?_
            refine b_iald (N := 96) dX11_isSo_63 (L239 L) (by decide) (by omega) (by omega) (fun hr63 => ?_)
            refine a_iadd dX11_isSo_64 ?_
            refine b_zald (N := 72) dX11_isSo_65 (L237 L) (by decide) (by omega) (by omega) (fun hr65 => ?_)
            refine a_aloadn dX11_isSo_66 rfl ?_
            refine a_getR (j' := 63) (y := 239) dX11_isSo_67 flX11_106 rfl rfl (L209 L) (p209_63 hP) ?_
            refine a_iconst dX11_isSo_70 ?_
            refine a_iloadn dX11_isSo_71 rfl ?_
            refine a_imul dX11_isSo_72 ?_
            refine a_iconst dX11_isSo_73 ?_
            refine a_iadd dX11_isSo_74 ?_
            refine b_iald (N := 96) dX11_isSo_75 (L239 L) (by decide) (by omega) (by omega) (fun hr75 => ?_)
            refine a_iconst dX11_isSo_76 ?_
            refine a_icmp_ne (tgt := 84) dX11_isSo_77 (by decide) hr75 ⟨by omega, by omega⟩ (fun hb77 => ?_) (fun hb77 => ?_)
            · refine a_iconst dX11_isSo_84 ?_
              refine a_icmp_eq (tgt := 90) dX11_isSo_85 (by decide) (by rcases hr65 with z | z <;> exact ⟨by omega, by omega⟩) ⟨by omega, by omega⟩ (fun hb85 => ?_) (fun hb85 => ?_)
              · refine c_iinc (ls' := [_, _, _]) dX11_isSo_90 rfl (by decide) rfl rfl ?_
                refine a_goto (tgt := 2) dX11_isSo_93 (by decide) ?_
                simp only [zall]
                have e9 : sokR (M 240) M M x k = 1 := by
                  unfold sokR
                  rw [if_neg (by omega)]
                rw [if_neg (by rw [e9]; decide)]
                exact ih _ (by omega) (by omega)
              · refine a_iconst dX11_isSo_88 ?_
                exact a_zreturn dX11_isSo_89 rfl rfl rfl (by omega) (zone_i (by
      simp only [zall]
      have e9 : sokR (M 240) M M x k = 0 := by
        unfold sokR
        rw [if_pos (by omega)]
      rw [if_pos e9]))
            · refine a_iconst dX11_isSo_80 ?_
              refine a_goto (tgt := 85) dX11_isSo_81 (by decide) ?_
              refine a_icmp_eq (tgt := 90) dX11_isSo_85 (by decide) (by rcases hr65 with z | z <;> exact ⟨by omega, by omega⟩) ⟨by omega, by omega⟩ (fun hb85 => ?_) (fun hb85 => ?_)
              · refine c_iinc (ls' := [_, _, _]) dX11_isSo_90 rfl (by decide) rfl rfl ?_
                refine a_goto (tgt := 2) dX11_isSo_93 (by decide) ?_
                simp only [zall]
                have e9 : sokR (M 240) M M x k = 1 := by
                  unfold sokR
                  rw [if_neg (by omega)]
                rw [if_neg (by rw [e9]; decide)]
                exact ih _ (by omega) (by omega)
              · refine a_iconst dX11_isSo_88 ?_
                exact a_zreturn dX11_isSo_89 rfl rfl rfl (by omega) (zone_i (by
      simp only [zall]
      have e9 : sokR (M 240) M M x k = 0 := by
        unfold sokR
        rw [if_pos (by omega)]
      rw [if_pos e9]))
          · refine a_goto (tgt := 90) dX11_isSo_45 (by decide) ?_
            refine c_iinc (ls' := [_, _, _]) dX11_isSo_90 rfl (by decide) rfl rfl ?_
            refine a_goto (tgt := 2) dX11_isSo_93 (by decide) ?_
            simp only [zall]
            have e9 : sokR (M 240) M M x k = 1 := by
              unfold sokR
              rw [if_neg (by omega)]
            rw [if_neg (by rw [e9]; decide)]
            exact ih _ (by omega) (by omega)

set_option maxRecDepth 100000 in
set_option maxHeartbeats 4000000 in
theorem m_X11_isSo {G : zG} {l : Launch} {L : Nat} {P : zP} {M : zM} {x : Int} (hP : PFok P) (hn : NRI M) (rx : inR x) : AM G l yX11_isSo mdX11_isSo [aR 209, aI x] (LAY L) P M (zone (LAY L) P M (fun r => r = zall (sokR (M 240) M M x) (knb M).toNat 0)) := by
  refine AM.go [some (aR 209), some (aI x), none] rfl (Nat.le_of_ble_eq_true rfl) ?_ (by decide) rfl rfl
  refine a_iconst dX11_isSo_0 ?_
  refine c_istoren (ls' := [_, _, _]) dX11_isSo_1 (by decide) rfl rfl ?_
  exact lpX11_isSo hP hn rx (knb M).toNat 0 (by omega) (by have := knb_in hn; omega)

/-- the second state begins as the text tells, with near k -/
def NbH (M0 : zM) (k : Int) (Mb : zM) : Prop := (∀ j : Int, 0 ≤ j → j < 6 → Mb 233 (6 * 1 + j) = M0 215 j ∧ Mb 234 (6 * 1 + j) = M0 216 j ∧ Mb 235 (6 * 1 + j) = 0) ∧ (∀ j : Int, 0 ≤ j → j < 36 → Mb 236 (36 * 1 + j) = 0 ∧ Mb 237 (36 * 1 + j) = 0) ∧ Mb 238 1 = 0 ∧ (Mb 209 55 = 0 ∧ Mb 209 56 = 0 ∧ Mb 209 57 = 0 ∧ Mb 209 58 = 0 ∧ Mb 209 59 = -1 ∧ Mb 209 60 = k) ∧ Rq M0 Mb
def NbG (M0 : zM) (k : Int) (Mb : zM) : Prop := NbH M0 k Mb ∧ Mb 240 = M0 240
theorem NbG.mk {M0 M1 : zM} (h : AfR 1 M0 M1) (k : Int) : NbG M0 k (sm (ptM M1) 209 60 k) := by
  obtain ⟨h1, h2, h3, h4⟩ := h
  have z := ptM_f M1
  refine ⟨⟨fun j j0 j1 => ?_, fun j j0 j1 => ?_, ?_, ?_, fun q j hq => ?_⟩, ?_⟩
  · rw [sm_n (by decide), sm_n (by decide), sm_n (by decide), ptM_n _ _ _ (by omega), ptM_n _ _ _ (by omega), ptM_n _ _ _ (by omega)]; exact h1 j j0 j1
  · rw [sm_n (by decide), sm_n (by decide), ptM_n _ _ _ (by omega), ptM_n _ _ _ (by omega)]; exact h2 j j0 j1
  · rw [sm_n (by decide), ptM_n _ _ _ (by omega)]; exact h3
  · rw [sm_k, us_n (by decide), us_n (by decide), us_n (by decide), us_n (by decide), us_n (by decide), us_s]
    exact ⟨z.1, z.2.1, z.2.2.1, z.2.2.2.1, z.2.2.2.2.1, rfl⟩
  · by_cases e : q = 209
    · subst e; rw [sm_k, us_n (by omega), ptM_n _ _ _ (by omega)]; exact h4 209 j (by omega) (by omega) (by omega)
    · rw [sm_n e, ptM_n _ _ _ (by omega)]; exact h4 q j (by omega) (by omega) (by omega)
  · rw [sm_n (by decide)]
    funext j
    rw [ptM_n _ _ _ (by omega)]; exact h4 240 j (by omega) (by omega) (by omega)
theorem NbH.rj {P : zP} {M0 Mb : zM} {k : Int} (hv : RV P M0) (h : NbH M0 k Mb) (hk : 0 ≤ k ∧ k ≤ 20) : RJ Mb 1 := by
  obtain ⟨a1, a2, a3, a4, a5⟩ := h
  have hT := hv.2.1.1.1
  have hn : Rn M0 Mb := ⟨a5, by rw [a4.2.2.2.2.2]; exact hk⟩
  have hv' := hn.rv hv
  refine ⟨⟨hv'.2.1.1.1, hv'.2.1.1.2.1, ⟨fun j j0 j1 => ?_, fun j j0 j1 => ?_, fun j j0 j1 => ?_, ?_⟩, hn.2⟩, hv'.2.1.2⟩
  · rw [(a1 j j0 j1).1]; exact hT.2.2.2.1 j j0 j1
  · rw [(a1 j j0 j1).2.1]; exact hT.2.2.2.2.1 j j0 j1
  · rw [(a2 j j0 j1).1]; omega
  · rw [a3]; omega
/-- does the near fit all that was seen -/
def ftG (c : Int → Int) (M0 : zM) : Nat → Int → zM → Int
  | 0, _, _ => 1
  | n + 1, i, Mp => if zall (sokR c M0 (hourR 1 Mp) i) (knb M0).toNat 0 = 0 then 0 else ftG c M0 n (i + 1) (hourR 1 Mp)
theorem ftG01 (c : Int → Int) (M0 : zM) : ∀ (n : Nat) (i : Int) (Mp : zM), ftG c M0 n i Mp = 0 ∨ ftG c M0 n i Mp = 1
  | 0, _, _ => Or.inr rfl
  | n + 1, i, Mp => by
    unfold ftG
    split
    · exact Or.inl rfl
    · exact ftG01 c M0 n (i + 1) _
theorem sokR_eq {M0 M Mp : zM} {c c' : Int → Int} {x i : Int} (h : M 239 = M0 239) (hp : M 237 = Mp 237) (hi : c i = c' i) : sokR c M M x i = sokR c' M0 Mp x i := by
  unfold sokR
  rw [h, hp, hi]

set_option maxRecDepth 100000 in
set_option maxHeartbeats 4000000 in
theorem lpX11_fits {G : zG} {l : Launch} {L : Nat} {P : zP} {M0 : zM} {k : Int} {c : Int → Int} (hP : PFok P) (hn : NRI M0) (hc : ∀ j : Int, 0 ≤ j → j < knb M0 → M0 240 j = c j) : ∀ (n : Nat) (i : Int) (M Mp : zM) (g0 : 1 ≤ i) (g1 : i + n = 61) (hE : Es Mp M) (hI : RJ Mp 1) (hh : Mp 238 1 + n ≤ 9999) (h5 : Mp 209 55 = 0) (hq : Rq M0 Mp) (h240 : Mp 240 = M0 240), AW G l mdX11_fits (zany (LAY L) P (fun r M' => Rn M0 M' ∧ M' 240 = M0 240 ∧ r = ftG c M0 n i Mp)) 16 [some (aR 209), some (aI k), some (aI i)] [] (LAY L) P M 0 0 := by
  intro n
  induction n with
  | zero =>
    intro i M Mp g0 g1 hE hI hh h5 hq h240
    have qk := knb_in hn
    refine a_iloadn dX11_fits_16 rfl ?_
    refine a_bipush (w := 60) dX11_fits_17 (by decide) ?_
    refine a_icmp_gt (tgt := 43) dX11_fits_19 (by decide) ⟨by omega, by omega⟩ ⟨by omega, by omega⟩ (fun hb19 => ?_) (fun hb19 => ?_)
    · refine a_iconst dX11_fits_43 ?_
      exact a_zreturn dX11_fits_44 rfl rfl rfl (by omega) (zany_i ⟨⟨hq.tr hE.rq, by rw [hE 209 60 (by decide) (by decide) (by omega)]; exact hI.1.2.2.2⟩, by rw [hE.row (by decide) (by decide) (by decide)]; exact h240, rfl⟩)
    · exfalso; omega
  | succ n ih =>
    intro i M Mp g0 g1 hE hI hh h5 hq h240
    have qk := knb_in hn
    refine a_iloadn dX11_fits_16 rfl ?_
    refine a_bipush (w := 60) dX11_fits_17 (by decide) ?_
    refine a_icmp_gt (tgt := 43) dX11_fits_19 (by decide) ⟨by omega, by omega⟩ ⟨by omega, by omega⟩ (fun hb19 => ?_) (fun hb19 => ?_)
    · exfalso; omega
    · have hI2 := hourR_all hI (by omega)
      have h209 := hourR_0 hI h5
      have hq2 : Rq M0 (hourR 1 Mp) := hq.tr (hI2.1.rq (by rw [h209]))
      refine a_aloadn dX11_fits_22 rfl ?_
      refine a_iconst dX11_fits_23 ?_
      refine a_relVv (as := [_]) (q := 209) dX11_fits_24 mvX11_397 ⟨by decide, by decide⟩ (L209 L) rfl rfl rfl (Nat.le_of_ble_eq_true rfl) ⟨rfl, rfl⟩ ⟨by decide, by decide⟩ (m_X11_hourGoes hP (Or.inr rfl) hE hI (by omega)) (fun M1 hM1 => ?_)
      have h240b : M1 240 = M0 240 := by rw [hM1.row (by decide) (by decide) (by decide), hI2.1.row (by omega)]; exact h240
      have hqm : Rq M0 M1 := hq2.tr hM1.rq
      have hn1 : NRI M1 := hqm.nri hn
      refine a_aloadn dX11_fits_27 rfl ?_
      refine a_iloadn dX11_fits_28 rfl ?_
      refine a_oneV (as := [_]) (q := 209) dX11_fits_29 mvX11_457 ⟨by decide, by decide⟩ (L209 L) rfl rfl rfl (Nat.le_of_ble_eq_true rfl) ⟨rfl, rfl⟩ ⟨by decide, by decide⟩ (m_X11_isSo hP hn1 ⟨by omega, by omega⟩) (fun x29 hx29 => ?_)
      have es : x29 = zall (sokR c M0 (hourR 1 Mp) i) (knb M0).toNat 0 := by
        rw [hx29, hqm.kb]
        exact zall_cong _ _ (fun q q0 q1 => by rw [sokR_eq (c' := c) (hqm.row (by omega)) (hM1.row (by decide) (by decide) (by decide)) (by rw [h240b]; exact hc q q0 (by omega))])
      have z29 := zall01 (sokR c M0 (hourR 1 Mp) i) (knb M0).toNat 0
      refine a_if_ne (tgt := 37) dX11_fits_32 (by decide) (by rcases z29 with z | z <;> exact ⟨by omega, by omega⟩) (fun hb32 => ?_) (fun hb32 => ?_)
      · refine c_iinc (ls' := [_, _, _]) dX11_fits_37 rfl (by decide) rfl rfl ?_
        refine a_goto (tgt := 16) dX11_fits_40 (by decide) ?_
        simp only [ftG]
        rw [if_neg (by omega)]
        exact ih _ _ (hourR 1 Mp) (by omega) (by omega) hM1 hI2.2.1 (by rw [hI2.2.2.1]; omega) (by rw [h209]; exact h5) hq2 (by rw [hI2.1.row (by omega)]; exact h240)
      · refine a_iconst dX11_fits_35 ?_
        exact a_zreturn dX11_fits_36 rfl rfl rfl (by omega) (zany_i ⟨⟨hqm, by rw [hM1 209 60 (by decide) (by decide) (by omega)]; exact hI2.2.1.1.2.2.2⟩, h240b, by simp only [ftG]; rw [if_pos (by omega)]⟩)

set_option maxRecDepth 100000 in
set_option maxHeartbeats 4000000 in
theorem m_X11_fits {G : zG} {l : Launch} {L : Nat} {P : zP} {M : zM} {k : Int} {c : Int → Int} (hv : RV P M) (hn : NRI M) (hk : 0 ≤ k ∧ k ≤ 20) (hc : ∀ j : Int, 0 ≤ j → j < knb M → M 240 j = c j) : AM G l yX11_fits mdX11_fits [aR 209, aI k] (LAY L) P M (zany (LAY L) P (fun r M' => Rn M M' ∧ M' 240 = M 240 ∧ ∃ Mb, NbH M k Mb ∧ r = ftG c M 60 1 Mb)) := by
  have hP := hv.1
  have q0 := hv.2.1.1.1.1
  refine AM.go [some (aR 209), some (aI k), none] rfl (Nat.le_of_ble_eq_true rfl) ?_ (by decide) rfl rfl
  refine a_aloadn dX11_fits_0 rfl ?_
  refine a_iconst dX11_fits_1 ?_
  refine a_relVv (as := [_]) (q := 209) dX11_fits_2 mvX11_315 ⟨by decide, by decide⟩ (L209 L) rfl rfl rfl (Nat.le_of_ble_eq_true rfl) ⟨rfl, rfl⟩ ⟨by decide, by decide⟩ (m_X11_atFirst hP (Or.inr rfl)) (fun M1 hM1 => ?_)
  refine a_aloadn dX11_fits_5 rfl ?_
  refine a_callVv (as := []) (q := 209) dX11_fits_6 mvX11_322 ⟨by decide, by decide⟩ (L209 L) rfl rfl rfl (Nat.le_of_ble_eq_true rfl) ⟨rfl, rfl⟩ ⟨by decide, by decide⟩ (m_X11_plainTried hP) ?_
  refine a_aloadn dX11_fits_9 rfl ?_
  refine a_iloadn dX11_fits_10 rfl ?_
  refine a_putI (j' := 60) dX11_fits_11 flX11_349 rfl rfl (L209 L) (by decide) rfl ⟨by omega, by omega⟩ ?_
  refine a_iconst dX11_fits_14 ?_
  refine c_istoren (ls' := [_, _, _]) dX11_fits_15 (by decide) rfl rfl ?_
  have hb := NbG.mk hM1 k
  have hj := hb.1.rj hv hk
  refine AW.mono2 (lpX11_fits hP hn hc 60 1 _ _ (by omega) (by omega) (Es.rf _) hj (by rw [hb.1.2.2.1]; omega) hb.1.2.2.2.1.1 hb.1.2.2.2.2 hb.2) ?_
  rintro r lay P' M' ⟨z1, z2, x, z3, z4, z5, z6⟩
  exact ⟨z1, z2, x, z3, z4, z5, _, hb.1, z6⟩

def nrG (c : Int → Int) (M0 : zM) : Nat → Int → Int → Int → Prop
  | 0, _, acc, r => r = acc
  | n + 1, k, acc, r => ∃ Mb, NbH M0 k Mb ∧ nrG c M0 n (k + 1) (if ftG c M0 60 1 Mb = 0 then acc else kset acc k) r
theorem NbH.of {M0 M Mb : zM} {k : Int} (h : Rq M0 M) (hb : NbH M k Mb) : NbH M0 k Mb := by
  obtain ⟨a1, a2, a3, a4, a5⟩ := hb
  exact ⟨by rw [← h.row (k := 215) (by omega), ← h.row (k := 216) (by omega)]; exact a1, a2, a3, a4, h.tr a5⟩
theorem sokR_q {M0 M : zM} (h : Rq M0 M) (c : Int → Int) (Mp : zM) (x i : Int) : sokR c M Mp x i = sokR c M0 Mp x i := by unfold sokR; rw [h.row (k := 239) (by omega)]
theorem ftG_q {M0 M : zM} (h : Rq M0 M) (c : Int → Int) : ∀ (n : Nat) (i : Int) (Mp : zM), ftG c M n i Mp = ftG c M0 n i Mp
  | 0, _, _ => rfl
  | n + 1, i, Mp => by
    unfold ftG
    rw [h.kb, zall_cong (f := sokR c M (hourR 1 Mp) i) (g := sokR c M0 (hourR 1 Mp) i) _ _ (fun q q0 q1 => by rw [sokR_q h]), ftG_q h c n (i + 1) _]
theorem nrG_q {M0 M : zM} (h : Rq M0 M) (c : Int → Int) : ∀ (n : Nat) (k acc r : Int), nrG c M n k acc r → nrG c M0 n k acc r
  | 0, _, _, _, z => z
  | n + 1, k, acc, r, z => by
    obtain ⟨Mb, z1, z2⟩ := z
    rw [ftG_q h] at z2
    exact ⟨Mb, z1.of h, nrG_q h c n _ _ _ z2⟩

set_option maxRecDepth 100000 in
set_option maxHeartbeats 4000000 in
theorem tlX11_nears {G : zG} {l : Launch} {L : Nat} {P : zP} {M : zM} {acc k v : Int} {Z : zZ} (hP : PFok P) (gi : v = 0 ∨ v = 1) (ga : inR acc) (kk : AW G l mdX11_nears Z 13 [some (aR 209), some (aI (if v = 0 then acc else kset acc k)), some (aI (k + 1))] [] (LAY L) P M 0 0) : AW G l mdX11_nears Z 25 [some (aR 209), some (aI acc), some (aI k)] [aI v, aI acc] (LAY L) P M 0 0 := by
  refine a_if_eq (tgt := 34) dX11_nears_25 (by decide) (by rcases gi with z | z <;> exact ⟨by omega, by omega⟩) (fun hb25 => ?_) (fun hb25 => ?_)
  · refine a_iconst dX11_nears_34 ?_
    refine a_ior dX11_nears_35 ?_
    refine c_istoren (ls' := [_, _, _]) dX11_nears_36 (by decide) rfl rfl ?_
    refine c_iinc (ls' := [_, _, _]) dX11_nears_37 rfl (by decide) rfl rfl ?_
    refine a_goto (tgt := 13) dX11_nears_40 (by decide) ?_
    first
    | (rw [if_pos (by omega)] at kk; rw [show b_ior acc 0 = acc from ior0 ga]; exact kk)
    | (rw [if_neg (by omega)] at kk; exact kk)
  · refine a_iconst dX11_nears_28 ?_
    refine a_iloadn dX11_nears_29 rfl ?_
    refine a_ishl dX11_nears_30 ?_
    refine a_goto (tgt := 35) dX11_nears_31 (by decide) ?_
    refine a_ior dX11_nears_35 ?_
    refine c_istoren (ls' := [_, _, _]) dX11_nears_36 (by decide) rfl rfl ?_
    refine c_iinc (ls' := [_, _, _]) dX11_nears_37 rfl (by decide) rfl rfl ?_
    refine a_goto (tgt := 13) dX11_nears_40 (by decide) ?_
    first
    | (rw [if_pos (by omega)] at kk; rw [show b_ior acc 0 = acc from ior0 ga]; exact kk)
    | (rw [if_neg (by omega)] at kk; exact kk)

set_option maxRecDepth 100000 in
set_option maxHeartbeats 4000000 in
theorem lpX11_nears {G : zG} {l : Launch} {L : Nat} {P : zP} {M0 : zM} {c : Int → Int} (hv : RV P M0) (hn : NRI M0) (hc : ∀ j : Int, 0 ≤ j → j < knb M0 → M0 240 j = c j) : ∀ (n : Nat) (k acc : Int) (M : zM) (g0 : 0 ≤ k) (g1 : k + n = 10) (hq0 : Rn M0 M) (h240 : M 240 = M0 240) (ga : inR acc) (Q : Int → Prop) (hQ : ∀ r, nrG c M0 n k acc r → Q r), AW G l mdX11_nears (zany (LAY L) P (fun r M' => Rn M0 M' ∧ Q r)) 13 [some (aR 209), some (aI acc), some (aI k)] [] (LAY L) P M 0 0 := by
  intro n
  induction n with
  | zero =>
    intro k acc M g0 g1 hq0 h240 ga Q hQ
    have hP := hv.1
    have hvm := hq0.rv hv
    refine a_iloadn dX11_nears_13 rfl ?_
    refine a_bipush (w := 10) dX11_nears_14 (by decide) ?_
    refine a_icmp_ge (tgt := 43) dX11_nears_16 (by decide) ⟨by omega, by omega⟩ ⟨by omega, by omega⟩ (fun hb16 => ?_) (fun hb16 => ?_)
    · refine a_aloadn dX11_nears_43 rfl ?_
      refine a_callVv (as := []) (q := 209) dX11_nears_44 mvX11_322 ⟨by decide, by decide⟩ (L209 L) rfl rfl rfl (Nat.le_of_ble_eq_true rfl) ⟨rfl, rfl⟩ ⟨by decide, by decide⟩ (m_X11_plainTried hP) ?_
      refine a_iloadn dX11_nears_47 rfl ?_
      exact a_ireturn dX11_nears_48 rfl rfl rfl (zany_i ⟨hq0.tr (ptM_rn hvm.2.1.1.1), hQ _ rfl⟩)
    · exfalso; omega
  | succ n ih =>
    intro k acc M g0 g1 hq0 h240 ga Q hQ
    have hP := hv.1
    have hvm := hq0.rv hv
    refine a_iloadn dX11_nears_13 rfl ?_
    refine a_bipush (w := 10) dX11_nears_14 (by decide) ?_
    refine a_icmp_ge (tgt := 43) dX11_nears_16 (by decide) ⟨by omega, by omega⟩ ⟨by omega, by omega⟩ (fun hb16 => ?_) (fun hb16 => ?_)
    · exfalso; omega
    · refine a_iloadn dX11_nears_19 rfl ?_
      refine a_aloadn dX11_nears_20 rfl ?_
      refine a_iloadn dX11_nears_21 rfl ?_
      refine a_anyV (as := [_]) (q := 209) dX11_nears_22 mvX11_460 ⟨by decide, by decide⟩ (L209 L) rfl rfl rfl (Nat.le_of_ble_eq_true rfl) ⟨rfl, rfl⟩ ⟨by decide, by decide⟩ (m_X11_fits hvm (hq0.1.nri hn) ⟨by omega, by omega⟩ (c := c) (fun j j0 j1 => by rw [h240]; exact hc j j0 (by rw [hq0.1.kb] at j1; exact j1))) (fun x22 M1 hM1 => ?_)
      obtain ⟨f1, f2, Mb, f3, f4⟩ := hM1
      have f5 := f3.of hq0.1
      rw [ftG_q hq0.1] at f4
      have z01 := ftG01 c M0 60 1 Mb
      rw [← f4] at z01
      exact tlX11_nears hP z01 ga (ih _ _ M1 (by omega) (by omega) (hq0.tr f1) (f2.trans h240) (by split; exact ga; exact ir _) Q (fun r hr => hQ r ⟨Mb, f5, by rw [← f4]; exact hr⟩))

set_option maxRecDepth 100000 in
set_option maxHeartbeats 4000000 in
theorem m_X11_nears {G : zG} {l : Launch} {L : Nat} {P : zP} {M : zM}  (hv : RV P M) (hn : NRI M)  : AM G l yX11_nears mdX11_nears [aR 209] (LAY L) P M (zany (LAY L) P (fun r M' => Rn M M' ∧ nrG (cntR M) M 10 0 0 r)) := by
  have hP := hv.1
  have q0 := hv.2.1.1.1.1
  refine AM.go [some (aR 209), none, none] rfl (Nat.le_of_ble_eq_true rfl) ?_ (by decide) rfl rfl
  refine a_aloadn dX11_nears_0 rfl ?_
  refine a_iconst dX11_nears_1 ?_
  refine a_putI (j' := 2) dX11_nears_2 flX11_124 rfl rfl (L209 L) (by decide) rfl ⟨by omega, by omega⟩ ?_
  obtain ⟨Mt, hMt⟩ : ∃ Mt, Mt = sm M 209 2 0 := ⟨_, rfl⟩
  rw [← hMt]
  obtain ⟨hvt, hnt, e12, eT⟩ := th_all hv hMt
  refine a_aloadn dX11_nears_5 rfl ?_
  refine a_relVv (as := []) (q := 209) dX11_nears_6 mvX11_445 ⟨by decide, by decide⟩ (L209 L) rfl rfl rfl (Nat.le_of_ble_eq_true rfl) ⟨rfl, rfl⟩ ⟨by decide, by decide⟩ (m_X11_layCounts hP (hnt.1.nri hn)) (fun M1 hM1 => ?_)
  refine a_iconst dX11_nears_9 ?_
  refine c_istoren (ls' := [_, _, _]) dX11_nears_10 (by decide) rfl rfl ?_
  refine a_iconst dX11_nears_11 ?_
  refine c_istoren (ls' := [_, _, _]) dX11_nears_12 (by decide) rfl rfl ?_
  have hr1 := hnt.tr (q240_rn hvt hM1.1)
  have hv1 := hr1.rv hv
  have ck : cntR Mt = cntR M := cntR_of hnt.1.kb (hnt.1.row (by omega))
  refine AW.mono2 (lpX11_nears hv1 (hr1.1.nri hn) (c := cntR M) (fun j j0 j1 => by rw [← ck]; exact hM1.2 j j0 (by rw [hr1.1.kb] at j1; rw [hnt.1.kb]; exact j1)) 10 0 0 M1 (by omega) (by omega) (Rn.rf hv1) rfl ⟨by omega, by omega⟩ (fun r => nrG (cntR M) M 10 0 0 r) (fun r hr => nrG_q hr1.1 _ _ _ _ _ hr)) ?_
  rintro r lay P' M' ⟨z1, z2, x, z3, z4, z5⟩
  exact ⟨z1, z2, x, z3, hr1.tr z4, z5⟩
