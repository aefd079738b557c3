set_option maxRecDepth 100000 in
set_option maxHeartbeats 4000000 in
theorem lpput1_241 {G : zG} {l : Launch} {L : Nat} {P : zP} {M0 : zM} {i0 : Int} {Z : zZ} (hP : PFok P) (hi0 : 0 ≤ i0 ∧ i0 + 90 ≤ 1800) : ∀ (n : Nat) (i : Int) (M : zM) (g0 : 0 ≤ i) (g1 : i + n = 6) (hf : (∀ (k : Nat) (i : Int), ¬ (k = 241 ∧ i0 ≤ i ∧ i < i0 + 90) → M k i = M0 k i)) (hj : (∀ j : Int, 0 ≤ j → j < i → M 241 (i0 + j) = M0 233 j ∧ M 241 (i0 + 6 + j) = M0 234 j ∧ M 241 (i0 + 12 + j) = M0 235 j)) (kk : ∀ M' : zM, (∀ (k : Nat) (i : Int), ¬ (k = 241 ∧ i0 ≤ i ∧ i < i0 + 90) → M' k i = M0 k i) → (∀ j : Int, 0 ≤ j → j < 6 → M' 241 (i0 + j) = M0 233 j ∧ M' 241 (i0 + 6 + j) = M0 234 j ∧ M' 241 (i0 + 12 + j) = M0 235 j) → AW G l mdX11_put Z 53 [some (aR 209), some (aR 241), some (aI i0), none] [] (LAY L) P M' 0 0), AW G l mdX11_put Z 2 [some (aR 209), some (aR 241), some (aI i0), some (aI i)] [] (LAY L) P M 0 0 := by
  intro n
  induction n with
  | zero =>
    intro i M g0 g1 hf hj kk
    refine a_iloadn dX11_put_2 rfl ?_
    refine a_bipush (w := 6) dX11_put_3 (by decide) ?_
    refine a_icmp_ge (tgt := 53) dX11_put_5 (by decide) ⟨by omega, by omega⟩ ⟨by omega, by omega⟩ (fun hb5 => ?_) (fun hb5 => ?_)
    · refine a_forget [3] (ls' := [_, _, _, none]) rfl (kk M hf (fun j j0 j1 => hj j j0 (by omega)))
    · exfalso; omega
  | succ n ih =>
    intro i M g0 g1 hf hj kk
    refine a_iloadn dX11_put_2 rfl ?_
    refine a_bipush (w := 6) dX11_put_3 (by decide) ?_
    refine a_icmp_ge (tgt := 53) dX11_put_5 (by decide) ⟨by omega, by omega⟩ ⟨by omega, by omega⟩ (fun hb5 => ?_) (fun hb5 => ?_)
    · exfalso; omega
    · refine a_aloadn dX11_put_8 rfl ?_
      refine a_iloadn dX11_put_9 rfl ?_
      refine a_iloadn dX11_put_10 rfl ?_
      refine a_iadd dX11_put_11 ?_
      refine a_aloadn dX11_put_12 rfl ?_
      refine a_getR (j' := 48) (y := 233) dX11_put_13 flX11_85 rfl rfl (L209 L) (p209_48 hP) ?_
      refine a_iloadn dX11_put_16 rfl ?_
      refine b_iald (N := 12) dX11_put_17 (L233 L) (by decide) (by omega) (by omega) (fun hr17 => ?_)
      have e17 : M 233 i = M0 233 i := by rw [hf 233 i (by omega)]
      rw [e17] at hr17
      rw [e17]
      refine a_iast (N := 1800) dX11_put_18 (L241 L) (by decide) (by decide) (by omega) (by omega) hr17 ?_
      refine a_aloadn dX11_put_19 rfl ?_
      refine a_iloadn dX11_put_20 rfl ?_
      refine a_bipush (w := 6) dX11_put_21 (by decide) ?_
      refine a_iadd dX11_put_23 ?_
      refine a_iloadn dX11_put_24 rfl ?_
      refine a_iadd dX11_put_25 ?_
      refine a_aloadn dX11_put_26 rfl ?_
      refine a_getR (j' := 49) (y := 234) dX11_put_27 flX11_88 rfl rfl (L209 L) (p209_49 hP) ?_
      refine a_iloadn dX11_put_30 rfl ?_
      refine b_iald (N := 12) dX11_put_31 (L234 L) (by decide) (by omega) (by omega) (fun hr31 => ?_)
      have e31 : (sm M 241 (i0 + i) (M0 233 i)) 234 i = M0 234 i := by rw [sm_n (by decide), hf 234 i (by omega)]
      rw [e31] at hr31
      rw [e31]
      refine a_iast (N := 1800) dX11_put_32 (L241 L) (by decide) (by decide) (by omega) (by omega) hr31 ?_
      refine a_aloadn dX11_put_33 rfl ?_
      refine a_iloadn dX11_put_34 rfl ?_
      refine a_bipush (w := 12) dX11_put_35 (by decide) ?_
      refine a_iadd dX11_put_37 ?_
      refine a_iloadn dX11_put_38 rfl ?_
      refine a_iadd dX11_put_39 ?_
      refine a_aloadn dX11_put_40 rfl ?_
      refine a_getR (j' := 50) (y := 235) dX11_put_41 flX11_91 rfl rfl (L209 L) (p209_50 hP) ?_
      refine a_iloadn dX11_put_44 rfl ?_
      refine b_iald (N := 12) dX11_put_45 (L235 L) (by decide) (by omega) (by omega) (fun hr45 => ?_)
      have e45 : (sm (sm M 241 (i0 + i) (M0 233 i)) 241 (i0 + 6 + i) (M0 234 i)) 235 i = M0 235 i := by rw [sm_n (by decide), sm_n (by decide), hf 235 i (by omega)]
      rw [e45] at hr45
      rw [e45]
      refine a_iast (N := 1800) dX11_put_46 (L241 L) (by decide) (by decide) (by omega) (by omega) hr45 ?_
      refine c_iinc (ls' := [_, _, _, _]) dX11_put_47 rfl (by decide) rfl rfl ?_
      refine a_goto (tgt := 2) dX11_put_50 (by decide) ?_
      refine ih _ _ (by omega) (by omega) (fun k j hk => by
        by_cases e9 : k = 241
        · subst e9
          rw [sm_k, us_n (by omega), sm_k, us_n (by omega), sm_k, us_n (by omega)]; exact hf 241 j hk
        · rw [sm_n e9, sm_n e9, sm_n e9]; exact hf k j hk) (fun j j0 j1 => ?_) kk
      by_cases ej : j = i
      · subst ej
        refine ⟨?_, ?_, ?_⟩
        · rw [sm_k, us_n (by omega), sm_k, us_n (by omega), sm_s]
        · rw [sm_k, us_n (by omega), sm_s]
        · rw [sm_s]
      · have h9 := hj j j0 (by omega)
        refine ⟨?_, ?_, ?_⟩
        · rw [sm_k, us_n (by omega), sm_k, us_n (by omega), sm_k, us_n (by omega)]; exact h9.1
        · rw [sm_k, us_n (by omega), sm_k, us_n (by omega), sm_k, us_n (by omega)]; exact h9.2.1
        · rw [sm_k, us_n (by omega), sm_k, us_n (by omega), sm_k, us_n (by omega)]; exact h9.2.2

set_option maxRecDepth 100000 in
set_option maxHeartbeats 4000000 in
theorem lpput2_241 {G : zG} {l : Launch} {L : Nat} {P : zP} {M0 : zM} {i0 : Int} (hP : PFok P) (hi0 : 0 ≤ i0 ∧ i0 + 90 ≤ 1800) : ∀ (n : Nat) (i : Int) (M : zM) (g0 : 0 ≤ i) (g1 : i + n = 36) (hf : (∀ (k : Nat) (i : Int), ¬ (k = 241 ∧ i0 ≤ i ∧ i < i0 + 90) → M k i = M0 k i)) (h6 : (∀ j : Int, 0 ≤ j → j < 6 → M 241 (i0 + j) = M0 233 j ∧ M 241 (i0 + 6 + j) = M0 234 j ∧ M 241 (i0 + 12 + j) = M0 235 j)) (hj : (∀ j : Int, 0 ≤ j → j < i → M 241 (i0 + 18 + j) = M0 236 j ∧ M 241 (i0 + 54 + j) = M0 237 j)), AW G l mdX11_put (zrel none (LAY L) P (PutR 241 i0 M0)) 55 [some (aR 209), some (aR 241), some (aI i0), some (aI i)] [] (LAY L) P M 0 0 := by
  intro n
  induction n with
  | zero =>
    intro i M g0 g1 hf h6 hj
    refine a_iloadn dX11_put_55 rfl ?_
    refine a_bipush (w := 36) dX11_put_56 (by decide) ?_
    refine a_icmp_ge (tgt := 103) dX11_put_58 (by decide) ⟨by omega, by omega⟩ ⟨by omega, by omega⟩ (fun hb58 => ?_) (fun hb58 => ?_)
    · exact a_return dX11_put_103 rfl rfl rfl (zrel_V ⟨h6, fun j j0 j1 => hj j j0 (by omega), hf⟩)
    · exfalso; omega
  | succ n ih =>
    intro i M g0 g1 hf h6 hj
    refine a_iloadn dX11_put_55 rfl ?_
    refine a_bipush (w := 36) dX11_put_56 (by decide) ?_
    refine a_icmp_ge (tgt := 103) dX11_put_58 (by decide) ⟨by omega, by omega⟩ ⟨by omega, by omega⟩ (fun hb58 => ?_) (fun hb58 => ?_)
    · exfalso; omega
    · refine a_aloadn dX11_put_61 rfl ?_
      refine a_iloadn dX11_put_62 rfl ?_
      refine a_bipush (w := 18) dX11_put_63 (by decide) ?_
      refine a_iadd dX11_put_65 ?_
      refine a_iloadn dX11_put_66 rfl ?_
      refine a_iadd dX11_put_67 ?_
      refine a_aloadn dX11_put_68 rfl ?_
      refine a_getR (j' := 51) (y := 236) dX11_put_69 flX11_94 rfl rfl (L209 L) (p209_51 hP) ?_
      refine a_iloadn dX11_put_72 rfl ?_
      refine b_iald (N := 72) dX11_put_73 (L236 L) (by decide) (by omega) (by omega) (fun hr73 => ?_)
      have e73 : M 236 i = M0 236 i := by rw [hf 236 i (by omega)]
      rw [e73] at hr73
      rw [e73]
      refine a_iast (N := 1800) dX11_put_74 (L241 L) (by decide) (by decide) (by omega) (by omega) hr73 ?_
      refine a_aloadn dX11_put_75 rfl ?_
      refine a_iloadn dX11_put_76 rfl ?_
      refine a_bipush (w := 54) dX11_put_77 (by decide) ?_
      refine a_iadd dX11_put_79 ?_
      refine a_iloadn dX11_put_80 rfl ?_
      refine a_iadd dX11_put_81 ?_
      refine a_aloadn dX11_put_82 rfl ?_
      refine a_getR (j' := 52) (y := 237) dX11_put_83 flX11_97 rfl rfl (L209 L) (p209_52 hP) ?_
      refine a_iloadn dX11_put_86 rfl ?_
      refine b_zald (N := 72) dX11_put_87 (L237 L) (by decide) (by omega) (by omega) (fun hr87 => ?_)
      have e87 : (sm M 241 (i0 + 18 + i) (M0 236 i)) 237 i = M0 237 i := by rw [sm_n (by decide), hf 237 i (by omega)]
      rw [e87] at hr87
      rw [e87]
      refine a_if_eq (tgt := 95) dX11_put_88 (by decide) (by rcases hr87 with z | z <;> exact ⟨by omega, by omega⟩) (fun hb88 => ?_) (fun hb88 => ?_)
      · refine a_iconst dX11_put_95 ?_
        refine a_iast (N := 1800) dX11_put_96 (L241 L) (by decide) (by decide) (by omega) (by omega) ⟨by omega, by omega⟩ ?_
        refine c_iinc (ls' := [_, _, _, _]) dX11_put_97 rfl (by decide) rfl rfl ?_
        refine a_goto (tgt := 55) dX11_put_100 (by decide) ?_
        refine ih _ _ (by omega) (by omega) (fun k j hk => by
          by_cases e9 : k = 241
          · subst e9
            rw [sm_k, us_n (by omega), sm_k, us_n (by omega)]; exact hf 241 j hk
          · rw [sm_n e9, sm_n e9]; exact hf k j hk) (fun j j0 j1 => ?_) (fun j j0 j1 => ?_)
        · rw [sm_k, us_n (by omega), sm_k, us_n (by omega), us_n (by omega), us_n (by omega), us_n (by omega), us_n (by omega)]; exact h6 j j0 j1
        by_cases ej : j = i
        · subst ej
          refine ⟨?_, ?_⟩
          · rw [sm_k, us_n (by omega), sm_s]
          · rw [sm_s]; omega
        · have h9 := hj j j0 (by omega)
          refine ⟨?_, ?_⟩
          · rw [sm_k, us_n (by omega), sm_k, us_n (by omega)]; exact h9.1
          · rw [sm_k, us_n (by omega), sm_k, us_n (by omega)]; exact h9.2
      · refine a_iconst dX11_put_91 ?_
        refine a_goto (tgt := 96) dX11_put_92 (by decide) ?_
        refine a_iast (N := 1800) dX11_put_96 (L241 L) (by decide) (by decide) (by omega) (by omega) ⟨by omega, by omega⟩ ?_
        refine c_iinc (ls' := [_, _, _, _]) dX11_put_97 rfl (by decide) rfl rfl ?_
        refine a_goto (tgt := 55) dX11_put_100 (by decide) ?_
        refine ih _ _ (by omega) (by omega) (fun k j hk => by
          by_cases e9 : k = 241
          · subst e9
            rw [sm_k, us_n (by omega), sm_k, us_n (by omega)]; exact hf 241 j hk
          · rw [sm_n e9, sm_n e9]; exact hf k j hk) (fun j j0 j1 => ?_) (fun j j0 j1 => ?_)
        · rw [sm_k, us_n (by omega), sm_k, us_n (by omega), us_n (by omega), us_n (by omega), us_n (by omega), us_n (by omega)]; exact h6 j j0 j1
        by_cases ej : j = i
        · subst ej
          refine ⟨?_, ?_⟩
          · rw [sm_k, us_n (by omega), sm_s]
          · rw [sm_s]; omega
        · have h9 := hj j j0 (by omega)
          refine ⟨?_, ?_⟩
          · rw [sm_k, us_n (by omega), sm_k, us_n (by omega)]; exact h9.1
          · rw [sm_k, us_n (by omega), sm_k, us_n (by omega)]; exact h9.2

set_option maxRecDepth 100000 in
set_option maxHeartbeats 4000000 in
theorem m_put241 {G : zG} {l : Launch} {L : Nat} {P : zP} {M : zM} {i0 : Int} (hP : PFok P) (hi0 : 0 ≤ i0 ∧ i0 + 90 ≤ 1800) : AM G l yX11_put mdX11_put [aR 209, aR 241, aI i0] (LAY L) P M (zrel none (LAY L) P (PutR 241 i0 M)) := by
  refine AM.go [some (aR 209), some (aR 241), some (aI i0), none] rfl (Nat.le_of_ble_eq_true rfl) ?_ (by decide) rfl rfl
  refine a_iconst dX11_put_0 ?_
  refine c_istoren (ls' := [_, _, _, _]) dX11_put_1 (by decide) rfl rfl ?_
  refine lpput1_241 hP hi0 6 0 M (by omega) (by omega) (fun _ _ _ => rfl) (fun j j0 j1 => by omega) (fun M1 h1 h2 => ?_)
  refine a_iconst dX11_put_53 ?_
  refine c_istoren (ls' := [_, _, _, _]) dX11_put_54 (by decide) rfl rfl ?_
  exact lpput2_241 hP hi0 36 0 M1 (by omega) (by omega) h1 h2 (fun j j0 j1 => by omega)

set_option maxRecDepth 100000 in
set_option maxHeartbeats 4000000 in
theorem lptake1_241 {G : zG} {l : Launch} {L : Nat} {P : zP} {M0 : zM} {i0 : Int} {Z : zZ} (hP : PFok P) (hi0 : 0 ≤ i0 ∧ i0 + 90 ≤ 1800) : ∀ (n : Nat) (i : Int) (M : zM) (g0 : 0 ≤ i) (g1 : i + n = 6) (hf : (∀ (k : Nat) (i : Int), ¬ ((k = 233 ∨ k = 234 ∨ k = 235) ∧ 0 ≤ i ∧ i < 6) → ¬ ((k = 236 ∨ k = 237) ∧ 0 ≤ i ∧ i < 36) → M k i = M0 k i)) (hj : (∀ j : Int, 0 ≤ j → j < i → M 233 j = M0 241 (i0 + j) ∧ M 234 j = M0 241 (i0 + 6 + j) ∧ M 235 j = M0 241 (i0 + 12 + j))) (kk : ∀ M' : zM, (∀ (k : Nat) (i : Int), ¬ ((k = 233 ∨ k = 234 ∨ k = 235) ∧ 0 ≤ i ∧ i < 6) → ¬ ((k = 236 ∨ k = 237) ∧ 0 ≤ i ∧ i < 36) → M' k i = M0 k i) → (∀ j : Int, 0 ≤ j → j < 6 → M' 233 j = M0 241 (i0 + j) ∧ M' 234 j = M0 241 (i0 + 6 + j) ∧ M' 235 j = M0 241 (i0 + 12 + j)) → AW G l mdX11_take Z 53 [some (aR 209), some (aR 241), some (aI i0), none] [] (LAY L) P M' 0 0), AW G l mdX11_take Z 2 [some (aR 209), some (aR 241), some (aI i0), some (aI i)] [] (LAY L) P M 0 0 := by
  intro n
  induction n with
  | zero =>
    intro i M g0 g1 hf hj kk
    refine a_iloadn dX11_take_2 rfl ?_
    refine a_bipush (w := 6) dX11_take_3 (by decide) ?_
    refine a_icmp_ge (tgt := 53) dX11_take_5 (by decide) ⟨by omega, by omega⟩ ⟨by omega, by omega⟩ (fun hb5 => ?_) (fun hb5 => ?_)
    · refine a_forget [3] (ls' := [_, _, _, none]) rfl (kk M hf (fun j j0 j1 => hj j j0 (by omega)))
    · exfalso; omega
  | succ n ih =>
    intro i M g0 g1 hf hj kk
    refine a_iloadn dX11_take_2 rfl ?_
    refine a_bipush (w := 6) dX11_take_3 (by decide) ?_
    refine a_icmp_ge (tgt := 53) dX11_take_5 (by decide) ⟨by omega, by omega⟩ ⟨by omega, by omega⟩ (fun hb5 => ?_) (fun hb5 => ?_)
    · exfalso; omega
    · refine a_aloadn dX11_take_8 rfl ?_
      refine a_getR (j' := 48) (y := 233) dX11_take_9 flX11_85 rfl rfl (L209 L) (p209_48 hP) ?_
      refine a_iloadn dX11_take_12 rfl ?_
      refine a_aloadn dX11_take_13 rfl ?_
      refine a_iloadn dX11_take_14 rfl ?_
      refine a_iloadn dX11_take_15 rfl ?_
      refine a_iadd dX11_take_16 ?_
      refine b_iald (N := 1800) dX11_take_17 (L241 L) (by decide) (by omega) (by omega) (fun hr17 => ?_)
      have e17 : M 241 (i0 + i) = M0 241 (i0 + i) := by rw [hf 241 _ (by omega) (by omega)]
      rw [e17] at hr17
      rw [e17]
      refine a_iast (N := 12) dX11_take_18 (L233 L) (by decide) (by decide) (by omega) (by omega) hr17 ?_
      refine a_aloadn dX11_take_19 rfl ?_
      refine a_getR (j' := 49) (y := 234) dX11_take_20 flX11_88 rfl rfl (L209 L) (p209_49 hP) ?_
      refine a_iloadn dX11_take_23 rfl ?_
      refine a_aloadn dX11_take_24 rfl ?_
      refine a_iloadn dX11_take_25 rfl ?_
      refine a_bipush (w := 6) dX11_take_26 (by decide) ?_
      refine a_iadd dX11_take_28 ?_
      refine a_iloadn dX11_take_29 rfl ?_
      refine a_iadd dX11_take_30 ?_
      refine b_iald (N := 1800) dX11_take_31 (L241 L) (by decide) (by omega) (by omega) (fun hr31 => ?_)
      have e31 : (sm M 233 i (M0 241 (i0 + i))) 241 (i0 + 6 + i) = M0 241 (i0 + 6 + i) := by rw [sm_n (by decide), hf 241 _ (by omega) (by omega)]
      rw [e31] at hr31
      rw [e31]
      refine a_iast (N := 12) dX11_take_32 (L234 L) (by decide) (by decide) (by omega) (by omega) hr31 ?_
      refine a_aloadn dX11_take_33 rfl ?_
      refine a_getR (j' := 50) (y := 235) dX11_take_34 flX11_91 rfl rfl (L209 L) (p209_50 hP) ?_
      refine a_iloadn dX11_take_37 rfl ?_
      refine a_aloadn dX11_take_38 rfl ?_
      refine a_iloadn dX11_take_39 rfl ?_
      refine a_bipush (w := 12) dX11_take_40 (by decide) ?_
      refine a_iadd dX11_take_42 ?_
      refine a_iloadn dX11_take_43 rfl ?_
      refine a_iadd dX11_take_44 ?_
      refine b_iald (N := 1800) dX11_take_45 (L241 L) (by decide) (by omega) (by omega) (fun hr45 => ?_)
      have e45 : (sm (sm M 233 i (M0 241 (i0 + i))) 234 i (M0 241 (i0 + 6 + i))) 241 (i0 + 12 + i) = M0 241 (i0 + 12 + i) := by rw [sm_n (by decide), sm_n (by decide), hf 241 _ (by omega) (by omega)]
      rw [e45] at hr45
      rw [e45]
      refine a_iast (N := 12) dX11_take_46 (L235 L) (by decide) (by decide) (by omega) (by omega) hr45 ?_
      refine c_iinc (ls' := [_, _, _, _]) dX11_take_47 rfl (by decide) rfl rfl ?_
      refine a_goto (tgt := 2) dX11_take_50 (by decide) ?_
      refine ih _ _ (by omega) (by omega) (fun k j hk hk2 => ?_) (fun j j0 j1 => ?_) kk
      · unfold sm ur us
        by_cases e3 : k = 235
        · subst e3; simp; rw [if_neg (by omega)]; exact hf 235 j hk hk2
        · by_cases e2 : k = 234
          · subst e2; simp; rw [if_neg (by omega)]; exact hf 234 j hk hk2
          · by_cases e1 : k = 233
            · subst e1; simp; rw [if_neg (by omega)]; exact hf 233 j hk hk2
            · simp [e1, e2, e3]; exact hf k j hk hk2
      by_cases ej : j = i
      · subst ej
        refine ⟨?_, ?_, ?_⟩
        · rw [sm_n (by decide), sm_n (by decide), sm_s]
        · rw [sm_n (by decide), sm_s]
        · rw [sm_s]
      · have h9 := hj j j0 (by omega)
        refine ⟨?_, ?_, ?_⟩
        · rw [sm_n (by decide), sm_n (by decide), sm_k, us_n ej]; exact h9.1
        · rw [sm_n (by decide), sm_k, us_n ej, sm_n (by decide)]; exact h9.2.1
        · rw [sm_k, us_n ej, sm_n (by decide), sm_n (by decide)]; exact h9.2.2

set_option maxRecDepth 100000 in
set_option maxHeartbeats 4000000 in
theorem lptake2_241 {G : zG} {l : Launch} {L : Nat} {P : zP} {M0 : zM} {i0 : Int} (hP : PFok P) (hi0 : 0 ≤ i0 ∧ i0 + 90 ≤ 1800) : ∀ (n : Nat) (i : Int) (M : zM) (g0 : 0 ≤ i) (g1 : i + n = 36) (hf : (∀ (k : Nat) (i : Int), ¬ ((k = 233 ∨ k = 234 ∨ k = 235) ∧ 0 ≤ i ∧ i < 6) → ¬ ((k = 236 ∨ k = 237) ∧ 0 ≤ i ∧ i < 36) → M k i = M0 k i)) (h6 : (∀ j : Int, 0 ≤ j → j < 6 → M 233 j = M0 241 (i0 + j) ∧ M 234 j = M0 241 (i0 + 6 + j) ∧ M 235 j = M0 241 (i0 + 12 + j))) (hj : (∀ j : Int, 0 ≤ j → j < i → M 236 j = M0 241 (i0 + 18 + j) ∧ M 237 j = if M0 241 (i0 + 54 + j) = 1 then 1 else 0)), AW G l mdX11_take (zrel none (LAY L) P (TakR 241 i0 M0)) 55 [some (aR 209), some (aR 241), some (aI i0), some (aI i)] [] (LAY L) P M 0 0 := by
  intro n
  induction n with
  | zero =>
    intro i M g0 g1 hf h6 hj
    refine a_iloadn dX11_take_55 rfl ?_
    refine a_bipush (w := 36) dX11_take_56 (by decide) ?_
    refine a_icmp_ge (tgt := 104) dX11_take_58 (by decide) ⟨by omega, by omega⟩ ⟨by omega, by omega⟩ (fun hb58 => ?_) (fun hb58 => ?_)
    · exact a_return dX11_take_104 rfl rfl rfl (zrel_V ⟨h6, fun j j0 j1 => hj j j0 (by omega), hf⟩)
    · exfalso; omega
  | succ n ih =>
    intro i M g0 g1 hf h6 hj
    refine a_iloadn dX11_take_55 rfl ?_
    refine a_bipush (w := 36) dX11_take_56 (by decide) ?_
    refine a_icmp_ge (tgt := 104) dX11_take_58 (by decide) ⟨by omega, by omega⟩ ⟨by omega, by omega⟩ (fun hb58 => ?_) (fun hb58 => ?_)
    · exfalso; omega
    · refine a_aloadn dX11_take_61 rfl ?_
      refine a_getR (j' := 51) (y := 236) dX11_take_62 flX11_94 rfl rfl (L209 L) (p209_51 hP) ?_
      refine a_iloadn dX11_take_65 rfl ?_
      refine a_aloadn dX11_take_66 rfl ?_
      refine a_iloadn dX11_take_67 rfl ?_
      refine a_bipush (w := 18) dX11_take_68 (by decide) ?_
      refine a_iadd dX11_take_70 ?_
      refine a_iloadn dX11_take_71 rfl ?_
      refine a_iadd dX11_take_72 ?_
      refine b_iald (N := 1800) dX11_take_73 (L241 L) (by decide) (by omega) (by omega) (fun hr73 => ?_)
      have e73 : M 241 (i0 + 18 + i) = M0 241 (i0 + 18 + i) := by rw [hf 241 _ (by omega) (by omega)]
      rw [e73] at hr73
      rw [e73]
      refine a_iast (N := 72) dX11_take_74 (L236 L) (by decide) (by decide) (by omega) (by omega) hr73 ?_
      refine a_aloadn dX11_take_75 rfl ?_
      refine a_getR (j' := 52) (y := 237) dX11_take_76 flX11_97 rfl rfl (L209 L) (p209_52 hP) ?_
      refine a_iloadn dX11_take_79 rfl ?_
      refine a_aloadn dX11_take_80 rfl ?_
      refine a_iloadn dX11_take_81 rfl ?_
      refine a_bipush (w := 54) dX11_take_82 (by decide) ?_
      refine a_iadd dX11_take_84 ?_
      refine a_iloadn dX11_take_85 rfl ?_
      refine a_iadd dX11_take_86 ?_
      refine b_iald (N := 1800) dX11_take_87 (L241 L) (by decide) (by omega) (by omega) (fun hr87 => ?_)
      have e87 : (sm M 236 i (M0 241 (i0 + 18 + i))) 241 (i0 + 54 + i) = M0 241 (i0 + 54 + i) := by rw [sm_n (by decide), hf 241 _ (by omega) (by omega)]
      rw [e87] at hr87
      rw [e87]
      refine a_iconst dX11_take_88 ?_
      refine a_icmp_ne (tgt := 96) dX11_take_89 (by decide) hr87 ⟨by omega, by omega⟩ (fun hb89 => ?_) (fun hb89 => ?_)
      · refine a_iconst dX11_take_96 ?_
        refine a_zast (N := 72) dX11_take_97 (L237 L) (by decide) (by decide) (by omega) (by omega) (by omega) ?_
        refine c_iinc (ls' := [_, _, _, _]) dX11_take_98 rfl (by decide) rfl rfl ?_
        refine a_goto (tgt := 55) dX11_take_101 (by decide) ?_
        refine ih _ _ (by omega) (by omega) (fun k j hk hk2 => ?_) (fun j j0 j1 => ?_) (fun j j0 j1 => ?_)
        · unfold sm ur us
          by_cases e3 : k = 237
          · subst e3; simp; rw [if_neg (by omega)]; exact hf 237 j hk hk2
          · by_cases e2 : k = 236
            · subst e2; simp; rw [if_neg (by omega)]; exact hf 236 j hk hk2
            · simp [e2, e3]; exact hf k j hk hk2
        · rw [sm_n (by decide), sm_n (by decide), sm_n (by decide), sm_n (by decide), sm_n (by decide), sm_n (by decide)]; exact h6 j j0 j1
        by_cases ej : j = i
        · subst ej
          refine ⟨?_, ?_⟩
          · rw [sm_n (by decide), sm_s]
          · rw [sm_s]
            first
            | (rw [if_pos (by omega)]; done)
            | (rw [if_neg (by omega)]; done)
        · have h9 := hj j j0 (by omega)
          refine ⟨?_, ?_⟩
          · rw [sm_n (by decide), sm_k, us_n ej]; exact h9.1
          · rw [sm_k, us_n ej, sm_n (by decide)]; exact h9.2
      · refine a_iconst dX11_take_92 ?_
        refine a_goto (tgt := 97) dX11_take_93 (by decide) ?_
        refine a_zast (N := 72) dX11_take_97 (L237 L) (by decide) (by decide) (by omega) (by omega) (by omega) ?_
        refine c_iinc (ls' := [_, _, _, _]) dX11_take_98 rfl (by decide) rfl rfl ?_
        refine a_goto (tgt := 55) dX11_take_101 (by decide) ?_
        refine ih _ _ (by omega) (by omega) (fun k j hk hk2 => ?_) (fun j j0 j1 => ?_) (fun j j0 j1 => ?_)
        · unfold sm ur us
          by_cases e3 : k = 237
          · subst e3; simp; rw [if_neg (by omega)]; exact hf 237 j hk hk2
          · by_cases e2 : k = 236
            · subst e2; simp; rw [if_neg (by omega)]; exact hf 236 j hk hk2
            · simp [e2, e3]; exact hf k j hk hk2
        · rw [sm_n (by decide), sm_n (by decide), sm_n (by decide), sm_n (by decide), sm_n (by decide), sm_n (by decide)]; exact h6 j j0 j1
        by_cases ej : j = i
        · subst ej
          refine ⟨?_, ?_⟩
          · rw [sm_n (by decide), sm_s]
          · rw [sm_s]
            first
            | (rw [if_pos (by omega)]; done)
            | (rw [if_neg (by omega)]; done)
        · have h9 := hj j j0 (by omega)
          refine ⟨?_, ?_⟩
          · rw [sm_n (by decide), sm_k, us_n ej]; exact h9.1
          · rw [sm_k, us_n ej, sm_n (by decide)]; exact h9.2

set_option maxRecDepth 100000 in
set_option maxHeartbeats 4000000 in
theorem m_take241 {G : zG} {l : Launch} {L : Nat} {P : zP} {M : zM} {i0 : Int} (hP : PFok P) (hi0 : 0 ≤ i0 ∧ i0 + 90 ≤ 1800) : AM G l yX11_take mdX11_take [aR 209, aR 241, aI i0] (LAY L) P M (zrel none (LAY L) P (TakR 241 i0 M)) := by
  refine AM.go [some (aR 209), some (aR 241), some (aI i0), none] rfl (Nat.le_of_ble_eq_true rfl) ?_ (by decide) rfl rfl
  refine a_iconst dX11_take_0 ?_
  refine c_istoren (ls' := [_, _, _, _]) dX11_take_1 (by decide) rfl rfl ?_
  refine lptake1_241 hP hi0 6 0 M (by omega) (by omega) (fun _ _ _ _ => rfl) (fun j j0 j1 => by omega) (fun M1 h1 h2 => ?_)
  refine a_iconst dX11_take_53 ?_
  refine c_istoren (ls' := [_, _, _, _]) dX11_take_54 (by decide) rfl rfl ?_
  exact lptake2_241 hP hi0 36 0 M1 (by omega) (by omega) h1 h2 (fun j j0 j1 => by omega)

set_option maxRecDepth 100000 in
set_option maxHeartbeats 4000000 in
theorem lpput1_242 {G : zG} {l : Launch} {L : Nat} {P : zP} {M0 : zM} {i0 : Int} {Z : zZ} (hP : PFok P) (hi0 : 0 ≤ i0 ∧ i0 + 90 ≤ 90) : ∀ (n : Nat) (i : Int) (M : zM) (g0 : 0 ≤ i) (g1 : i + n = 6) (hf : (∀ (k : Nat) (i : Int), ¬ (k = 242 ∧ i0 ≤ i ∧ i < i0 + 90) → M k i = M0 k i)) (hj : (∀ j : Int, 0 ≤ j → j < i → M 242 (i0 + j) = M0 233 j ∧ M 242 (i0 + 6 + j) = M0 234 j ∧ M 242 (i0 + 12 + j) = M0 235 j)) (kk : ∀ M' : zM, (∀ (k : Nat) (i : Int), ¬ (k = 242 ∧ i0 ≤ i ∧ i < i0 + 90) → M' k i = M0 k i) → (∀ j : Int, 0 ≤ j → j < 6 → M' 242 (i0 + j) = M0 233 j ∧ M' 242 (i0 + 6 + j) = M0 234 j ∧ M' 242 (i0 + 12 + j) = M0 235 j) → AW G l mdX11_put Z 53 [some (aR 209), some (aR 242), some (aI i0), none] [] (LAY L) P M' 0 0), AW G l mdX11_put Z 2 [some (aR 209), some (aR 242), some (aI i0), some (aI i)] [] (LAY L) P M 0 0 := by
  intro n
  induction n with
  | zero =>
    intro i M g0 g1 hf hj kk
    refine a_iloadn dX11_put_2 rfl ?_
    refine a_bipush (w := 6) dX11_put_3 (by decide) ?_
    refine a_icmp_ge (tgt := 53) dX11_put_5 (by decide) ⟨by omega, by omega⟩ ⟨by omega, by omega⟩ (fun hb5 => ?_) (fun hb5 => ?_)
    · refine a_forget [3] (ls' := [_, _, _, none]) rfl (kk M hf (fun j j0 j1 => hj j j0 (by omega)))
    · exfalso; omega
  | succ n ih =>
    intro i M g0 g1 hf hj kk
    refine a_iloadn dX11_put_2 rfl ?_
    refine a_bipush (w := 6) dX11_put_3 (by decide) ?_
    refine a_icmp_ge (tgt := 53) dX11_put_5 (by decide) ⟨by omega, by omega⟩ ⟨by omega, by omega⟩ (fun hb5 => ?_) (fun hb5 => ?_)
    · exfalso; omega
    · refine a_aloadn dX11_put_8 rfl ?_
      refine a_iloadn dX11_put_9 rfl ?_
      refine a_iloadn dX11_put_10 rfl ?_
      refine a_iadd dX11_put_11 ?_
      refine a_aloadn dX11_put_12 rfl ?_
      refine a_getR (j' := 48) (y := 233) dX11_put_13 flX11_85 rfl rfl (L209 L) (p209_48 hP) ?_
      refine a_iloadn dX11_put_16 rfl ?_
      refine b_iald (N := 12) dX11_put_17 (L233 L) (by decide) (by omega) (by omega) (fun hr17 => ?_)
      have e17 : M 233 i = M0 233 i := by rw [hf 233 i (by omega)]
      rw [e17] at hr17
      rw [e17]
      refine a_iast (N := 90) dX11_put_18 (L242 L) (by decide) (by decide) (by omega) (by omega) hr17 ?_
      refine a_aloadn dX11_put_19 rfl ?_
      refine a_iloadn dX11_put_20 rfl ?_
      refine a_bipush (w := 6) dX11_put_21 (by decide) ?_
      refine a_iadd dX11_put_23 ?_
      refine a_iloadn dX11_put_24 rfl ?_
      refine a_iadd dX11_put_25 ?_
      refine a_aloadn dX11_put_26 rfl ?_
      refine a_getR (j' := 49) (y := 234) dX11_put_27 flX11_88 rfl rfl (L209 L) (p209_49 hP) ?_
      refine a_iloadn dX11_put_30 rfl ?_
      refine b_iald (N := 12) dX11_put_31 (L234 L) (by decide) (by omega) (by omega) (fun hr31 => ?_)
      have e31 : (sm M 242 (i0 + i) (M0 233 i)) 234 i = M0 234 i := by rw [sm_n (by decide), hf 234 i (by omega)]
      rw [e31] at hr31
      rw [e31]
      refine a_iast (N := 90) dX11_put_32 (L242 L) (by decide) (by decide) (by omega) (by omega) hr31 ?_
      refine a_aloadn dX11_put_33 rfl ?_
      refine a_iloadn dX11_put_34 rfl ?_
      refine a_bipush (w := 12) dX11_put_35 (by decide) ?_
      refine a_iadd dX11_put_37 ?_
      refine a_iloadn dX11_put_38 rfl ?_
      refine a_iadd dX11_put_39 ?_
      refine a_aloadn dX11_put_40 rfl ?_
      refine a_getR (j' := 50) (y := 235) dX11_put_41 flX11_91 rfl rfl (L209 L) (p209_50 hP) ?_
      refine a_iloadn dX11_put_44 rfl ?_
      refine b_iald (N := 12) dX11_put_45 (L235 L) (by decide) (by omega) (by omega) (fun hr45 => ?_)
      have e45 : (sm (sm M 242 (i0 + i) (M0 233 i)) 242 (i0 + 6 + i) (M0 234 i)) 235 i = M0 235 i := by rw [sm_n (by decide), sm_n (by decide), hf 235 i (by omega)]
      rw [e45] at hr45
      rw [e45]
      refine a_iast (N := 90) dX11_put_46 (L242 L) (by decide) (by decide) (by omega) (by omega) hr45 ?_
      refine c_iinc (ls' := [_, _, _, _]) dX11_put_47 rfl (by decide) rfl rfl ?_
      refine a_goto (tgt := 2) dX11_put_50 (by decide) ?_
      refine ih _ _ (by omega) (by omega) (fun k j hk => by
        by_cases e9 : k = 242
        · subst e9
          rw [sm_k, us_n (by omega), sm_k, us_n (by omega), sm_k, us_n (by omega)]; exact hf 242 j hk
        · rw [sm_n e9, sm_n e9, sm_n e9]; exact hf k j hk) (fun j j0 j1 => ?_) kk
      by_cases ej : j = i
      · subst ej
        refine ⟨?_, ?_, ?_⟩
        · rw [sm_k, us_n (by omega), sm_k, us_n (by omega), sm_s]
        · rw [sm_k, us_n (by omega), sm_s]
        · rw [sm_s]
      · have h9 := hj j j0 (by omega)
        refine ⟨?_, ?_, ?_⟩
        · rw [sm_k, us_n (by omega), sm_k, us_n (by omega), sm_k, us_n (by omega)]; exact h9.1
        · rw [sm_k, us_n (by omega), sm_k, us_n (by omega), sm_k, us_n (by omega)]; exact h9.2.1
        · rw [sm_k, us_n (by omega), sm_k, us_n (by omega), sm_k, us_n (by omega)]; exact h9.2.2

set_option maxRecDepth 100000 in
set_option maxHeartbeats 4000000 in
theorem lpput2_242 {G : zG} {l : Launch} {L : Nat} {P : zP} {M0 : zM} {i0 : Int} (hP : PFok P) (hi0 : 0 ≤ i0 ∧ i0 + 90 ≤ 90) : ∀ (n : Nat) (i : Int) (M : zM) (g0 : 0 ≤ i) (g1 : i + n = 36) (hf : (∀ (k : Nat) (i : Int), ¬ (k = 242 ∧ i0 ≤ i ∧ i < i0 + 90) → M k i = M0 k i)) (h6 : (∀ j : Int, 0 ≤ j → j < 6 → M 242 (i0 + j) = M0 233 j ∧ M 242 (i0 + 6 + j) = M0 234 j ∧ M 242 (i0 + 12 + j) = M0 235 j)) (hj : (∀ j : Int, 0 ≤ j → j < i → M 242 (i0 + 18 + j) = M0 236 j ∧ M 242 (i0 + 54 + j) = M0 237 j)), AW G l mdX11_put (zrel none (LAY L) P (PutR 242 i0 M0)) 55 [some (aR 209), some (aR 242), some (aI i0), some (aI i)] [] (LAY L) P M 0 0 := by
  intro n
  induction n with
  | zero =>
    intro i M g0 g1 hf h6 hj
    refine a_iloadn dX11_put_55 rfl ?_
    refine a_bipush (w := 36) dX11_put_56 (by decide) ?_
    refine a_icmp_ge (tgt := 103) dX11_put_58 (by decide) ⟨by omega, by omega⟩ ⟨by omega, by omega⟩ (fun hb58 => ?_) (fun hb58 => ?_)
    · exact a_return dX11_put_103 rfl rfl rfl (zrel_V ⟨h6, fun j j0 j1 => hj j j0 (by omega), hf⟩)
    · exfalso; omega
  | succ n ih =>
    intro i M g0 g1 hf h6 hj
    refine a_iloadn dX11_put_55 rfl ?_
    refine a_bipush (w := 36) dX11_put_56 (by decide) ?_
    refine a_icmp_ge (tgt := 103) dX11_put_58 (by decide) ⟨by omega, by omega⟩ ⟨by omega, by omega⟩ (fun hb58 => ?_) (fun hb58 => ?_)
    · exfalso; omega
    · refine a_aloadn dX11_put_61 rfl ?_
      refine a_iloadn dX11_put_62 rfl ?_
      refine a_bipush (w := 18) dX11_put_63 (by decide) ?_
      refine a_iadd dX11_put_65 ?_
      refine a_iloadn dX11_put_66 rfl ?_
      refine a_iadd dX11_put_67 ?_
      refine a_aloadn dX11_put_68 rfl ?_
      refine a_getR (j' := 51) (y := 236) dX11_put_69 flX11_94 rfl rfl (L209 L) (p209_51 hP) ?_
      refine a_iloadn dX11_put_72 rfl ?_
      refine b_iald (N := 72) dX11_put_73 (L236 L) (by decide) (by omega) (by omega) (fun hr73 => ?_)
      have e73 : M 236 i = M0 236 i := by rw [hf 236 i (by omega)]
      rw [e73] at hr73
      rw [e73]
      refine a_iast (N := 90) dX11_put_74 (L242 L) (by decide) (by decide) (by omega) (by omega) hr73 ?_
      refine a_aloadn dX11_put_75 rfl ?_
      refine a_iloadn dX11_put_76 rfl ?_
      refine a_bipush (w := 54) dX11_put_77 (by decide) ?_
      refine a_iadd dX11_put_79 ?_
      refine a_iloadn dX11_put_80 rfl ?_
      refine a_iadd dX11_put_81 ?_
      refine a_aloadn dX11_put_82 rfl ?_
      refine a_getR (j' := 52) (y := 237) dX11_put_83 flX11_97 rfl rfl (L209 L) (p209_52 hP) ?_
      refine a_iloadn dX11_put_86 rfl ?_
      refine b_zald (N := 72) dX11_put_87 (L237 L) (by decide) (by omega) (by omega) (fun hr87 => ?_)
      have e87 : (sm M 242 (i0 + 18 + i) (M0 236 i)) 237 i = M0 237 i := by rw [sm_n (by decide), hf 237 i (by omega)]
      rw [e87] at hr87
      rw [e87]
      refine a_if_eq (tgt := 95) dX11_put_88 (by decide) (by rcases hr87 with z | z <;> exact ⟨by omega, by omega⟩) (fun hb88 => ?_) (fun hb88 => ?_)
      · refine a_iconst dX11_put_95 ?_
        refine a_iast (N := 90) dX11_put_96 (L242 L) (by decide) (by decide) (by omega) (by omega) ⟨by omega, by omega⟩ ?_
        refine c_iinc (ls' := [_, _, _, _]) dX11_put_97 rfl (by decide) rfl rfl ?_
        refine a_goto (tgt := 55) dX11_put_100 (by decide) ?_
        refine ih _ _ (by omega) (by omega) (fun k j hk => by
          by_cases e9 : k = 242
          · subst e9
            rw [sm_k, us_n (by omega), sm_k, us_n (by omega)]; exact hf 242 j hk
          · rw [sm_n e9, sm_n e9]; exact hf k j hk) (fun j j0 j1 => ?_) (fun j j0 j1 => ?_)
        · rw [sm_k, us_n (by omega), sm_k, us_n (by omega), us_n (by omega), us_n (by omega), us_n (by omega), us_n (by omega)]; exact h6 j j0 j1
        by_cases ej : j = i
        · subst ej
          refine ⟨?_, ?_⟩
          · rw [sm_k, us_n (by omega), sm_s]
          · rw [sm_s]; omega
        · have h9 := hj j j0 (by omega)
          refine ⟨?_, ?_⟩
          · rw [sm_k, us_n (by omega), sm_k, us_n (by omega)]; exact h9.1
          · rw [sm_k, us_n (by omega), sm_k, us_n (by omega)]; exact h9.2
      · refine a_iconst dX11_put_91 ?_
        refine a_goto (tgt := 96) dX11_put_92 (by decide) ?_
        refine a_iast (N := 90) dX11_put_96 (L242 L) (by decide) (by decide) (by omega) (by omega) ⟨by omega, by omega⟩ ?_
        refine c_iinc (ls' := [_, _, _, _]) dX11_put_97 rfl (by decide) rfl rfl ?_
        refine a_goto (tgt := 55) dX11_put_100 (by decide) ?_
        refine ih _ _ (by omega) (by omega) (fun k j hk => by
          by_cases e9 : k = 242
          · subst e9
            rw [sm_k, us_n (by omega), sm_k, us_n (by omega)]; exact hf 242 j hk
          · rw [sm_n e9, sm_n e9]; exact hf k j hk) (fun j j0 j1 => ?_) (fun j j0 j1 => ?_)
        · rw [sm_k, us_n (by omega), sm_k, us_n (by omega), us_n (by omega), us_n (by omega), us_n (by omega), us_n (by omega)]; exact h6 j j0 j1
        by_cases ej : j = i
        · subst ej
          refine ⟨?_, ?_⟩
          · rw [sm_k, us_n (by omega), sm_s]
          · rw [sm_s]; omega
        · have h9 := hj j j0 (by omega)
          refine ⟨?_, ?_⟩
          · rw [sm_k, us_n (by omega), sm_k, us_n (by omega)]; exact h9.1
          · rw [sm_k, us_n (by omega), sm_k, us_n (by omega)]; exact h9.2

set_option maxRecDepth 100000 in
set_option maxHeartbeats 4000000 in
theorem m_put242 {G : zG} {l : Launch} {L : Nat} {P : zP} {M : zM} {i0 : Int} (hP : PFok P) (hi0 : 0 ≤ i0 ∧ i0 + 90 ≤ 90) : AM G l yX11_put mdX11_put [aR 209, aR 242, aI i0] (LAY L) P M (zrel none (LAY L) P (PutR 242 i0 M)) := by
  refine AM.go [some (aR 209), some (aR 242), some (aI i0), none] rfl (Nat.le_of_ble_eq_true rfl) ?_ (by decide) rfl rfl
  refine a_iconst dX11_put_0 ?_
  refine c_istoren (ls' := [_, _, _, _]) dX11_put_1 (by decide) rfl rfl ?_
  refine lpput1_242 hP hi0 6 0 M (by omega) (by omega) (fun _ _ _ => rfl) (fun j j0 j1 => by omega) (fun M1 h1 h2 => ?_)
  refine a_iconst dX11_put_53 ?_
  refine c_istoren (ls' := [_, _, _, _]) dX11_put_54 (by decide) rfl rfl ?_
  exact lpput2_242 hP hi0 36 0 M1 (by omega) (by omega) h1 h2 (fun j j0 j1 => by omega)

set_option maxRecDepth 100000 in
set_option maxHeartbeats 4000000 in
theorem lptake1_242 {G : zG} {l : Launch} {L : Nat} {P : zP} {M0 : zM} {i0 : Int} {Z : zZ} (hP : PFok P) (hi0 : 0 ≤ i0 ∧ i0 + 90 ≤ 90) : ∀ (n : Nat) (i : Int) (M : zM) (g0 : 0 ≤ i) (g1 : i + n = 6) (hf : (∀ (k : Nat) (i : Int), ¬ ((k = 233 ∨ k = 234 ∨ k = 235) ∧ 0 ≤ i ∧ i < 6) → ¬ ((k = 236 ∨ k = 237) ∧ 0 ≤ i ∧ i < 36) → M k i = M0 k i)) (hj : (∀ j : Int, 0 ≤ j → j < i → M 233 j = M0 242 (i0 + j) ∧ M 234 j = M0 242 (i0 + 6 + j) ∧ M 235 j = M0 242 (i0 + 12 + j))) (kk : ∀ M' : zM, (∀ (k : Nat) (i : Int), ¬ ((k = 233 ∨ k = 234 ∨ k = 235) ∧ 0 ≤ i ∧ i < 6) → ¬ ((k = 236 ∨ k = 237) ∧ 0 ≤ i ∧ i < 36) → M' k i = M0 k i) → (∀ j : Int, 0 ≤ j → j < 6 → M' 233 j = M0 242 (i0 + j) ∧ M' 234 j = M0 242 (i0 + 6 + j) ∧ M' 235 j = M0 242 (i0 + 12 + j)) → AW G l mdX11_take Z 53 [some (aR 209), some (aR 242), some (aI i0), none] [] (LAY L) P M' 0 0), AW G l mdX11_take Z 2 [some (aR 209), some (aR 242), some (aI i0), some (aI i)] [] (LAY L) P M 0 0 := by
  intro n
  induction n with
  | zero =>
    intro i M g0 g1 hf hj kk
    refine a_iloadn dX11_take_2 rfl ?_
    refine a_bipush (w := 6) dX11_take_3 (by decide) ?_
    refine a_icmp_ge (tgt := 53) dX11_take_5 (by decide) ⟨by omega, by omega⟩ ⟨by omega, by omega⟩ (fun hb5 => ?_) (fun hb5 => ?_)
    · refine a_forget [3] (ls' := [_, _, _, none]) rfl (kk M hf (fun j j0 j1 => hj j j0 (by omega)))
    · exfalso; omega
  | succ n ih =>
    intro i M g0 g1 hf hj kk
    refine a_iloadn dX11_take_2 rfl ?_
    refine a_bipush (w := 6) dX11_take_3 (by decide) ?_
    refine a_icmp_ge (tgt := 53) dX11_take_5 (by decide) ⟨by omega, by omega⟩ ⟨by omega, by omega⟩ (fun hb5 => ?_) (fun hb5 => ?_)
    · exfalso; omega
    · refine a_aloadn dX11_take_8 rfl ?_
      refine a_getR (j' := 48) (y := 233) dX11_take_9 flX11_85 rfl rfl (L209 L) (p209_48 hP) ?_
      refine a_iloadn dX11_take_12 rfl ?_
      refine a_aloadn dX11_take_13 rfl ?_
      refine a_iloadn dX11_take_14 rfl ?_
      refine a_iloadn dX11_take_15 rfl ?_
      refine a_iadd dX11_take_16 ?_
      refine b_iald (N := 90) dX11_take_17 (L242 L) (by decide) (by omega) (by omega) (fun hr17 => ?_)
      have e17 : M 242 (i0 + i) = M0 242 (i0 + i) := by rw [hf 242 _ (by omega) (by omega)]
      rw [e17] at hr17
      rw [e17]
      refine a_iast (N := 12) dX11_take_18 (L233 L) (by decide) (by decide) (by omega) (by omega) hr17 ?_
      refine a_aloadn dX11_take_19 rfl ?_
      refine a_getR (j' := 49) (y := 234) dX11_take_20 flX11_88 rfl rfl (L209 L) (p209_49 hP) ?_
      refine a_iloadn dX11_take_23 rfl ?_
      refine a_aloadn dX11_take_24 rfl ?_
      refine a_iloadn dX11_take_25 rfl ?_
      refine a_bipush (w := 6) dX11_take_26 (by decide) ?_
      refine a_iadd dX11_take_28 ?_
      refine a_iloadn dX11_take_29 rfl ?_
      refine a_iadd dX11_take_30 ?_
      refine b_iald (N := 90) dX11_take_31 (L242 L) (by decide) (by omega) (by omega) (fun hr31 => ?_)
      have e31 : (sm M 233 i (M0 242 (i0 + i))) 242 (i0 + 6 + i) = M0 242 (i0 + 6 + i) := by rw [sm_n (by decide), hf 242 _ (by omega) (by omega)]
      rw [e31] at hr31
      rw [e31]
      refine a_iast (N := 12) dX11_take_32 (L234 L) (by decide) (by decide) (by omega) (by omega) hr31 ?_
      refine a_aloadn dX11_take_33 rfl ?_
      refine a_getR (j' := 50) (y := 235) dX11_take_34 flX11_91 rfl rfl (L209 L) (p209_50 hP) ?_
      refine a_iloadn dX11_take_37 rfl ?_
      refine a_aloadn dX11_take_38 rfl ?_
      refine a_iloadn dX11_take_39 rfl ?_
      refine a_bipush (w := 12) dX11_take_40 (by decide) ?_
      refine a_iadd dX11_take_42 ?_
      refine a_iloadn dX11_take_43 rfl ?_
      refine a_iadd dX11_take_44 ?_
      refine b_iald (N := 90) dX11_take_45 (L242 L) (by decide) (by omega) (by omega) (fun hr45 => ?_)
      have e45 : (sm (sm M 233 i (M0 242 (i0 + i))) 234 i (M0 242 (i0 + 6 + i))) 242 (i0 + 12 + i) = M0 242 (i0 + 12 + i) := by rw [sm_n (by decide), sm_n (by decide), hf 242 _ (by omega) (by omega)]
      rw [e45] at hr45
      rw [e45]
      refine a_iast (N := 12) dX11_take_46 (L235 L) (by decide) (by decide) (by omega) (by omega) hr45 ?_
      refine c_iinc (ls' := [_, _, _, _]) dX11_take_47 rfl (by decide) rfl rfl ?_
      refine a_goto (tgt := 2) dX11_take_50 (by decide) ?_
      refine ih _ _ (by omega) (by omega) (fun k j hk hk2 => ?_) (fun j j0 j1 => ?_) kk
      · unfold sm ur us
        by_cases e3 : k = 235
        · subst e3; simp; rw [if_neg (by omega)]; exact hf 235 j hk hk2
        · by_cases e2 : k = 234
          · subst e2; simp; rw [if_neg (by omega)]; exact hf 234 j hk hk2
          · by_cases e1 : k = 233
            · subst e1; simp; rw [if_neg (by omega)]; exact hf 233 j hk hk2
            · simp [e1, e2, e3]; exact hf k j hk hk2
      by_cases ej : j = i
      · subst ej
        refine ⟨?_, ?_, ?_⟩
        · rw [sm_n (by decide), sm_n (by decide), sm_s]
        · rw [sm_n (by decide), sm_s]
        · rw [sm_s]
      · have h9 := hj j j0 (by omega)
        refine ⟨?_, ?_, ?_⟩
        · rw [sm_n (by decide), sm_n (by decide), sm_k, us_n ej]; exact h9.1
        · rw [sm_n (by decide), sm_k, us_n ej, sm_n (by decide)]; exact h9.2.1
        · rw [sm_k, us_n ej, sm_n (by decide), sm_n (by decide)]; exact h9.2.2

set_option maxRecDepth 100000 in
set_option maxHeartbeats 4000000 in
theorem lptake2_242 {G : zG} {l : Launch} {L : Nat} {P : zP} {M0 : zM} {i0 : Int} (hP : PFok P) (hi0 : 0 ≤ i0 ∧ i0 + 90 ≤ 90) : ∀ (n : Nat) (i : Int) (M : zM) (g0 : 0 ≤ i) (g1 : i + n = 36) (hf : (∀ (k : Nat) (i : Int), ¬ ((k = 233 ∨ k = 234 ∨ k = 235) ∧ 0 ≤ i ∧ i < 6) → ¬ ((k = 236 ∨ k = 237) ∧ 0 ≤ i ∧ i < 36) → M k i = M0 k i)) (h6 : (∀ j : Int, 0 ≤ j → j < 6 → M 233 j = M0 242 (i0 + j) ∧ M 234 j = M0 242 (i0 + 6 + j) ∧ M 235 j = M0 242 (i0 + 12 + j))) (hj : (∀ j : Int, 0 ≤ j → j < i → M 236 j = M0 242 (i0 + 18 + j) ∧ M 237 j = if M0 242 (i0 + 54 + j) = 1 then 1 else 0)), AW G l mdX11_take (zrel none (LAY L) P (TakR 242 i0 M0)) 55 [some (aR 209), some (aR 242), some (aI i0), some (aI i)] [] (LAY L) P M 0 0 := by
  intro n
  induction n with
  | zero =>
    intro i M g0 g1 hf h6 hj
    refine a_iloadn dX11_take_55 rfl ?_
    refine a_bipush (w := 36) dX11_take_56 (by decide) ?_
    refine a_icmp_ge (tgt := 104) dX11_take_58 (by decide) ⟨by omega, by omega⟩ ⟨by omega, by omega⟩ (fun hb58 => ?_) (fun hb58 => ?_)
    · exact a_return dX11_take_104 rfl rfl rfl (zrel_V ⟨h6, fun j j0 j1 => hj j j0 (by omega), hf⟩)
    · exfalso; omega
  | succ n ih =>
    intro i M g0 g1 hf h6 hj
    refine a_iloadn dX11_take_55 rfl ?_
    refine a_bipush (w := 36) dX11_take_56 (by decide) ?_
    refine a_icmp_ge (tgt := 104) dX11_take_58 (by decide) ⟨by omega, by omega⟩ ⟨by omega, by omega⟩ (fun hb58 => ?_) (fun hb58 => ?_)
    · exfalso; omega
    · refine a_aloadn dX11_take_61 rfl ?_
      refine a_getR (j' := 51) (y := 236) dX11_take_62 flX11_94 rfl rfl (L209 L) (p209_51 hP) ?_
      refine a_iloadn dX11_take_65 rfl ?_
      refine a_aloadn dX11_take_66 rfl ?_
      refine a_iloadn dX11_take_67 rfl ?_
      refine a_bipush (w := 18) dX11_take_68 (by decide) ?_
      refine a_iadd dX11_take_70 ?_
      refine a_iloadn dX11_take_71 rfl ?_
      refine a_iadd dX11_take_72 ?_
      refine b_iald (N := 90) dX11_take_73 (L242 L) (by decide) (by omega) (by omega) (fun hr73 => ?_)
      have e73 : M 242 (i0 + 18 + i) = M0 242 (i0 + 18 + i) := by rw [hf 242 _ (by omega) (by omega)]
      rw [e73] at hr73
      rw [e73]
      refine a_iast (N := 72) dX11_take_74 (L236 L) (by decide) (by decide) (by omega) (by omega) hr73 ?_
      refine a_aloadn dX11_take_75 rfl ?_
      refine a_getR (j' := 52) (y := 237) dX11_take_76 flX11_97 rfl rfl (L209 L) (p209_52 hP) ?_
      refine a_iloadn dX11_take_79 rfl ?_
      refine a_aloadn dX11_take_80 rfl ?_
      refine a_iloadn dX11_take_81 rfl ?_
      refine a_bipush (w := 54) dX11_take_82 (by decide) ?_
      refine a_iadd dX11_take_84 ?_
      refine a_iloadn dX11_take_85 rfl ?_
      refine a_iadd dX11_take_86 ?_
      refine b_iald (N := 90) dX11_take_87 (L242 L) (by decide) (by omega) (by omega) (fun hr87 => ?_)
      have e87 : (sm M 236 i (M0 242 (i0 + 18 + i))) 242 (i0 + 54 + i) = M0 242 (i0 + 54 + i) := by rw [sm_n (by decide), hf 242 _ (by omega) (by omega)]
      rw [e87] at hr87
      rw [e87]
      refine a_iconst dX11_take_88 ?_
      refine a_icmp_ne (tgt := 96) dX11_take_89 (by decide) hr87 ⟨by omega, by omega⟩ (fun hb89 => ?_) (fun hb89 => ?_)
      · refine a_iconst dX11_take_96 ?_
        refine a_zast (N := 72) dX11_take_97 (L237 L) (by decide) (by decide) (by omega) (by omega) (by omega) ?_
        refine c_iinc (ls' := [_, _, _, _]) dX11_take_98 rfl (by decide) rfl rfl ?_
        refine a_goto (tgt := 55) dX11_take_101 (by decide) ?_
        refine ih _ _ (by omega) (by omega) (fun k j hk hk2 => ?_) (fun j j0 j1 => ?_) (fun j j0 j1 => ?_)
        · unfold sm ur us
          by_cases e3 : k = 237
          · subst e3; simp; rw [if_neg (by omega)]; exact hf 237 j hk hk2
          · by_cases e2 : k = 236
            · subst e2; simp; rw [if_neg (by omega)]; exact hf 236 j hk hk2
            · simp [e2, e3]; exact hf k j hk hk2
        · rw [sm_n (by decide), sm_n (by decide), sm_n (by decide), sm_n (by decide), sm_n (by decide), sm_n (by decide)]; exact h6 j j0 j1
        by_cases ej : j = i
        · subst ej
          refine ⟨?_, ?_⟩
          · rw [sm_n (by decide), sm_s]
          · rw [sm_s]
            first
            | (rw [if_pos (by omega)]; done)
            | (rw [if_neg (by omega)]; done)
        · have h9 := hj j j0 (by omega)
          refine ⟨?_, ?_⟩
          · rw [sm_n (by decide), sm_k, us_n ej]; exact h9.1
          · rw [sm_k, us_n ej, sm_n (by decide)]; exact h9.2
      · refine a_iconst dX11_take_92 ?_
        refine a_goto (tgt := 97) dX11_take_93 (by decide) ?_
        refine a_zast (N := 72) dX11_take_97 (L237 L) (by decide) (by decide) (by omega) (by omega) (by omega) ?_
        refine c_iinc (ls' := [_, _, _, _]) dX11_take_98 rfl (by decide) rfl rfl ?_
        refine a_goto (tgt := 55) dX11_take_101 (by decide) ?_
        refine ih _ _ (by omega) (by omega) (fun k j hk hk2 => ?_) (fun j j0 j1 => ?_) (fun j j0 j1 => ?_)
        · unfold sm ur us
          by_cases e3 : k = 237
          · subst e3; simp; rw [if_neg (by omega)]; exact hf 237 j hk hk2
          · by_cases e2 : k = 236
            · subst e2; simp; rw [if_neg (by omega)]; exact hf 236 j hk hk2
            · simp [e2, e3]; exact hf k j hk hk2
        · rw [sm_n (by decide), sm_n (by decide), sm_n (by decide), sm_n (by decide), sm_n (by decide), sm_n (by decide)]; exact h6 j j0 j1
        by_cases ej : j = i
        · subst ej
          refine ⟨?_, ?_⟩
          · rw [sm_n (by decide), sm_s]
          · rw [sm_s]
            first
            | (rw [if_pos (by omega)]; done)
            | (rw [if_neg (by omega)]; done)
        · have h9 := hj j j0 (by omega)
          refine ⟨?_, ?_⟩
          · rw [sm_n (by decide), sm_k, us_n ej]; exact h9.1
          · rw [sm_k, us_n ej, sm_n (by decide)]; exact h9.2

set_option maxRecDepth 100000 in
set_option maxHeartbeats 4000000 in
theorem m_take242 {G : zG} {l : Launch} {L : Nat} {P : zP} {M : zM} {i0 : Int} (hP : PFok P) (hi0 : 0 ≤ i0 ∧ i0 + 90 ≤ 90) : AM G l yX11_take mdX11_take [aR 209, aR 242, aI i0] (LAY L) P M (zrel none (LAY L) P (TakR 242 i0 M)) := by
  refine AM.go [some (aR 209), some (aR 242), some (aI i0), none] rfl (Nat.le_of_ble_eq_true rfl) ?_ (by decide) rfl rfl
  refine a_iconst dX11_take_0 ?_
  refine c_istoren (ls' := [_, _, _, _]) dX11_take_1 (by decide) rfl rfl ?_
  refine lptake1_242 hP hi0 6 0 M (by omega) (by omega) (fun _ _ _ _ => rfl) (fun j j0 j1 => by omega) (fun M1 h1 h2 => ?_)
  refine a_iconst dX11_take_53 ?_
  refine c_istoren (ls' := [_, _, _, _]) dX11_take_54 (by decide) rfl rfl ?_
  exact lptake2_242 hP hi0 36 0 M1 (by omega) (by omega) h1 h2 (fun j j0 j1 => by omega)

set_option maxRecDepth 100000 in
set_option maxHeartbeats 4000000 in
theorem lpX11_remember {G : zG} {l : Launch} {L : Nat} {P : zP} {M0 : zM} {Z : zZ} (hP : PFok P) : ∀ (n : Nat) (i : Int) (M : zM) (g0 : 0 ≤ i) (g1 : i + n = 1710) (hf : ∀ (k : Nat) (j : Int), ¬ (k = 241 ∧ j < i) → M k j = M0 k j) (hj : ∀ j : Int, 0 ≤ j → j < i → M 241 j = M0 241 (j + 90)) (kk : ∀ M' : zM, (∀ (k : Nat) (j : Int), ¬ (k = 241 ∧ j < 1710) → M' k j = M0 k j) → (∀ j : Int, 0 ≤ j → j < 1710 → M' 241 j = M0 241 (j + 90)) → AW G l mdX11_remember Z 39 [some (aR 209), none] [] (LAY L) P M' 0 0), AW G l mdX11_remember Z 11 [some (aR 209), some (aI i)] [] (LAY L) P M 0 0 := by
  intro n
  induction n with
  | zero =>
    intro i M g0 g1 hf hj kk
    refine a_iloadn dX11_remember_11 rfl ?_
    refine a_sipush (w := 1710) dX11_remember_12 (by decide) ?_
    refine a_icmp_ge (tgt := 39) dX11_remember_15 (by decide) ⟨by omega, by omega⟩ ⟨by omega, by omega⟩ (fun hb15 => ?_) (fun hb15 => ?_)
    · refine a_forget [1] (ls' := [_, none]) rfl (kk M (fun k j hk => hf k j (by omega)) (fun j j0 j1 => hj j j0 (by omega)))
    · exfalso; omega
  | succ n ih =>
    intro i M g0 g1 hf hj kk
    refine a_iloadn dX11_remember_11 rfl ?_
    refine a_sipush (w := 1710) dX11_remember_12 (by decide) ?_
    refine a_icmp_ge (tgt := 39) dX11_remember_15 (by decide) ⟨by omega, by omega⟩ ⟨by omega, by omega⟩ (fun hb15 => ?_) (fun hb15 => ?_)
    · exfalso; omega
    · refine a_aloadn dX11_remember_18 rfl ?_
      refine a_getR (j' := 66) (y := 241) dX11_remember_19 flX11_112 rfl rfl (L209 L) (p209_66 hP) ?_
      refine a_iloadn dX11_remember_22 rfl ?_
      refine a_aloadn dX11_remember_23 rfl ?_
      refine a_getR (j' := 66) (y := 241) dX11_remember_24 flX11_112 rfl rfl (L209 L) (p209_66 hP) ?_
      refine a_iloadn dX11_remember_27 rfl ?_
      refine a_bipush (w := 90) dX11_remember_28 (by decide) ?_
      refine a_iadd dX11_remember_30 ?_
      refine b_iald (N := 1800) dX11_remember_31 (L241 L) (by decide) (by omega) (by omega) (fun hr31 => ?_)
      have e31 : M 241 (i + 90) = M0 241 (i + 90) := hf 241 _ (by omega)
      rw [e31] at hr31
      rw [e31]
      refine a_iast (N := 1800) dX11_remember_32 (L241 L) (by decide) (by decide) (by omega) (by omega) hr31 ?_
      refine c_iinc (ls' := [_, _]) dX11_remember_33 rfl (by decide) rfl rfl ?_
      refine a_goto (tgt := 11) dX11_remember_36 (by decide) ?_
      refine ih _ _ (by omega) (by omega) (fun k j hk => ?_) (fun j j0 j1 => ?_) kk
      · by_cases e9 : k = 241
        · subst e9; rw [sm_k, us_n (by omega)]; exact hf 241 j (by omega)
        · rw [sm_n e9]; exact hf k j (by omega)
      · by_cases ej : j = i
        · subst ej; rw [sm_s]
        · rw [sm_k, us_n ej]; exact hj j j0 (by omega)

set_option maxRecDepth 100000 in
set_option maxHeartbeats 4000000 in
theorem tlX11_remember {G : zG} {l : Launch} {L : Nat} {P : zP} {M0 M : zM} (hP : PFok P) (hU : UR M0) (he : M 209 65 = usl M0) (hf : ∀ (k : Nat) (j : Int), k ≠ 241 → ¬ (k = 209 ∧ j = 65) → M k j = M0 k j) (hj : ∀ j : Int, 0 ≤ j → j < 90 * usl M0 → M 241 j = if M0 209 65 = 20 then M0 241 (j + 90) else M0 241 j) : AW G l mdX11_remember (zrel none (LAY L) P (RmR M0)) 49 [some (aR 209), none] [] (LAY L) P M 0 0 := by
  have u1 : 0 ≤ usl M0 ∧ usl M0 ≤ 19 := by have := hU; unfold UR at this; unfold usl; split <;> omega
  refine a_aloadn dX11_remember_49 rfl ?_
  refine a_aloadn dX11_remember_50 rfl ?_
  refine a_getR (j' := 66) (y := 241) dX11_remember_51 flX11_112 rfl rfl (L209 L) (p209_66 hP) ?_
  refine a_bipush (w := 90) dX11_remember_54 (by decide) ?_
  refine a_aloadn dX11_remember_56 rfl ?_
  refine b_getI (j' := 65) dX11_remember_57 flX11_328 rfl rfl (L209 L) (fun hr57 => ?_)
  rw [he] at hr57
  rw [he]
  refine a_imul dX11_remember_60 ?_
  refine a_relVv (as := [_, _]) (q := 209) dX11_remember_61 mvX11_490 ⟨by decide, by decide⟩ (L209 L) rfl rfl rfl (Nat.le_of_ble_eq_true rfl) ⟨rfl, rfl⟩ ⟨by decide, by decide⟩ (m_put241 hP ⟨by omega, by omega⟩) (fun M1 hM1 => ?_)
  refine a_aloadn dX11_remember_64 rfl ?_
  refine a_dupR dX11_remember_65 ?_
  refine b_getI (j' := 65) dX11_remember_66 flX11_328 rfl rfl (L209 L) (fun hr66 => ?_)
  have e66 : M1 209 65 = usl M0 := by rw [hM1.2.2 209 65 (by omega)]; exact he
  rw [e66] at hr66
  rw [e66]
  refine a_iconst dX11_remember_69 ?_
  refine a_iadd dX11_remember_70 ?_
  refine a_putI (j' := 65) dX11_remember_71 flX11_328 rfl rfl (L209 L) (by decide) rfl ⟨by omega, by omega⟩ ?_
  have hr : RmR M0 (sm M1 209 65 (usl M0 + 1)) := by
    obtain ⟨b1, b2, b3⟩ := hM1
    refine ⟨fun j j0 j1 => ?_, fun j j0 j1 => ?_, fun j j0 j1 => ?_, ?_, fun k i h1 h2 => ?_⟩
    · rw [sm_n (by decide), ← hf 233 j (by decide) (by omega), ← hf 234 j (by decide) (by omega), ← hf 235 j (by decide) (by omega)]; exact b1 j j0 j1
    · rw [sm_n (by decide), ← hf 236 j (by decide) (by omega), ← hf 237 j (by decide) (by omega)]; exact b2 j j0 j1
    · rw [sm_n (by decide), b3 241 j (by omega)]; exact hj j j0 j1
    · rw [sm_s]
    · by_cases e9 : k = 209
      · subst e9; rw [sm_k, us_n (by omega), b3 209 i (by omega)]; exact hf 209 i (by omega) (by omega)
      · rw [sm_n e9, b3 k i (by omega)]; exact hf k i h1 (by omega)
  exact a_return dX11_remember_74 rfl rfl rfl (zrel_V hr)

set_option maxRecDepth 100000 in
set_option maxHeartbeats 4000000 in
theorem m_X11_remember {G : zG} {l : Launch} {L : Nat} {P : zP} {M : zM}  (hP : PFok P) (hU : UR M) : AM G l yX11_remember mdX11_remember [aR 209] (LAY L) P M (zrel none (LAY L) P (RmR M)) := by
  have hU2 := hU
  unfold UR at hU2
  refine AM.go [some (aR 209), none] rfl (Nat.le_of_ble_eq_true rfl) ?_ (by decide) rfl rfl
  refine a_aloadn dX11_remember_0 rfl ?_
  refine b_getI (j' := 65) dX11_remember_1 flX11_328 rfl rfl (L209 L) (fun hr1 => ?_)
  refine a_bipush (w := 20) dX11_remember_4 (by decide) ?_
  refine a_icmp_ne (tgt := 49) dX11_remember_6 (by decide) ⟨by omega, by omega⟩ ⟨by omega, by omega⟩ (fun hb6 => ?_) (fun hb6 => ?_)
  · have us : usl M = M 209 65 := by unfold usl; rw [if_neg (by omega)]
    refine a_forget [] (ls' := [_, none]) rfl ?_
    exact tlX11_remember hP hU (by rw [us]) (fun _ _ _ _ => rfl) (fun j j0 j1 => by rw [if_neg (by omega)])
  · refine a_iconst dX11_remember_9 ?_
    refine c_istoren (ls' := [_, _]) dX11_remember_10 (by decide) rfl rfl ?_
    have us : usl M = 19 := by unfold usl; rw [if_pos (by omega)]
    refine lpX11_remember hP 1710 0 M (by omega) (by omega) (fun _ _ _ => rfl) (fun j j0 j1 => by omega) (fun M1 h1 h2 => ?_)
    refine a_aloadn dX11_remember_39 rfl ?_
    refine a_dupR dX11_remember_40 ?_
    refine b_getI (j' := 65) dX11_remember_41 flX11_328 rfl rfl (L209 L) (fun hr41 => ?_)
    have e41 : M1 209 65 = 20 := by rw [h1 209 65 (by omega)]; omega
    rw [e41]
    refine a_iconst dX11_remember_44 ?_
    refine a_isub dX11_remember_45 ?_
    refine a_putI (j' := 65) dX11_remember_46 flX11_328 rfl rfl (L209 L) (by decide) rfl ⟨by omega, by omega⟩ ?_
    refine tlX11_remember hP hU (by rw [sm_s, us]; rfl) (fun k j k1 k2 => ?_) (fun j j0 j1 => ?_)
    · by_cases e9 : k = 209
      · subst e9; rw [sm_k, us_n (by omega)]; exact h1 209 j (by omega)
      · rw [sm_n e9]; exact h1 k j (by omega)
    · rw [sm_n (by decide), if_pos (by omega)]; exact h2 j j0 (by omega)
