section ZGN
def StAg (lay : List zKd) (P : zP) (a : Nat) : Prop := 2 ≤ a ∧ lay[a]? = some (.inr 5) ∧ (lay[a + 1]? = some (.inl (0, 6)) ∧ P a 0 = some (a + 1)) ∧ (lay[a + 2]? = some (.inl (0, 6)) ∧ P a 1 = some (a + 2)) ∧ (lay[a + 3]? = some (.inl (0, 6)) ∧ P a 2 = some (a + 3)) ∧ (lay[a + 4]? = some (.inl (0, 6)) ∧ P a 3 = some (a + 4)) ∧ (lay[a + 5]? = some (.inl (0, 36)) ∧ P a 4 = some (a + 5))
def ToA0g (lay : List zKd) (P : zP) (a : Nat) : Prop := 2 ≤ a ∧ lay[a]? = some (.inr 8) ∧ (lay[a + 1]? = some (.inl (0, 6)) ∧ P a 3 = some (a + 1)) ∧ (lay[a + 2]? = some (.inl (0, 6)) ∧ P a 4 = some (a + 2)) ∧ (lay[a + 3]? = some (.inl (0, 6)) ∧ P a 5 = some (a + 3)) ∧ (lay[a + 4]? = some (.inl (0, 10)) ∧ P a 7 = some (a + 4)) ∧ (lay[a + 5]? = some (.inl (0, 10)) ∧ P a 8 = some (a + 5)) ∧ (lay[a + 6]? = some (.inl (0, 10)) ∧ P a 9 = some (a + 6)) ∧ (lay[a + 7]? = some (.inl (0, 12)) ∧ P a 11 = some (a + 7)) ∧ (lay[a + 8]? = some (.inl (0, 12)) ∧ P a 12 = some (a + 8)) ∧ (lay[a + 9]? = some (.inl (0, 12)) ∧ P a 13 = some (a + 9)) ∧ (lay[a + 10]? = some (.inl (0, 4)) ∧ P a 14 = some (a + 10)) ∧ (lay[a + 11]? = some (.inl (1, 4)) ∧ P a 15 = some (a + 11)) ∧ (lay[a + 12]? = some (.inl (3, 3)) ∧ P a 16 = some (a + 12))
def LwAg (lay : List zKd) (P : zP) (a : Nat) : Prop := 2 ≤ a ∧ lay[a]? = some (.inr 1) ∧ (lay[a + 1]? = some (.inl (0, 64)) ∧ P a 0 = some (a + 1))
def ToAg (lay : List zKd) (P : zP) (a : Nat) : Prop := ToA0g lay P a ∧ (P (a + 12) 0 = some (a + 13) ∧ LwAg lay P (a + 13)) ∧ (P (a + 12) 1 = some (a + 15) ∧ LwAg lay P (a + 15)) ∧ (P (a + 12) 2 = some (a + 17) ∧ LwAg lay P (a + 17))
set_option maxRecDepth 100000 in
set_option maxHeartbeats 4000000 in
theorem n_m_X0_asTold {G : zG} {l : Launch} {lay : List zKd} {P : zP} {M : zM} {t : Nat} (h50 : lay[50]? = some (.inr 0)) (hTp : P 50 0 = some t) (hT : ToAg lay P t) (ht : t = 4 ∨ t = 23) (hTI : ToI M t) : AM G l yX0_asTold mdX0_asTold [aR 50] lay P M (zdet none lay P (sm (sm (sm (sm M 50 1 (M (t + 10) 0)) 50 3 1) 50 4 1) 50 5 (-1))) := by
  refine AM.go [some (aR 50)] rfl (Nat.le_of_ble_eq_true rfl) ?_ (by decide) rfl rfl
  refine a_aloadn dX0_asTold_0 rfl ?_
  refine a_aloadn dX0_asTold_1 rfl ?_
  refine a_getR (j' := 0) (y := t) dX0_asTold_2 flX0_18 rfl rfl h50 hTp ?_
  refine a_getR (j' := 14) (y := (t + 10)) dX0_asTold_5 flX0_22 rfl rfl hT.1.2.1 hT.1.2.2.2.2.2.2.2.2.2.2.2.1.2 ?_
  refine a_iconst dX0_asTold_8 ?_
  refine b_iald (N := 4) dX0_asTold_9 hT.1.2.2.2.2.2.2.2.2.2.2.2.1.1 (by decide) (by omega) (by omega) (fun hr9 => ?_)
  refine a_putI (j' := 1) dX0_asTold_10 flX0_28 rfl rfl h50 (by decide) rfl ⟨by omega, by omega⟩ ?_
  refine a_aloadn dX0_asTold_13 rfl ?_
  refine a_iconst dX0_asTold_14 ?_
  refine a_putZ (j' := 3) dX0_asTold_15 flX0_32 rfl rfl h50 (by decide) rfl (by omega) ?_
  refine a_aloadn dX0_asTold_18 rfl ?_
  refine a_iconst dX0_asTold_19 ?_
  refine a_putZ (j' := 4) dX0_asTold_20 flX0_36 rfl rfl h50 (by decide) rfl (by omega) ?_
  refine a_aloadn dX0_asTold_23 rfl ?_
  refine a_iconst dX0_asTold_24 ?_
  refine a_putI (j' := 5) dX0_asTold_25 flX0_39 rfl rfl h50 (by decide) rfl ⟨by omega, by omega⟩ ?_
  exact a_return dX0_asTold_28 rfl rfl rfl (zdet_V rfl)

set_option maxRecDepth 100000 in
set_option maxHeartbeats 4000000 in
theorem n_m_X0_asItGoes {G : zG} {l : Launch} {lay : List zKd} {P : zP} {M : zM} {t : Nat} (h50 : lay[50]? = some (.inr 0)) (hTp : P 50 0 = some t) (hT : ToAg lay P t) (ht : t = 4 ∨ t = 23) (hTI : ToI M t) : AM G l yX0_asItGoes mdX0_asItGoes [aR 50] lay P M (zdet none lay P (sm (sm (sm (sm (sm M 50 1 (M (t + 10) 0)) 50 3 1) 50 4 1) 50 5 (-1)) 50 2 (if 50 ≤ M (t + 10) 2 then 1 else 0))) := by
  refine AM.go [some (aR 50)] rfl (Nat.le_of_ble_eq_true rfl) ?_ (by decide) rfl rfl
  refine a_aloadn dX0_asItGoes_0 rfl ?_
  refine a_callVv (as := []) (q := 50) dX0_asItGoes_1 mvX0_42 ⟨by decide, by decide⟩ h50 rfl rfl rfl (Nat.le_of_ble_eq_true rfl) ⟨rfl, rfl⟩ ⟨by decide, by decide⟩ (n_m_X0_asTold h50 hTp hT ht hTI) ?_
  refine a_aloadn dX0_asItGoes_4 rfl ?_
  refine a_aloadn dX0_asItGoes_5 rfl ?_
  refine a_getR (j' := 0) (y := t) dX0_asItGoes_6 flX0_18 rfl rfl h50 hTp ?_
  refine a_getR (j' := 14) (y := (t + 10)) dX0_asItGoes_9 flX0_22 rfl rfl hT.1.2.1 hT.1.2.2.2.2.2.2.2.2.2.2.2.1.2 ?_
  refine a_iconst dX0_asItGoes_12 ?_
  refine b_iald (N := 4) dX0_asItGoes_13 hT.1.2.2.2.2.2.2.2.2.2.2.2.1.1 (by decide) (by omega) (by omega) (fun hr13 => ?_)
  have e9 : (sm (sm (sm (sm M 50 1 (M (t + 10) 0)) 50 3 1) 50 4 1) 50 5 (-1)) (t + 10) 2 = M (t + 10) 2 := by rw [sm_n (by omega), sm_n (by omega), sm_n (by omega), sm_n (by omega)]
  rw [e9] at hr13
  rw [e9]
  refine a_bipush (w := 50) dX0_asItGoes_14 (by decide) ?_
  refine a_icmp_lt (tgt := 23) dX0_asItGoes_16 (by decide) ⟨by omega, by omega⟩ ⟨by omega, by omega⟩ (fun hb16 => ?_) (fun hb16 => ?_)
  · refine a_iconst dX0_asItGoes_23 ?_
    refine a_putI (j' := 2) dX0_asItGoes_24 flX0_45 rfl rfl h50 (by decide) rfl ⟨by omega, by omega⟩ ?_
    exact a_return dX0_asItGoes_27 rfl rfl rfl (zdet_V (by first | (rw [if_pos (by omega)]; done) | (rw [if_neg (by omega)]; done)))
  · refine a_iconst dX0_asItGoes_19 ?_
    refine a_goto (tgt := 24) dX0_asItGoes_20 (by decide) ?_
    refine a_putI (j' := 2) dX0_asItGoes_24 flX0_45 rfl rfl h50 (by decide) rfl ⟨by omega, by omega⟩ ?_
    exact a_return dX0_asItGoes_27 rfl rfl rfl (zdet_V (by first | (rw [if_pos (by omega)]; done) | (rw [if_neg (by omega)]; done)))

set_option maxRecDepth 100000 in
set_option maxHeartbeats 4000000 in
theorem n_lpX5_begin1 {G : zG} {l : Launch} {lay : List zKd} {P : zP} {M0 : zM} {a t : Nat} {Z : zZ} (hS : StAg lay P a) (hT : ToAg lay P t) (hd : 54 ≤ a) (ht : t ≤ 25) (hI : ToI M0 t) : ∀ (n : Nat) (i : Int) (M : zM) (g0 : 0 ≤ i) (g1 : i + n = 6) (hF : Fa a M0 M) (hj : ∀ j : Int, 0 ≤ j → j < i → M (a + 1) j = (if j < M0 t 2 then M0 (t + 2) j else 0) ∧ M (a + 2) j = (if j < M0 t 2 then M0 (t + 3) j else 0) ∧ M (a + 3) j = 0 ∧ M (a + 4) j = 0) (kk : ∀ M' : zM, Fa a M0 M' → (∀ j : Int, 0 ≤ j → j < 6 → M' (a + 1) j = (if j < M0 t 2 then M0 (t + 2) j else 0) ∧ M' (a + 2) j = (if j < M0 t 2 then M0 (t + 3) j else 0) ∧ M' (a + 3) j = 0 ∧ M' (a + 4) j = 0) → AW G l mdX5_begin Z 82 [some (aR a), some (aR t), none, none] [] lay P M' 0 0), AW G l mdX5_begin Z 2 [some (aR a), some (aR t), some (aI i), none] [] lay P M 0 0 := by
  intro n
  induction n with
  | zero =>
    intro i M g0 g1 hF hj kk
    have q1 := hI.1
    refine a_iloadn dX5_begin_2 rfl ?_
    refine a_bipush (w := 6) dX5_begin_3 (by decide) ?_
    refine a_icmp_ge (tgt := 82) dX5_begin_5 (by decide) ⟨by omega, by omega⟩ ⟨by omega, by omega⟩ (fun hb5 => ?_) (fun hb5 => ?_)
    · refine a_forget [2] (ls' := [_, _, none, none]) rfl (kk M hF (fun j j0 j1 => hj j j0 (by omega)))
    · exfalso; omega
  | succ n ih =>
    intro i M g0 g1 hF hj kk
    have q1 := hI.1
    refine a_iloadn dX5_begin_2 rfl ?_
    refine a_bipush (w := 6) dX5_begin_3 (by decide) ?_
    refine a_icmp_ge (tgt := 82) dX5_begin_5 (by decide) ⟨by omega, by omega⟩ ⟨by omega, by omega⟩ (fun hb5 => ?_) (fun hb5 => ?_)
    · exfalso; omega
    · refine a_iloadn dX5_begin_8 rfl ?_
      refine a_aloadn dX5_begin_9 rfl ?_
      refine b_getI (j' := 2) dX5_begin_10 flX5_27 rfl rfl hT.1.2.1 (fun hr10 => ?_)
      have e10 : M t 2 = M0 t 2 := by rw [hF t (by omega)]
      rw [e10] at hr10
      rw [e10]
      refine a_icmp_ge (tgt := 20) dX5_begin_13 (by decide) ⟨by omega, by omega⟩ ⟨by omega, by omega⟩ (fun hb13 => ?_) (fun hb13 => ?_)
      · refine a_iconst dX5_begin_20 ?_
        refine c_istoren (ls' := [_, _, _, _]) dX5_begin_21 (by decide) rfl rfl ?_
        refine a_aloadn dX5_begin_22 rfl ?_
        refine a_getR (j' := 0) (y := (a + 1)) dX5_begin_23 flX5_9 rfl rfl hS.2.1 hS.2.2.1.2 ?_
        refine a_iloadn dX5_begin_26 rfl ?_
        refine a_iloadn dX5_begin_27 rfl ?_
        refine a_if_eq (tgt := 40) dX5_begin_28 (by decide) ⟨by omega, by omega⟩ (fun hb28 => ?_) (fun hb28 => ?_)
        · refine a_iconst dX5_begin_40 ?_
          first
          | (rw [show M0 (t + 2) i = (if i < M0 t 2 then M0 (t + 2) i else 0) from by rw [if_pos (by omega)]])
          | (refine a_stk (st' := [aI (if i < M0 t 2 then M0 (t + 2) i else 0), aI i, aR (a + 1)]) (by rw [if_neg (by omega)]) ?_)
          refine a_iast (N := 6) dX5_begin_41 hS.2.2.1.1 (by have h9 := hS.1; omega) (by decide) (by omega) (by omega) (by split <;> exact ⟨by omega, by omega⟩) ?_
          refine a_aloadn dX5_begin_42 rfl ?_
          refine a_getR (j' := 1) (y := (a + 2)) dX5_begin_43 flX5_15 rfl rfl hS.2.1 hS.2.2.2.1.2 ?_
          refine a_iloadn dX5_begin_46 rfl ?_
          refine a_iloadn dX5_begin_47 rfl ?_
          refine a_if_eq (tgt := 60) dX5_begin_48 (by decide) ⟨by omega, by omega⟩ (fun hb48 => ?_) (fun hb48 => ?_)
          · refine a_iconst dX5_begin_60 ?_
            first
            | (rw [show M0 (t + 3) i = (if i < M0 t 2 then M0 (t + 3) i else 0) from by rw [if_pos (by omega)]])
            | (refine a_stk (st' := [aI (if i < M0 t 2 then M0 (t + 3) i else 0), aI i, aR (a + 2)]) (by rw [if_neg (by omega)]) ?_)
            refine a_iast (N := 6) dX5_begin_61 hS.2.2.2.1.1 (by have h9 := hS.1; omega) (by decide) (by omega) (by omega) (by split <;> exact ⟨by omega, by omega⟩) ?_
            refine a_aloadn dX5_begin_62 rfl ?_
            refine a_getR (j' := 2) (y := (a + 3)) dX5_begin_63 flX5_18 rfl rfl hS.2.1 hS.2.2.2.2.1.2 ?_
            refine a_iloadn dX5_begin_66 rfl ?_
            refine a_iconst dX5_begin_67 ?_
            refine a_iast (N := 6) dX5_begin_68 hS.2.2.2.2.1.1 (by have h9 := hS.1; omega) (by decide) (by omega) (by omega) ⟨by omega, by omega⟩ ?_
            refine a_aloadn dX5_begin_69 rfl ?_
            refine a_getR (j' := 3) (y := (a + 4)) dX5_begin_70 flX5_21 rfl rfl hS.2.1 hS.2.2.2.2.2.1.2 ?_
            refine a_iloadn dX5_begin_73 rfl ?_
            refine a_iconst dX5_begin_74 ?_
            refine a_iast (N := 6) dX5_begin_75 hS.2.2.2.2.2.1.1 (by have h9 := hS.1; omega) (by decide) (by omega) (by omega) ⟨by omega, by omega⟩ ?_
            refine c_iinc (ls' := [_, _, _, _]) dX5_begin_76 rfl (by decide) rfl rfl ?_
            refine a_goto (tgt := 2) dX5_begin_79 (by decide) ?_
            refine a_forget [3] (ls' := [_, _, _, none]) rfl ?_
            first
            | skip
            refine (fun h1 h2 => ih _ _ (by omega) (by omega) h1 h2 kk) ((((hF.sm (by omega) _ _).sm (by omega) _ _).sm (by omega) _ _).sm (by omega) _ _) (fun j j0 j1 => ?_)
            by_cases ej : j = i
            · subst ej
              refine ⟨?_, ?_, ?_, ?_⟩
              · rw [sm_n (by omega), sm_n (by omega), sm_n (by omega), sm_s]
              · rw [sm_n (by omega), sm_n (by omega), sm_s]
              · rw [sm_n (by omega), sm_s]
              · rw [sm_s]
            · have h9 := hj j j0 (by omega)
              refine ⟨?_, ?_, ?_, ?_⟩
              · rw [sm_n (by omega), sm_n (by omega), sm_n (by omega), sm_k, us_n ej]; exact h9.1
              · rw [sm_n (by omega), sm_n (by omega), sm_k, us_n ej, sm_n (by omega)]; exact h9.2.1
              · rw [sm_n (by omega), sm_k, us_n ej, sm_n (by omega), sm_n (by omega)]; exact h9.2.2.1
              · rw [sm_k, us_n ej, sm_n (by omega), sm_n (by omega), sm_n (by omega)]; exact h9.2.2.2
          · refine a_aloadn dX5_begin_51 rfl ?_
            refine a_getR (j' := 5) (y := (t + 3)) dX5_begin_52 flX5_34 rfl rfl hT.1.2.1 hT.1.2.2.2.2.1.2 ?_
            refine a_iloadn dX5_begin_55 rfl ?_
            refine b_iald (N := 6) dX5_begin_56 hT.1.2.2.2.2.1.1 (by decide) (by omega) (by omega) (fun hr56 => ?_)
            have q3 := hI.2.2.2.2.1 i (by omega) (by omega)
            have e56 : (sm M (a + 1) i (if i < M0 t 2 then M0 (t + 2) i else 0)) (t + 3) i = M0 (t + 3) i := by rw [sm_n (by omega), hF (t + 3) (by omega)]
            rw [e56] at hr56
            rw [e56]
            refine a_goto (tgt := 61) dX5_begin_57 (by decide) ?_
            first
            | (rw [show M0 (t + 3) i = (if i < M0 t 2 then M0 (t + 3) i else 0) from by rw [if_pos (by omega)]])
            | (refine a_stk (st' := [aI (if i < M0 t 2 then M0 (t + 3) i else 0), aI i, aR (a + 2)]) (by rw [if_neg (by omega)]) ?_)
            refine a_iast (N := 6) dX5_begin_61 hS.2.2.2.1.1 (by have h9 := hS.1; omega) (by decide) (by omega) (by omega) (by split <;> exact ⟨by omega, by omega⟩) ?_
            refine a_aloadn dX5_begin_62 rfl ?_
            refine a_getR (j' := 2) (y := (a + 3)) dX5_begin_63 flX5_18 rfl rfl hS.2.1 hS.2.2.2.2.1.2 ?_
            refine a_iloadn dX5_begin_66 rfl ?_
            refine a_iconst dX5_begin_67 ?_
            refine a_iast (N := 6) dX5_begin_68 hS.2.2.2.2.1.1 (by have h9 := hS.1; omega) (by decide) (by omega) (by omega) ⟨by omega, by omega⟩ ?_
            refine a_aloadn dX5_begin_69 rfl ?_
            refine a_getR (j' := 3) (y := (a + 4)) dX5_begin_70 flX5_21 rfl rfl hS.2.1 hS.2.2.2.2.2.1.2 ?_
            refine a_iloadn dX5_begin_73 rfl ?_
            refine a_iconst dX5_begin_74 ?_
            refine a_iast (N := 6) dX5_begin_75 hS.2.2.2.2.2.1.1 (by have h9 := hS.1; omega) (by decide) (by omega) (by omega) ⟨by omega, by omega⟩ ?_
            refine c_iinc (ls' := [_, _, _, _]) dX5_begin_76 rfl (by decide) rfl rfl ?_
            refine a_goto (tgt := 2) dX5_begin_79 (by decide) ?_
            refine a_forget [3] (ls' := [_, _, _, none]) rfl ?_
            first
            | skip
            refine (fun h1 h2 => ih _ _ (by omega) (by omega) h1 h2 kk) ((((hF.sm (by omega) _ _).sm (by omega) _ _).sm (by omega) _ _).sm (by omega) _ _) (fun j j0 j1 => ?_)
            by_cases ej : j = i
            · subst ej
              refine ⟨?_, ?_, ?_, ?_⟩
              · rw [sm_n (by omega), sm_n (by omega), sm_n (by omega), sm_s]
              · rw [sm_n (by omega), sm_n (by omega), sm_s]
              · rw [sm_n (by omega), sm_s]
              · rw [sm_s]
            · have h9 := hj j j0 (by omega)
              refine ⟨?_, ?_, ?_, ?_⟩
              · rw [sm_n (by omega), sm_n (by omega), sm_n (by omega), sm_k, us_n ej]; exact h9.1
              · rw [sm_n (by omega), sm_n (by omega), sm_k, us_n ej, sm_n (by omega)]; exact h9.2.1
              · rw [sm_n (by omega), sm_k, us_n ej, sm_n (by omega), sm_n (by omega)]; exact h9.2.2.1
              · rw [sm_k, us_n ej, sm_n (by omega), sm_n (by omega), sm_n (by omega)]; exact h9.2.2.2
        · refine a_aloadn dX5_begin_31 rfl ?_
          refine a_getR (j' := 4) (y := (t + 2)) dX5_begin_32 flX5_33 rfl rfl hT.1.2.1 hT.1.2.2.2.1.2 ?_
          refine a_iloadn dX5_begin_35 rfl ?_
          refine b_iald (N := 6) dX5_begin_36 hT.1.2.2.2.1.1 (by decide) (by omega) (by omega) (fun hr36 => ?_)
          have q2 := hI.2.2.2.1 i (by omega) (by omega)
          have e36 : M (t + 2) i = M0 (t + 2) i := by rw [hF (t + 2) (by omega)]
          rw [e36] at hr36
          rw [e36]
          refine a_goto (tgt := 41) dX5_begin_37 (by decide) ?_
          first
          | (rw [show M0 (t + 2) i = (if i < M0 t 2 then M0 (t + 2) i else 0) from by rw [if_pos (by omega)]])
          | (refine a_stk (st' := [aI (if i < M0 t 2 then M0 (t + 2) i else 0), aI i, aR (a + 1)]) (by rw [if_neg (by omega)]) ?_)
          refine a_iast (N := 6) dX5_begin_41 hS.2.2.1.1 (by have h9 := hS.1; omega) (by decide) (by omega) (by omega) (by split <;> exact ⟨by omega, by omega⟩) ?_
          refine a_aloadn dX5_begin_42 rfl ?_
          refine a_getR (j' := 1) (y := (a + 2)) dX5_begin_43 flX5_15 rfl rfl hS.2.1 hS.2.2.2.1.2 ?_
          refine a_iloadn dX5_begin_46 rfl ?_
          refine a_iloadn dX5_begin_47 rfl ?_
          refine a_if_eq (tgt := 60) dX5_begin_48 (by decide) ⟨by omega, by omega⟩ (fun hb48 => ?_) (fun hb48 => ?_)
          · refine a_iconst dX5_begin_60 ?_
            first
            | (rw [show M0 (t + 3) i = (if i < M0 t 2 then M0 (t + 3) i else 0) from by rw [if_pos (by omega)]])
            | (refine a_stk (st' := [aI (if i < M0 t 2 then M0 (t + 3) i else 0), aI i, aR (a + 2)]) (by rw [if_neg (by omega)]) ?_)
            refine a_iast (N := 6) dX5_begin_61 hS.2.2.2.1.1 (by have h9 := hS.1; omega) (by decide) (by omega) (by omega) (by split <;> exact ⟨by omega, by omega⟩) ?_
            refine a_aloadn dX5_begin_62 rfl ?_
            refine a_getR (j' := 2) (y := (a + 3)) dX5_begin_63 flX5_18 rfl rfl hS.2.1 hS.2.2.2.2.1.2 ?_
            refine a_iloadn dX5_begin_66 rfl ?_
            refine a_iconst dX5_begin_67 ?_
            refine a_iast (N := 6) dX5_begin_68 hS.2.2.2.2.1.1 (by have h9 := hS.1; omega) (by decide) (by omega) (by omega) ⟨by omega, by omega⟩ ?_
            refine a_aloadn dX5_begin_69 rfl ?_
            refine a_getR (j' := 3) (y := (a + 4)) dX5_begin_70 flX5_21 rfl rfl hS.2.1 hS.2.2.2.2.2.1.2 ?_
            refine a_iloadn dX5_begin_73 rfl ?_
            refine a_iconst dX5_begin_74 ?_
            refine a_iast (N := 6) dX5_begin_75 hS.2.2.2.2.2.1.1 (by have h9 := hS.1; omega) (by decide) (by omega) (by omega) ⟨by omega, by omega⟩ ?_
            refine c_iinc (ls' := [_, _, _, _]) dX5_begin_76 rfl (by decide) rfl rfl ?_
            refine a_goto (tgt := 2) dX5_begin_79 (by decide) ?_
            refine a_forget [3] (ls' := [_, _, _, none]) rfl ?_
            first
            | skip
            refine (fun h1 h2 => ih _ _ (by omega) (by omega) h1 h2 kk) ((((hF.sm (by omega) _ _).sm (by omega) _ _).sm (by omega) _ _).sm (by omega) _ _) (fun j j0 j1 => ?_)
            by_cases ej : j = i
            · subst ej
              refine ⟨?_, ?_, ?_, ?_⟩
              · rw [sm_n (by omega), sm_n (by omega), sm_n (by omega), sm_s]
              · rw [sm_n (by omega), sm_n (by omega), sm_s]
              · rw [sm_n (by omega), sm_s]
              · rw [sm_s]
            · have h9 := hj j j0 (by omega)
              refine ⟨?_, ?_, ?_, ?_⟩
              · rw [sm_n (by omega), sm_n (by omega), sm_n (by omega), sm_k, us_n ej]; exact h9.1
              · rw [sm_n (by omega), sm_n (by omega), sm_k, us_n ej, sm_n (by omega)]; exact h9.2.1
              · rw [sm_n (by omega), sm_k, us_n ej, sm_n (by omega), sm_n (by omega)]; exact h9.2.2.1
              · rw [sm_k, us_n ej, sm_n (by omega), sm_n (by omega), sm_n (by omega)]; exact h9.2.2.2
          · refine a_aloadn dX5_begin_51 rfl ?_
            refine a_getR (j' := 5) (y := (t + 3)) dX5_begin_52 flX5_34 rfl rfl hT.1.2.1 hT.1.2.2.2.2.1.2 ?_
            refine a_iloadn dX5_begin_55 rfl ?_
            refine b_iald (N := 6) dX5_begin_56 hT.1.2.2.2.2.1.1 (by decide) (by omega) (by omega) (fun hr56 => ?_)
            have q3 := hI.2.2.2.2.1 i (by omega) (by omega)
            have e56 : (sm M (a + 1) i (if i < M0 t 2 then M0 (t + 2) i else 0)) (t + 3) i = M0 (t + 3) i := by rw [sm_n (by omega), hF (t + 3) (by omega)]
            rw [e56] at hr56
            rw [e56]
            refine a_goto (tgt := 61) dX5_begin_57 (by decide) ?_
            first
            | (rw [show M0 (t + 3) i = (if i < M0 t 2 then M0 (t + 3) i else 0) from by rw [if_pos (by omega)]])
            | (refine a_stk (st' := [aI (if i < M0 t 2 then M0 (t + 3) i else 0), aI i, aR (a + 2)]) (by rw [if_neg (by omega)]) ?_)
            refine a_iast (N := 6) dX5_begin_61 hS.2.2.2.1.1 (by have h9 := hS.1; omega) (by decide) (by omega) (by omega) (by split <;> exact ⟨by omega, by omega⟩) ?_
            refine a_aloadn dX5_begin_62 rfl ?_
            refine a_getR (j' := 2) (y := (a + 3)) dX5_begin_63 flX5_18 rfl rfl hS.2.1 hS.2.2.2.2.1.2 ?_
            refine a_iloadn dX5_begin_66 rfl ?_
            refine a_iconst dX5_begin_67 ?_
            refine a_iast (N := 6) dX5_begin_68 hS.2.2.2.2.1.1 (by have h9 := hS.1; omega) (by decide) (by omega) (by omega) ⟨by omega, by omega⟩ ?_
            refine a_aloadn dX5_begin_69 rfl ?_
            refine a_getR (j' := 3) (y := (a + 4)) dX5_begin_70 flX5_21 rfl rfl hS.2.1 hS.2.2.2.2.2.1.2 ?_
            refine a_iloadn dX5_begin_73 rfl ?_
            refine a_iconst dX5_begin_74 ?_
            refine a_iast (N := 6) dX5_begin_75 hS.2.2.2.2.2.1.1 (by have h9 := hS.1; omega) (by decide) (by omega) (by omega) ⟨by omega, by omega⟩ ?_
            refine c_iinc (ls' := [_, _, _, _]) dX5_begin_76 rfl (by decide) rfl rfl ?_
            refine a_goto (tgt := 2) dX5_begin_79 (by decide) ?_
            refine a_forget [3] (ls' := [_, _, _, none]) rfl ?_
            first
            | skip
            refine (fun h1 h2 => ih _ _ (by omega) (by omega) h1 h2 kk) ((((hF.sm (by omega) _ _).sm (by omega) _ _).sm (by omega) _ _).sm (by omega) _ _) (fun j j0 j1 => ?_)
            by_cases ej : j = i
            · subst ej
              refine ⟨?_, ?_, ?_, ?_⟩
              · rw [sm_n (by omega), sm_n (by omega), sm_n (by omega), sm_s]
              · rw [sm_n (by omega), sm_n (by omega), sm_s]
              · rw [sm_n (by omega), sm_s]
              · rw [sm_s]
            · have h9 := hj j j0 (by omega)
              refine ⟨?_, ?_, ?_, ?_⟩
              · rw [sm_n (by omega), sm_n (by omega), sm_n (by omega), sm_k, us_n ej]; exact h9.1
              · rw [sm_n (by omega), sm_n (by omega), sm_k, us_n ej, sm_n (by omega)]; exact h9.2.1
              · rw [sm_n (by omega), sm_k, us_n ej, sm_n (by omega), sm_n (by omega)]; exact h9.2.2.1
              · rw [sm_k, us_n ej, sm_n (by omega), sm_n (by omega), sm_n (by omega)]; exact h9.2.2.2
      · refine a_iconst dX5_begin_16 ?_
        refine a_goto (tgt := 21) dX5_begin_17 (by decide) ?_
        refine c_istoren (ls' := [_, _, _, _]) dX5_begin_21 (by decide) rfl rfl ?_
        refine a_aloadn dX5_begin_22 rfl ?_
        refine a_getR (j' := 0) (y := (a + 1)) dX5_begin_23 flX5_9 rfl rfl hS.2.1 hS.2.2.1.2 ?_
        refine a_iloadn dX5_begin_26 rfl ?_
        refine a_iloadn dX5_begin_27 rfl ?_
        refine a_if_eq (tgt := 40) dX5_begin_28 (by decide) ⟨by omega, by omega⟩ (fun hb28 => ?_) (fun hb28 => ?_)
        · refine a_iconst dX5_begin_40 ?_
          first
          | (rw [show M0 (t + 2) i = (if i < M0 t 2 then M0 (t + 2) i else 0) from by rw [if_pos (by omega)]])
          | (refine a_stk (st' := [aI (if i < M0 t 2 then M0 (t + 2) i else 0), aI i, aR (a + 1)]) (by rw [if_neg (by omega)]) ?_)
          refine a_iast (N := 6) dX5_begin_41 hS.2.2.1.1 (by have h9 := hS.1; omega) (by decide) (by omega) (by omega) (by split <;> exact ⟨by omega, by omega⟩) ?_
          refine a_aloadn dX5_begin_42 rfl ?_
          refine a_getR (j' := 1) (y := (a + 2)) dX5_begin_43 flX5_15 rfl rfl hS.2.1 hS.2.2.2.1.2 ?_
          refine a_iloadn dX5_begin_46 rfl ?_
          refine a_iloadn dX5_begin_47 rfl ?_
          refine a_if_eq (tgt := 60) dX5_begin_48 (by decide) ⟨by omega, by omega⟩ (fun hb48 => ?_) (fun hb48 => ?_)
          · refine a_iconst dX5_begin_60 ?_
            first
            | (rw [show M0 (t + 3) i = (if i < M0 t 2 then M0 (t + 3) i else 0) from by rw [if_pos (by omega)]])
            | (refine a_stk (st' := [aI (if i < M0 t 2 then M0 (t + 3) i else 0), aI i, aR (a + 2)]) (by rw [if_neg (by omega)]) ?_)
            refine a_iast (N := 6) dX5_begin_61 hS.2.2.2.1.1 (by have h9 := hS.1; omega) (by decide) (by omega) (by omega) (by split <;> exact ⟨by omega, by omega⟩) ?_
            refine a_aloadn dX5_begin_62 rfl ?_
            refine a_getR (j' := 2) (y := (a + 3)) dX5_begin_63 flX5_18 rfl rfl hS.2.1 hS.2.2.2.2.1.2 ?_
            refine a_iloadn dX5_begin_66 rfl ?_
            refine a_iconst dX5_begin_67 ?_
            refine a_iast (N := 6) dX5_begin_68 hS.2.2.2.2.1.1 (by have h9 := hS.1; omega) (by decide) (by omega) (by omega) ⟨by omega, by omega⟩ ?_
            refine a_aloadn dX5_begin_69 rfl ?_
            refine a_getR (j' := 3) (y := (a + 4)) dX5_begin_70 flX5_21 rfl rfl hS.2.1 hS.2.2.2.2.2.1.2 ?_
            refine a_iloadn dX5_begin_73 rfl ?_
            refine a_iconst dX5_begin_74 ?_
            refine a_iast (N := 6) dX5_begin_75 hS.2.2.2.2.2.1.1 (by have h9 := hS.1; omega) (by decide) (by omega) (by omega) ⟨by omega, by omega⟩ ?_
            refine c_iinc (ls' := [_, _, _, _]) dX5_begin_76 rfl (by decide) rfl rfl ?_
            refine a_goto (tgt := 2) dX5_begin_79 (by decide) ?_
            refine a_forget [3] (ls' := [_, _, _, none]) rfl ?_
            first
            | skip
            refine (fun h1 h2 => ih _ _ (by omega) (by omega) h1 h2 kk) ((((hF.sm (by omega) _ _).sm (by omega) _ _).sm (by omega) _ _).sm (by omega) _ _) (fun j j0 j1 => ?_)
            by_cases ej : j = i
            · subst ej
              refine ⟨?_, ?_, ?_, ?_⟩
              · rw [sm_n (by omega), sm_n (by omega), sm_n (by omega), sm_s]
              · rw [sm_n (by omega), sm_n (by omega), sm_s]
              · rw [sm_n (by omega), sm_s]
              · rw [sm_s]
            · have h9 := hj j j0 (by omega)
              refine ⟨?_, ?_, ?_, ?_⟩
              · rw [sm_n (by omega), sm_n (by omega), sm_n (by omega), sm_k, us_n ej]; exact h9.1
              · rw [sm_n (by omega), sm_n (by omega), sm_k, us_n ej, sm_n (by omega)]; exact h9.2.1
              · rw [sm_n (by omega), sm_k, us_n ej, sm_n (by omega), sm_n (by omega)]; exact h9.2.2.1
              · rw [sm_k, us_n ej, sm_n (by omega), sm_n (by omega), sm_n (by omega)]; exact h9.2.2.2
          · refine a_aloadn dX5_begin_51 rfl ?_
            refine a_getR (j' := 5) (y := (t + 3)) dX5_begin_52 flX5_34 rfl rfl hT.1.2.1 hT.1.2.2.2.2.1.2 ?_
            refine a_iloadn dX5_begin_55 rfl ?_
            refine b_iald (N := 6) dX5_begin_56 hT.1.2.2.2.2.1.1 (by decide) (by omega) (by omega) (fun hr56 => ?_)
            have q3 := hI.2.2.2.2.1 i (by omega) (by omega)
            have e56 : (sm M (a + 1) i (if i < M0 t 2 then M0 (t + 2) i else 0)) (t + 3) i = M0 (t + 3) i := by rw [sm_n (by omega), hF (t + 3) (by omega)]
            rw [e56] at hr56
            rw [e56]
            refine a_goto (tgt := 61) dX5_begin_57 (by decide) ?_
            first
            | (rw [show M0 (t + 3) i = (if i < M0 t 2 then M0 (t + 3) i else 0) from by rw [if_pos (by omega)]])
            | (refine a_stk (st' := [aI (if i < M0 t 2 then M0 (t + 3) i else 0), aI i, aR (a + 2)]) (by rw [if_neg (by omega)]) ?_)
            refine a_iast (N := 6) dX5_begin_61 hS.2.2.2.1.1 (by have h9 := hS.1; omega) (by decide) (by omega) (by omega) (by split <;> exact ⟨by omega, by omega⟩) ?_
            refine a_aloadn dX5_begin_62 rfl ?_
            refine a_getR (j' := 2) (y := (a + 3)) dX5_begin_63 flX5_18 rfl rfl hS.2.1 hS.2.2.2.2.1.2 ?_
            refine a_iloadn dX5_begin_66 rfl ?_
            refine a_iconst dX5_begin_67 ?_
            refine a_iast (N := 6) dX5_begin_68 hS.2.2.2.2.1.1 (by have h9 := hS.1; omega) (by decide) (by omega) (by omega) ⟨by omega, by omega⟩ ?_
            refine a_aloadn dX5_begin_69 rfl ?_
            refine a_getR (j' := 3) (y := (a + 4)) dX5_begin_70 flX5_21 rfl rfl hS.2.1 hS.2.2.2.2.2.1.2 ?_
            refine a_iloadn dX5_begin_73 rfl ?_
            refine a_iconst dX5_begin_74 ?_
            refine a_iast (N := 6) dX5_begin_75 hS.2.2.2.2.2.1.1 (by have h9 := hS.1; omega) (by decide) (by omega) (by omega) ⟨by omega, by omega⟩ ?_
            refine c_iinc (ls' := [_, _, _, _]) dX5_begin_76 rfl (by decide) rfl rfl ?_
            refine a_goto (tgt := 2) dX5_begin_79 (by decide) ?_
            refine a_forget [3] (ls' := [_, _, _, none]) rfl ?_
            first
            | skip
            refine (fun h1 h2 => ih _ _ (by omega) (by omega) h1 h2 kk) ((((hF.sm (by omega) _ _).sm (by omega) _ _).sm (by omega) _ _).sm (by omega) _ _) (fun j j0 j1 => ?_)
            by_cases ej : j = i
            · subst ej
              refine ⟨?_, ?_, ?_, ?_⟩
              · rw [sm_n (by omega), sm_n (by omega), sm_n (by omega), sm_s]
              · rw [sm_n (by omega), sm_n (by omega), sm_s]
              · rw [sm_n (by omega), sm_s]
              · rw [sm_s]
            · have h9 := hj j j0 (by omega)
              refine ⟨?_, ?_, ?_, ?_⟩
              · rw [sm_n (by omega), sm_n (by omega), sm_n (by omega), sm_k, us_n ej]; exact h9.1
              · rw [sm_n (by omega), sm_n (by omega), sm_k, us_n ej, sm_n (by omega)]; exact h9.2.1
              · rw [sm_n (by omega), sm_k, us_n ej, sm_n (by omega), sm_n (by omega)]; exact h9.2.2.1
              · rw [sm_k, us_n ej, sm_n (by omega), sm_n (by omega), sm_n (by omega)]; exact h9.2.2.2
        · refine a_aloadn dX5_begin_31 rfl ?_
          refine a_getR (j' := 4) (y := (t + 2)) dX5_begin_32 flX5_33 rfl rfl hT.1.2.1 hT.1.2.2.2.1.2 ?_
          refine a_iloadn dX5_begin_35 rfl ?_
          refine b_iald (N := 6) dX5_begin_36 hT.1.2.2.2.1.1 (by decide) (by omega) (by omega) (fun hr36 => ?_)
          have q2 := hI.2.2.2.1 i (by omega) (by omega)
          have e36 : M (t + 2) i = M0 (t + 2) i := by rw [hF (t + 2) (by omega)]
          rw [e36] at hr36
          rw [e36]
          refine a_goto (tgt := 41) dX5_begin_37 (by decide) ?_
          first
          | (rw [show M0 (t + 2) i = (if i < M0 t 2 then M0 (t + 2) i else 0) from by rw [if_pos (by omega)]])
          | (refine a_stk (st' := [aI (if i < M0 t 2 then M0 (t + 2) i else 0), aI i, aR (a + 1)]) (by rw [if_neg (by omega)]) ?_)
          refine a_iast (N := 6) dX5_begin_41 hS.2.2.1.1 (by have h9 := hS.1; omega) (by decide) (by omega) (by omega) (by split <;> exact ⟨by omega, by omega⟩) ?_
          refine a_aloadn dX5_begin_42 rfl ?_
          refine a_getR (j' := 1) (y := (a + 2)) dX5_begin_43 flX5_15 rfl rfl hS.2.1 hS.2.2.2.1.2 ?_
          refine a_iloadn dX5_begin_46 rfl ?_
          refine a_iloadn dX5_begin_47 rfl ?_
          refine a_if_eq (tgt := 60) dX5_begin_48 (by decide) ⟨by omega, by omega⟩ (fun hb48 => ?_) (fun hb48 => ?_)
          · refine a_iconst dX5_begin_60 ?_
            first
            | (rw [show M0 (t + 3) i = (if i < M0 t 2 then M0 (t + 3) i else 0) from by rw [if_pos (by omega)]])
            | (refine a_stk (st' := [aI (if i < M0 t 2 then M0 (t + 3) i else 0), aI i, aR (a + 2)]) (by rw [if_neg (by omega)]) ?_)
            refine a_iast (N := 6) dX5_begin_61 hS.2.2.2.1.1 (by have h9 := hS.1; omega) (by decide) (by omega) (by omega) (by split <;> exact ⟨by omega, by omega⟩) ?_
            refine a_aloadn dX5_begin_62 rfl ?_
            refine a_getR (j' := 2) (y := (a + 3)) dX5_begin_63 flX5_18 rfl rfl hS.2.1 hS.2.2.2.2.1.2 ?_
            refine a_iloadn dX5_begin_66 rfl ?_
            refine a_iconst dX5_begin_67 ?_
            refine a_iast (N := 6) dX5_begin_68 hS.2.2.2.2.1.1 (by have h9 := hS.1; omega) (by decide) (by omega) (by omega) ⟨by omega, by omega⟩ ?_
            refine a_aloadn dX5_begin_69 rfl ?_
            refine a_getR (j' := 3) (y := (a + 4)) dX5_begin_70 flX5_21 rfl rfl hS.2.1 hS.2.2.2.2.2.1.2 ?_
            refine a_iloadn dX5_begin_73 rfl ?_
            refine a_iconst dX5_begin_74 ?_
            refine a_iast (N := 6) dX5_begin_75 hS.2.2.2.2.2.1.1 (by have h9 := hS.1; omega) (by decide) (by omega) (by omega) ⟨by omega, by omega⟩ ?_
            refine c_iinc (ls' := [_, _, _, _]) dX5_begin_76 rfl (by decide) rfl rfl ?_
            refine a_goto (tgt := 2) dX5_begin_79 (by decide) ?_
            refine a_forget [3] (ls' := [_, _, _, none]) rfl ?_
            first
            | skip
            refine (fun h1 h2 => ih _ _ (by omega) (by omega) h1 h2 kk) ((((hF.sm (by omega) _ _).sm (by omega) _ _).sm (by omega) _ _).sm (by omega) _ _) (fun j j0 j1 => ?_)
            by_cases ej : j = i
            · subst ej
              refine ⟨?_, ?_, ?_, ?_⟩
              · rw [sm_n (by omega), sm_n (by omega), sm_n (by omega), sm_s]
              · rw [sm_n (by omega), sm_n (by omega), sm_s]
              · rw [sm_n (by omega), sm_s]
              · rw [sm_s]
            · have h9 := hj j j0 (by omega)
              refine ⟨?_, ?_, ?_, ?_⟩
              · rw [sm_n (by omega), sm_n (by omega), sm_n (by omega), sm_k, us_n ej]; exact h9.1
              · rw [sm_n (by omega), sm_n (by omega), sm_k, us_n ej, sm_n (by omega)]; exact h9.2.1
              · rw [sm_n (by omega), sm_k, us_n ej, sm_n (by omega), sm_n (by omega)]; exact h9.2.2.1
              · rw [sm_k, us_n ej, sm_n (by omega), sm_n (by omega), sm_n (by omega)]; exact h9.2.2.2
          · refine a_aloadn dX5_begin_51 rfl ?_
            refine a_getR (j' := 5) (y := (t + 3)) dX5_begin_52 flX5_34 rfl rfl hT.1.2.1 hT.1.2.2.2.2.1.2 ?_
            refine a_iloadn dX5_begin_55 rfl ?_
            refine b_iald (N := 6) dX5_begin_56 hT.1.2.2.2.2.1.1 (by decide) (by omega) (by omega) (fun hr56 => ?_)
            have q3 := hI.2.2.2.2.1 i (by omega) (by omega)
            have e56 : (sm M (a + 1) i (if i < M0 t 2 then M0 (t + 2) i else 0)) (t + 3) i = M0 (t + 3) i := by rw [sm_n (by omega), hF (t + 3) (by omega)]
            rw [e56] at hr56
            rw [e56]
            refine a_goto (tgt := 61) dX5_begin_57 (by decide) ?_
            first
            | (rw [show M0 (t + 3) i = (if i < M0 t 2 then M0 (t + 3) i else 0) from by rw [if_pos (by omega)]])
            | (refine a_stk (st' := [aI (if i < M0 t 2 then M0 (t + 3) i else 0), aI i, aR (a + 2)]) (by rw [if_neg (by omega)]) ?_)
            refine a_iast (N := 6) dX5_begin_61 hS.2.2.2.1.1 (by have h9 := hS.1; omega) (by decide) (by omega) (by omega) (by split <;> exact ⟨by omega, by omega⟩) ?_
            refine a_aloadn dX5_begin_62 rfl ?_
            refine a_getR (j' := 2) (y := (a + 3)) dX5_begin_63 flX5_18 rfl rfl hS.2.1 hS.2.2.2.2.1.2 ?_
            refine a_iloadn dX5_begin_66 rfl ?_
            refine a_iconst dX5_begin_67 ?_
            refine a_iast (N := 6) dX5_begin_68 hS.2.2.2.2.1.1 (by have h9 := hS.1; omega) (by decide) (by omega) (by omega) ⟨by omega, by omega⟩ ?_
            refine a_aloadn dX5_begin_69 rfl ?_
            refine a_getR (j' := 3) (y := (a + 4)) dX5_begin_70 flX5_21 rfl rfl hS.2.1 hS.2.2.2.2.2.1.2 ?_
            refine a_iloadn dX5_begin_73 rfl ?_
            refine a_iconst dX5_begin_74 ?_
            refine a_iast (N := 6) dX5_begin_75 hS.2.2.2.2.2.1.1 (by have h9 := hS.1; omega) (by decide) (by omega) (by omega) ⟨by omega, by omega⟩ ?_
            refine c_iinc (ls' := [_, _, _, _]) dX5_begin_76 rfl (by decide) rfl rfl ?_
            refine a_goto (tgt := 2) dX5_begin_79 (by decide) ?_
            refine a_forget [3] (ls' := [_, _, _, none]) rfl ?_
            first
            | skip
            refine (fun h1 h2 => ih _ _ (by omega) (by omega) h1 h2 kk) ((((hF.sm (by omega) _ _).sm (by omega) _ _).sm (by omega) _ _).sm (by omega) _ _) (fun j j0 j1 => ?_)
            by_cases ej : j = i
            · subst ej
              refine ⟨?_, ?_, ?_, ?_⟩
              · rw [sm_n (by omega), sm_n (by omega), sm_n (by omega), sm_s]
              · rw [sm_n (by omega), sm_n (by omega), sm_s]
              · rw [sm_n (by omega), sm_s]
              · rw [sm_s]
            · have h9 := hj j j0 (by omega)
              refine ⟨?_, ?_, ?_, ?_⟩
              · rw [sm_n (by omega), sm_n (by omega), sm_n (by omega), sm_k, us_n ej]; exact h9.1
              · rw [sm_n (by omega), sm_n (by omega), sm_k, us_n ej, sm_n (by omega)]; exact h9.2.1
              · rw [sm_n (by omega), sm_k, us_n ej, sm_n (by omega), sm_n (by omega)]; exact h9.2.2.1
              · rw [sm_k, us_n ej, sm_n (by omega), sm_n (by omega), sm_n (by omega)]; exact h9.2.2.2

set_option maxRecDepth 100000 in
set_option maxHeartbeats 4000000 in
theorem n_lpX5_begin2 {G : zG} {l : Launch} {lay : List zKd} {P : zP} {M0 : zM} {a t : Nat} (hS : StAg lay P a) (hT : ToAg lay P t) (hd : 54 ≤ a) (ht : t ≤ 25) (hI : ToI M0 t) : ∀ (n : Nat) (i : Int) (M : zM) (g0 : 0 ≤ i) (g1 : i + n = 36) (hF : Fa a M0 M) (h6 : ∀ j : Int, 0 ≤ j → j < 6 → M (a + 1) j = (if j < M0 t 2 then M0 (t + 2) j else 0) ∧ M (a + 2) j = (if j < M0 t 2 then M0 (t + 3) j else 0) ∧ M (a + 3) j = 0 ∧ M (a + 4) j = 0) (hj : ∀ j : Int, 0 ≤ j → j < i → M (a + 5) j = 0), AW G l mdX5_begin (zrel none lay P (BgR M0 a t)) 84 [some (aR a), some (aR t), some (aI i), none] [] lay P M 0 0 := by
  intro n
  induction n with
  | zero =>
    intro i M g0 g1 hF h6 hj
    refine a_iloadn dX5_begin_84 rfl ?_
    refine a_aloadn dX5_begin_85 rfl ?_
    refine a_getR (j' := 4) (y := (a + 5)) dX5_begin_86 flX5_24 rfl rfl hS.2.1 hS.2.2.2.2.2.2.2 ?_
    refine a_alen (w := 36) dX5_begin_89 hS.2.2.2.2.2.2.1 (by decide) rfl ?_
    refine a_icmp_ge (tgt := 106) dX5_begin_90 (by decide) ⟨by omega, by omega⟩ ⟨by omega, by omega⟩ (fun hb90 => ?_) (fun hb90 => ?_)
    · refine a_aloadn dX5_begin_106 rfl ?_
      refine a_iconst dX5_begin_107 ?_
      refine a_putI (j' := 5) dX5_begin_108 flX5_35 rfl rfl hS.2.1 hS.1 rfl ⟨by omega, by omega⟩ ?_
      refine a_aloadn dX5_begin_111 rfl ?_
      refine a_aloadn dX5_begin_112 rfl ?_
      refine a_getR (j' := 14) (y := (t + 10)) dX5_begin_113 flX5_38 rfl rfl hT.1.2.1 hT.1.2.2.2.2.2.2.2.2.2.2.2.1.2 ?_
      refine a_iconst dX5_begin_116 ?_
      refine b_iald (N := 4) dX5_begin_117 hT.1.2.2.2.2.2.2.2.2.2.2.2.1.1 (by decide) (by omega) (by omega) (fun hr117 => ?_)
      have e117 : sm M a 5 0 (t + 10) 3 = M0 (t + 10) 3 := by rw [sm_n (by omega), hF (t + 10) (by omega)]
      rw [e117] at hr117
      rw [e117]
      refine a_putI (j' := 6) dX5_begin_118 flX5_41 rfl rfl hS.2.1 hS.1 rfl hr117 ?_
      have hr : BgR M0 a t (sm (sm M a 5 0) a 6 (M0 (t + 10) 3)) := by
        refine ⟨fun j j0 j1 => ?_, fun j j0 j1 => ?_, ?_, ?_, fun k hk => ?_⟩
        · rw [sm_n (by omega), sm_n (by omega), sm_n (by omega), sm_n (by omega), sm_n (by omega), sm_n (by omega), sm_n (by omega), sm_n (by omega)]
          exact h6 j j0 j1
        · rw [sm_n (by omega), sm_n (by omega)]; exact hj j j0 (by omega)
        · rw [sm_k, us_n (by decide), sm_s]
        · rw [sm_s]
        · rw [sm_n (by omega), sm_n (by omega)]; exact hF k hk
      exact a_return dX5_begin_121 rfl rfl rfl (zrel_V hr)
    · exfalso; omega
  | succ n ih =>
    intro i M g0 g1 hF h6 hj
    refine a_iloadn dX5_begin_84 rfl ?_
    refine a_aloadn dX5_begin_85 rfl ?_
    refine a_getR (j' := 4) (y := (a + 5)) dX5_begin_86 flX5_24 rfl rfl hS.2.1 hS.2.2.2.2.2.2.2 ?_
    refine a_alen (w := 36) dX5_begin_89 hS.2.2.2.2.2.2.1 (by decide) rfl ?_
    refine a_icmp_ge (tgt := 106) dX5_begin_90 (by decide) ⟨by omega, by omega⟩ ⟨by omega, by omega⟩ (fun hb90 => ?_) (fun hb90 => ?_)
    · exfalso; omega
    · refine a_aloadn dX5_begin_93 rfl ?_
      refine a_getR (j' := 4) (y := (a + 5)) dX5_begin_94 flX5_24 rfl rfl hS.2.1 hS.2.2.2.2.2.2.2 ?_
      refine a_iloadn dX5_begin_97 rfl ?_
      refine a_iconst dX5_begin_98 ?_
      refine a_iast (N := 36) dX5_begin_99 hS.2.2.2.2.2.2.1 (by have h9 := hS.1; omega) (by decide) (by omega) (by omega) ⟨by omega, by omega⟩ ?_
      refine c_iinc (ls' := [_, _, _, _]) dX5_begin_100 rfl (by decide) rfl rfl ?_
      refine a_goto (tgt := 84) dX5_begin_103 (by decide) ?_
      refine ih _ _ (by omega) (by omega) (hF.sm (by omega) _ _) (fun j j0 j1 => ?_) (fun j j0 j1 => ?_)
      · rw [sm_n (by omega), sm_n (by omega), sm_n (by omega), sm_n (by omega)]; exact h6 j j0 j1
      · by_cases ej : j = i
        · rw [ej, sm_s]
        · rw [sm_k, us_n ej]; exact hj j j0 (by omega)

set_option maxRecDepth 100000 in
set_option maxHeartbeats 4000000 in
theorem n_m_X5_begin {G : zG} {l : Launch} {lay : List zKd} {P : zP} {M : zM} {a t : Nat} (hS : StAg lay P a) (hT : ToAg lay P t) (hd : 54 ≤ a) (ht : t ≤ 25) (hI : ToI M t) : AM G l yX5_begin mdX5_begin [aR a, aR t] lay P M (zrel none lay P (BgR M a t)) := by
  refine AM.go [some (aR a), some (aR t), none, none] rfl (Nat.le_of_ble_eq_true rfl) ?_ (by decide) rfl rfl
  refine a_iconst dX5_begin_0 ?_
  refine c_istoren (ls' := [_, _, _, _]) dX5_begin_1 (by decide) rfl rfl ?_
  refine n_lpX5_begin1 hS hT hd ht hI 6 0 M (by omega) (by omega) (Fa.rf a M) (fun j j0 j1 => by omega) (fun M1 h1 h2 => ?_)
  refine a_iconst dX5_begin_82 ?_
  refine c_istoren (ls' := [_, _, _, _]) dX5_begin_83 (by decide) rfl rfl ?_
  exact n_lpX5_begin2 hS hT hd ht hI 36 0 M1 (by omega) (by omega) h1 h2 (fun j j0 j1 => by omega)

set_option maxRecDepth 100000 in
set_option maxHeartbeats 4000000 in
theorem n_lpX8_clear1 {G : zG} {l : Launch} {lay : List zKd} {P : zP} {M0 : zM} {t : Nat} {Z : zZ} (hT : ToAg lay P t) : ∀ (n : Nat) (i : Int) (M : zM) (g0 : 0 ≤ i) (g1 : i + n = 4) (hf : ∀ k : Nat, k ≠ t + 11 → M k = M0 k) (hj : ∀ j : Int, 0 ≤ j → j < i → M (t + 11) j = 0) (kk : ∀ M' : zM, (∀ k : Nat, k ≠ t + 11 → M' k = M0 k) → (∀ j : Int, 0 ≤ j → j < 4 → M' (t + 11) j = 0) → AW G l mdX8_clear Z 45 [some (aR t), none] [] lay P M' 0 0), AW G l mdX8_clear Z 27 [some (aR t), some (aI i)] [] lay P M 0 0 := by
  intro n
  induction n with
  | zero =>
    intro i M g0 g1 hf hj kk
    refine a_iloadn dX8_clear_27 rfl ?_
    refine a_iconst dX8_clear_28 ?_
    refine a_icmp_ge (tgt := 45) dX8_clear_29 (by decide) ⟨by omega, by omega⟩ ⟨by omega, by omega⟩ (fun hb29 => ?_) (fun hb29 => ?_)
    · refine a_forget [1] (ls' := [_, none]) rfl (kk M hf (fun j j0 j1 => hj j j0 (by omega)))
    · exfalso; omega
  | succ n ih =>
    intro i M g0 g1 hf hj kk
    refine a_iloadn dX8_clear_27 rfl ?_
    refine a_iconst dX8_clear_28 ?_
    refine a_icmp_ge (tgt := 45) dX8_clear_29 (by decide) ⟨by omega, by omega⟩ ⟨by omega, by omega⟩ (fun hb29 => ?_) (fun hb29 => ?_)
    · exfalso; omega
    · refine a_aloadn dX8_clear_32 rfl ?_
      refine a_getR (j' := 15) (y := (t + 11)) dX8_clear_33 flX8_42 rfl rfl hT.1.2.1 hT.1.2.2.2.2.2.2.2.2.2.2.2.2.1.2 ?_
      refine a_iloadn dX8_clear_36 rfl ?_
      refine a_iconst dX8_clear_37 ?_
      refine a_zast (N := 4) dX8_clear_38 hT.1.2.2.2.2.2.2.2.2.2.2.2.2.1.1 (by have h9 := hT.1.1; omega) (by decide) (by omega) (by omega) (by omega) ?_
      refine c_iinc (ls' := [_, _]) dX8_clear_39 rfl (by decide) rfl rfl ?_
      refine a_goto (tgt := 27) dX8_clear_42 (by decide) ?_
      refine ih _ _ (by omega) (by omega) (fun k hk => by rw [sm_n hk]; exact hf k hk) (fun j j0 j1 => ?_) kk
      rw [sm_k]
      by_cases ej : j = i
      · subst ej; rw [us_s]
      · rw [us_n ej]; exact hj j j0 (by omega)

set_option maxRecDepth 100000 in
set_option maxHeartbeats 4000000 in
theorem n_tlX8_clear {G : zG} {l : Launch} {lay : List zKd} {P : zP} {t : Nat} {M : zM} (hT : ToAg lay P t) : AW G l mdX8_clear (zdet none lay P (sm (sm (sm (sm (sm (sm (sm M (t + 10) 0 3) (t + 10) 1 2) (t + 10) 2 0) (t + 10) 3 0) (t + 13) 1 0) (t + 15) 1 0) (t + 17) 1 0)) 45 [some (aR t), none] [] lay P M 0 0 := by
  refine a_aloadn dX8_clear_45 rfl ?_
  refine a_getR (j' := 14) (y := (t + 10)) dX8_clear_46 flX8_39 rfl rfl hT.1.2.1 hT.1.2.2.2.2.2.2.2.2.2.2.2.1.2 ?_
  refine a_iconst dX8_clear_49 ?_
  refine a_iconst dX8_clear_50 ?_
  refine a_iast (N := 4) dX8_clear_51 hT.1.2.2.2.2.2.2.2.2.2.2.2.1.1 (by have h9 := hT.1.1; omega) (by decide) (by decide) (by decide) ⟨by decide, by decide⟩ ?_
  refine a_aloadn dX8_clear_52 rfl ?_
  refine a_getR (j' := 14) (y := (t + 10)) dX8_clear_53 flX8_39 rfl rfl hT.1.2.1 hT.1.2.2.2.2.2.2.2.2.2.2.2.1.2 ?_
  refine a_iconst dX8_clear_56 ?_
  refine a_iconst dX8_clear_57 ?_
  refine a_iast (N := 4) dX8_clear_58 hT.1.2.2.2.2.2.2.2.2.2.2.2.1.1 (by have h9 := hT.1.1; omega) (by decide) (by decide) (by decide) ⟨by decide, by decide⟩ ?_
  refine a_aloadn dX8_clear_59 rfl ?_
  refine a_getR (j' := 14) (y := (t + 10)) dX8_clear_60 flX8_39 rfl rfl hT.1.2.1 hT.1.2.2.2.2.2.2.2.2.2.2.2.1.2 ?_
  refine a_iconst dX8_clear_63 ?_
  refine a_iconst dX8_clear_64 ?_
  refine a_iast (N := 4) dX8_clear_65 hT.1.2.2.2.2.2.2.2.2.2.2.2.1.1 (by have h9 := hT.1.1; omega) (by decide) (by decide) (by decide) ⟨by decide, by decide⟩ ?_
  refine a_aloadn dX8_clear_66 rfl ?_
  refine a_getR (j' := 14) (y := (t + 10)) dX8_clear_67 flX8_39 rfl rfl hT.1.2.1 hT.1.2.2.2.2.2.2.2.2.2.2.2.1.2 ?_
  refine a_iconst dX8_clear_70 ?_
  refine a_iconst dX8_clear_71 ?_
  refine a_iast (N := 4) dX8_clear_72 hT.1.2.2.2.2.2.2.2.2.2.2.2.1.1 (by have h9 := hT.1.1; omega) (by decide) (by decide) (by decide) ⟨by decide, by decide⟩ ?_
  refine a_iconst dX8_clear_73 ?_
  refine c_istoren (ls' := [_, _]) dX8_clear_74 (by decide) rfl rfl ?_
  refine a_iloadn dX8_clear_75 rfl ?_
  refine a_iconst dX8_clear_76 ?_
  refine a_icmp_ge (tgt := 96) dX8_clear_77 (by decide) ⟨by decide, by decide⟩ ⟨by decide, by decide⟩ (fun hb => absurd hb (by decide)) (fun _ => ?_)
  refine a_aloadn dX8_clear_80 rfl ?_
  refine a_getR (j' := 16) (y := (t + 12)) dX8_clear_81 flX8_48 rfl rfl hT.1.2.1 hT.1.2.2.2.2.2.2.2.2.2.2.2.2.2.2 ?_
  refine a_iloadn dX8_clear_84 rfl ?_
  refine a_aald3 (N := 3) (y := (t + 13)) dX8_clear_85 hT.1.2.2.2.2.2.2.2.2.2.2.2.2.2.1 (by decide) (by decide) (by decide) hT.2.1.1 ?_
  refine a_iconst dX8_clear_86 ?_
  refine a_putI (j' := 1) dX8_clear_87 flX8_72 rfl rfl hT.2.1.2.2.1 hT.2.1.2.1 rfl ⟨by decide, by decide⟩ ?_
  refine c_iinc (ls' := [_, some (aI 1)]) dX8_clear_90 rfl (by decide) rfl rfl ?_
  refine a_goto (tgt := 75) dX8_clear_93 (by decide) ?_
  refine a_iloadn dX8_clear_75 rfl ?_
  refine a_iconst dX8_clear_76 ?_
  refine a_icmp_ge (tgt := 96) dX8_clear_77 (by decide) ⟨by decide, by decide⟩ ⟨by decide, by decide⟩ (fun hb => absurd hb (by decide)) (fun _ => ?_)
  refine a_aloadn dX8_clear_80 rfl ?_
  refine a_getR (j' := 16) (y := (t + 12)) dX8_clear_81 flX8_48 rfl rfl hT.1.2.1 hT.1.2.2.2.2.2.2.2.2.2.2.2.2.2.2 ?_
  refine a_iloadn dX8_clear_84 rfl ?_
  refine a_aald3 (N := 3) (y := (t + 15)) dX8_clear_85 hT.1.2.2.2.2.2.2.2.2.2.2.2.2.2.1 (by decide) (by decide) (by decide) hT.2.2.1.1 ?_
  refine a_iconst dX8_clear_86 ?_
  refine a_putI (j' := 1) dX8_clear_87 flX8_72 rfl rfl hT.2.2.1.2.2.1 hT.2.2.1.2.1 rfl ⟨by decide, by decide⟩ ?_
  refine c_iinc (ls' := [_, some (aI 2)]) dX8_clear_90 rfl (by decide) rfl rfl ?_
  refine a_goto (tgt := 75) dX8_clear_93 (by decide) ?_
  refine a_iloadn dX8_clear_75 rfl ?_
  refine a_iconst dX8_clear_76 ?_
  refine a_icmp_ge (tgt := 96) dX8_clear_77 (by decide) ⟨by decide, by decide⟩ ⟨by decide, by decide⟩ (fun hb => absurd hb (by decide)) (fun _ => ?_)
  refine a_aloadn dX8_clear_80 rfl ?_
  refine a_getR (j' := 16) (y := (t + 12)) dX8_clear_81 flX8_48 rfl rfl hT.1.2.1 hT.1.2.2.2.2.2.2.2.2.2.2.2.2.2.2 ?_
  refine a_iloadn dX8_clear_84 rfl ?_
  refine a_aald3 (N := 3) (y := (t + 17)) dX8_clear_85 hT.1.2.2.2.2.2.2.2.2.2.2.2.2.2.1 (by decide) (by decide) (by decide) hT.2.2.2.1 ?_
  refine a_iconst dX8_clear_86 ?_
  refine a_putI (j' := 1) dX8_clear_87 flX8_72 rfl rfl hT.2.2.2.2.2.1 hT.2.2.2.2.1 rfl ⟨by decide, by decide⟩ ?_
  refine c_iinc (ls' := [_, some (aI 3)]) dX8_clear_90 rfl (by decide) rfl rfl ?_
  refine a_goto (tgt := 75) dX8_clear_93 (by decide) ?_
  refine a_iloadn dX8_clear_75 rfl ?_
  refine a_iconst dX8_clear_76 ?_
  refine a_icmp_ge (tgt := 96) dX8_clear_77 (by decide) ⟨by decide, by decide⟩ ⟨by decide, by decide⟩ (fun _ => ?_) (fun hb => absurd (show (3 : Int) ≤ 3 by decide) hb)
  exact a_return dX8_clear_96 rfl rfl rfl (zdet_V rfl)

set_option maxRecDepth 100000 in
set_option maxHeartbeats 4000000 in
theorem n_m_X8_clear {G : zG} {l : Launch} {lay : List zKd} {P : zP} {M : zM} {t : Nat} (hT : ToAg lay P t) (ht : t = 4 ∨ t = 23) : AM G l yX8_clear mdX8_clear [aR t] lay P M (zrel none lay P (fun M' => clT t M M')) := by
  refine AM.go [some (aR t), none] rfl (Nat.le_of_ble_eq_true rfl) ?_ (by decide) rfl rfl
  refine a_aloadn dX8_clear_0 rfl ?_
  refine a_iconst dX8_clear_1 ?_
  refine a_putI (j' := 0) dX8_clear_2 flX8_56 rfl rfl hT.1.2.1 hT.1.1 rfl ⟨by omega, by omega⟩ ?_
  refine a_aloadn dX8_clear_5 rfl ?_
  refine a_iconst dX8_clear_6 ?_
  refine a_putI (j' := 1) dX8_clear_7 flX8_60 rfl rfl hT.1.2.1 hT.1.1 rfl ⟨by omega, by omega⟩ ?_
  refine a_aloadn dX8_clear_10 rfl ?_
  refine a_iconst dX8_clear_11 ?_
  refine a_putI (j' := 2) dX8_clear_12 flX8_63 rfl rfl hT.1.2.1 hT.1.1 rfl ⟨by omega, by omega⟩ ?_
  refine a_aloadn dX8_clear_15 rfl ?_
  refine a_iconst dX8_clear_16 ?_
  refine a_putI (j' := 6) dX8_clear_17 flX8_66 rfl rfl hT.1.2.1 hT.1.1 rfl ⟨by omega, by omega⟩ ?_
  refine a_aloadn dX8_clear_20 rfl ?_
  refine a_iconst dX8_clear_21 ?_
  refine a_putI (j' := 10) dX8_clear_22 flX8_69 rfl rfl hT.1.2.1 hT.1.1 rfl ⟨by omega, by omega⟩ ?_
  refine a_iconst dX8_clear_25 ?_
  refine c_istoren (ls' := [_, _]) dX8_clear_26 (by decide) rfl rfl ?_
  refine n_lpX8_clear1 hT 4 0 _ (by omega) (by omega) (fun _ _ => rfl) (fun j j0 j1 => by omega) (fun M1 h1 h2 => ?_)
  refine AW.mono2 (n_tlX8_clear hT) ?_
  rintro r lay P' M' ⟨rfl, rfl, rfl, rfl⟩
  refine zrel_V ?_
  have et : M1 t = sm (sm (sm (sm (sm M t 0 0) t 1 0) t 2 0) t 6 0) t 10 0 t := h1 t (by omega)
  refine ⟨fun i hi => ?_, ?_, fun i i0 i1 => ?_, ?_, ?_, fun k k1 k2 k3 k4 k5 k6 => ?_⟩
  · rw [sm_n (by omega), sm_n (by omega), sm_n (by omega), sm_n (by omega), sm_n (by omega), sm_n (by omega), sm_n (by omega), et, sm_k, us_n (by omega), sm_k, us_n (by omega), sm_k, us_n (by omega), sm_k, us_n (by omega), sm_k, us_n (by omega)]
  · rw [sm_n (by omega), sm_n (by omega), sm_n (by omega), sm_n (by omega), sm_n (by omega), sm_n (by omega), sm_n (by omega), et]
    refine ⟨?_, ?_, ?_, ?_, ?_⟩ <;> simp [sm, ur, us]
  · rw [sm_n (by omega), sm_n (by omega), sm_n (by omega), sm_n (by omega), sm_n (by omega), sm_n (by omega), sm_n (by omega)]; exact h2 i i0 i1
  · rw [sm_n (by omega), sm_n (by omega), sm_n (by omega)]
    refine ⟨?_, ?_, ?_, ?_⟩ <;> simp [sm, ur, us]
  · refine ⟨?_, ?_, ?_⟩
    · rw [sm_n (by omega), sm_n (by omega), sm_s]
    · rw [sm_n (by omega), sm_s]
    · rw [sm_s]
  · rw [sm_n k6, sm_n k5, sm_n k4, sm_n k2, sm_n k2, sm_n k2, sm_n k2, h1 k k3, sm_n k1, sm_n k1, sm_n k1, sm_n k1, sm_n k1]

end ZGN
