theorem m_isHouse1 {G : zG} {l : Launch} {L : Nat} {P : zP} {M : zM} {x : Int} (hx : inR x) : AM G l yX11_isHouse mdX11_isHouse [aR 209, aI x] (LAY L) P M (zone (LAY L) P M (fun r => (r = 1 ∧ 0 ≤ x ∧ x < M 209 12) ∨ (r = 0 ∧ (x < 0 ∨ M 209 12 ≤ x)))) := by
  refine (m_X11_isHouse (G := G) (l := l) hx).mono ?_
  rintro r lay P' M' ⟨rfl, rfl, rfl, rfl⟩
  refine zone_i ?_
  split <;> omega
theorem m_isIn1 {G : zG} {l : Launch} {L : Nat} {P : zP} {M : zM} {x lo hi : Int} (hx : inR x) (hlo : inR lo) (hhi : inR hi) : AM G l yX11_isIn mdX11_isIn [aI x, aI lo, aI hi] (LAY L) P M (zone (LAY L) P M (fun r => (r = 1 ∧ lo ≤ x ∧ x ≤ hi) ∨ (r = 0 ∧ (x < lo ∨ hi < x)))) := by
  refine (m_X11_isIn (G := G) (l := l) hx hlo hhi).mono ?_
  rintro r lay P' M' ⟨rfl, rfl, rfl, rfl⟩
  refine zone_i ?_
  split <;> omega
theorem m_areTwo1 {G : zG} {l : Launch} {L : Nat} {P : zP} {M : zM} {x y : Int} (hx : inR x) (hy : inR y) : AM G l yX11_areTwo mdX11_areTwo [aR 209, aI x, aI y] (LAY L) P M (zone (LAY L) P M (fun r => (r = 1 ∧ two (M 209 12) x y) ∨ (r = 0 ∧ ¬ two (M 209 12) x y))) := by
  refine (m_X11_areTwo (G := G) (l := l) hx hy).mono ?_
  rintro r lay P' M' ⟨rfl, rfl, rfl, rfl⟩
  refine zone_i ?_
  split <;> omega

theorem ior0 {x : Int} (h : inR x) : b_ior x 0 = x := by
  unfold b_ior
  rw [show Int32.ofInt 0 = 0 from by decide, Int32.or_zero, z32 h]

set_option maxRecDepth 100000 in
set_option maxHeartbeats 4000000 in
theorem m_X11_plainTried {G : zG} {l : Launch} {L : Nat} {P : zP} {M : zM}  (hP : PFok P) : AM G l yX11_plainTried mdX11_plainTried [aR 209] (LAY L) P M (zdet none (LAY L) P (ptM M)) := by
  refine AM.go [some (aR 209)] rfl (Nat.le_of_ble_eq_true rfl) ?_ (by decide) rfl rfl
  refine a_aloadn dX11_plainTried_0 rfl ?_
  refine a_iconst dX11_plainTried_1 ?_
  refine a_putZ (j' := 55) dX11_plainTried_2 flX11_334 rfl rfl (L209 L) (by decide) rfl (by omega) ?_
  refine a_aloadn dX11_plainTried_5 rfl ?_
  refine a_iconst dX11_plainTried_6 ?_
  refine a_putZ (j' := 56) dX11_plainTried_7 flX11_337 rfl rfl (L209 L) (by decide) rfl (by omega) ?_
  refine a_aloadn dX11_plainTried_10 rfl ?_
  refine a_iconst dX11_plainTried_11 ?_
  refine a_putZ (j' := 57) dX11_plainTried_12 flX11_340 rfl rfl (L209 L) (by decide) rfl (by omega) ?_
  refine a_aloadn dX11_plainTried_15 rfl ?_
  refine a_iconst dX11_plainTried_16 ?_
  refine a_putZ (j' := 58) dX11_plainTried_17 flX11_343 rfl rfl (L209 L) (by decide) rfl (by omega) ?_
  refine a_aloadn dX11_plainTried_20 rfl ?_
  refine a_iconst dX11_plainTried_21 ?_
  refine a_putI (j' := 59) dX11_plainTried_22 flX11_346 rfl rfl (L209 L) (by decide) rfl ⟨by omega, by omega⟩ ?_
  refine a_aloadn dX11_plainTried_25 rfl ?_
  refine a_aloadn dX11_plainTried_26 rfl ?_
  refine a_getR (j' := 21) (y := 213) dX11_plainTried_27 flX11_24 rfl rfl (L209 L) (p209_21 hP) ?_
  refine a_iconst dX11_plainTried_30 ?_
  refine b_iald (N := 8) dX11_plainTried_31 (L213 L) (by decide) (by omega) (by omega) (fun hr31 => ?_)
  have e31 : sm (sm (sm (sm (sm M 209 55 0) 209 56 0) 209 57 0) 209 58 0) 209 59 (-1) 213 0 = M 213 0 := by rw [sm_n (by decide), sm_n (by decide), sm_n (by decide), sm_n (by decide), sm_n (by decide)]
  rw [e31] at hr31
  rw [e31]
  refine a_putI (j' := 60) dX11_plainTried_32 flX11_349 rfl rfl (L209 L) (by decide) rfl hr31 ?_
  exact a_return dX11_plainTried_35 rfl rfl rfl (zdet_V rfl)

set_option maxRecDepth 100000 in
set_option maxHeartbeats 4000000 in
theorem lpX11_layTried1 {G : zG} {l : Launch} {L : Nat} {P : zP} {M0 : zM} {Z : zZ} (hP : PFok P) : ∀ (n : Nat) (i : Int) (M : zM) (g0 : 0 ≤ i) (g1 : i + n = 6) (hq : Rq M0 M) (hj : (∀ j : Int, 0 ≤ j → j < i → M 233 (6 * 1 + j) = M0 233 j ∧ M 234 (6 * 1 + j) = M0 234 j ∧ M 235 (6 * 1 + j) = M0 235 j)) (kk : ∀ M' : zM, Rq M0 M' → (∀ j : Int, 0 ≤ j → j < 6 → M' 233 (6 * 1 + j) = M0 233 j ∧ M' 234 (6 * 1 + j) = M0 234 j ∧ M' 235 (6 * 1 + j) = M0 235 j) → AW G l mdX11_layTried Z 59 [some (aR 209), none] [] (LAY L) P M' 0 0), AW G l mdX11_layTried Z 2 [some (aR 209), some (aI i)] [] (LAY L) P M 0 0 := by
  intro n
  induction n with
  | zero =>
    intro i M g0 g1 hq hj kk
    refine a_iloadn dX11_layTried_2 rfl ?_
    refine a_bipush (w := 6) dX11_layTried_3 (by decide) ?_
    refine a_icmp_ge (tgt := 59) dX11_layTried_5 (by decide) ⟨by omega, by omega⟩ ⟨by omega, by omega⟩ (fun hb5 => ?_) (fun hb5 => ?_)
    · refine a_forget [1] (ls' := [_, none]) rfl (kk M hq (fun j j0 j1 => hj j j0 (by omega)))
    · exfalso; omega
  | succ n ih =>
    intro i M g0 g1 hq hj kk
    refine a_iloadn dX11_layTried_2 rfl ?_
    refine a_bipush (w := 6) dX11_layTried_3 (by decide) ?_
    refine a_icmp_ge (tgt := 59) dX11_layTried_5 (by decide) ⟨by omega, by omega⟩ ⟨by omega, by omega⟩ (fun hb5 => ?_) (fun hb5 => ?_)
    · exfalso; omega
    · refine a_aloadn dX11_layTried_8 rfl ?_
      refine a_getR (j' := 48) (y := 233) dX11_layTried_9 flX11_85 rfl rfl (L209 L) (p209_48 hP) ?_
      refine a_bipush (w := 6) dX11_layTried_12 (by decide) ?_
      refine a_iloadn dX11_layTried_14 rfl ?_
      refine a_iadd dX11_layTried_15 ?_
      refine a_aloadn dX11_layTried_16 rfl ?_
      refine a_getR (j' := 48) (y := 233) dX11_layTried_17 flX11_85 rfl rfl (L209 L) (p209_48 hP) ?_
      refine a_iloadn dX11_layTried_20 rfl ?_
      refine b_iald (N := 12) dX11_layTried_21 (L233 L) (by decide) (by omega) (by omega) (fun hr21 => ?_)
      have e21 : M 233 i = M0 233 i := by rw [hq 233 i (by omega)]
      rw [e21] at hr21
      rw [e21]
      refine a_iast (N := 12) dX11_layTried_22 (L233 L) (by decide) (by decide) (by omega) (by omega) hr21 ?_
      refine a_aloadn dX11_layTried_23 rfl ?_
      refine a_getR (j' := 49) (y := 234) dX11_layTried_24 flX11_88 rfl rfl (L209 L) (p209_49 hP) ?_
      refine a_bipush (w := 6) dX11_layTried_27 (by decide) ?_
      refine a_iloadn dX11_layTried_29 rfl ?_
      refine a_iadd dX11_layTried_30 ?_
      refine a_aloadn dX11_layTried_31 rfl ?_
      refine a_getR (j' := 49) (y := 234) dX11_layTried_32 flX11_88 rfl rfl (L209 L) (p209_49 hP) ?_
      refine a_iloadn dX11_layTried_35 rfl ?_
      refine b_iald (N := 12) dX11_layTried_36 (L234 L) (by decide) (by omega) (by omega) (fun hr36 => ?_)
      have e36 : (sm M 233 (6 + i) (M0 233 i)) 234 i = M0 234 i := by rw [sm_n (by decide), hq 234 i (by omega)]
      rw [e36] at hr36
      rw [e36]
      refine a_iast (N := 12) dX11_layTried_37 (L234 L) (by decide) (by decide) (by omega) (by omega) hr36 ?_
      refine a_aloadn dX11_layTried_38 rfl ?_
      refine a_getR (j' := 50) (y := 235) dX11_layTried_39 flX11_91 rfl rfl (L209 L) (p209_50 hP) ?_
      refine a_bipush (w := 6) dX11_layTried_42 (by decide) ?_
      refine a_iloadn dX11_layTried_44 rfl ?_
      refine a_iadd dX11_layTried_45 ?_
      refine a_aloadn dX11_layTried_46 rfl ?_
      refine a_getR (j' := 50) (y := 235) dX11_layTried_47 flX11_91 rfl rfl (L209 L) (p209_50 hP) ?_
      refine a_iloadn dX11_layTried_50 rfl ?_
      refine b_iald (N := 12) dX11_layTried_51 (L235 L) (by decide) (by omega) (by omega) (fun hr51 => ?_)
      have e51 : (sm (sm M 233 (6 + i) (M0 233 i)) 234 (6 + i) (M0 234 i)) 235 i = M0 235 i := by rw [sm_n (by decide), sm_n (by decide), hq 235 i (by omega)]
      rw [e51] at hr51
      rw [e51]
      refine a_iast (N := 12) dX11_layTried_52 (L235 L) (by decide) (by decide) (by omega) (by omega) hr51 ?_
      refine c_iinc (ls' := [_, _]) dX11_layTried_53 rfl (by decide) rfl rfl ?_
      refine a_goto (tgt := 2) dX11_layTried_56 (by decide) ?_
      refine ih _ _ (by omega) (by omega) (((hq.put _ (by omega)).put _ (by omega)).put _ (by omega)) (fun j j0 j1 => ?_) kk
      by_cases ej : j = i
      · subst ej
        refine ⟨?_, ?_, ?_⟩
        · rw [sm_n (by decide), sm_n (by decide), show 6 * (1 : Int) + j = 6 + j by omega, sm_s]
        · rw [sm_n (by decide), show 6 * (1 : Int) + j = 6 + j by omega, sm_s]
        · rw [show 6 * (1 : Int) + j = 6 + j by omega, sm_s]
      · have h9 := hj j j0 (by omega)
        refine ⟨?_, ?_, ?_⟩
        · rw [sm_n (by decide), sm_n (by decide), sm_k, us_n (by omega)]; exact h9.1
        · rw [sm_n (by decide), sm_k, us_n (by omega), sm_n (by decide)]; exact h9.2.1
        · rw [sm_k, us_n (by omega), sm_n (by decide), sm_n (by decide)]; exact h9.2.2

set_option maxRecDepth 100000 in
set_option maxHeartbeats 4000000 in
theorem lpX11_layTried2 {G : zG} {l : Launch} {L : Nat} {P : zP} {M0 : zM} {Z : zZ} (hP : PFok P) : ∀ (n : Nat) (i : Int) (M : zM) (g0 : 0 ≤ i) (g1 : i + n = 36) (hq : Rq M0 M) (h6 : (∀ j : Int, 0 ≤ j → j < 6 → M 233 (6 * 1 + j) = M0 233 j ∧ M 234 (6 * 1 + j) = M0 234 j ∧ M 235 (6 * 1 + j) = M0 235 j)) (hj : (∀ j : Int, 0 ≤ j → j < i → M 236 (36 * 1 + j) = M0 236 j ∧ M 237 (36 * 1 + j) = M0 237 j)) (kk : ∀ M' : zM, Rq M0 M' → (∀ j : Int, 0 ≤ j → j < 6 → M' 233 (6 * 1 + j) = M0 233 j ∧ M' 234 (6 * 1 + j) = M0 234 j ∧ M' 235 (6 * 1 + j) = M0 235 j) → (∀ j : Int, 0 ≤ j → j < 36 → M' 236 (36 * 1 + j) = M0 236 j ∧ M' 237 (36 * 1 + j) = M0 237 j) → AW G l mdX11_layTried Z 103 [some (aR 209), none] [] (LAY L) P M' 0 0), AW G l mdX11_layTried Z 61 [some (aR 209), some (aI i)] [] (LAY L) P M 0 0 := by
  intro n
  induction n with
  | zero =>
    intro i M g0 g1 hq h6 hj kk
    refine a_iloadn dX11_layTried_61 rfl ?_
    refine a_bipush (w := 36) dX11_layTried_62 (by decide) ?_
    refine a_icmp_ge (tgt := 103) dX11_layTried_64 (by decide) ⟨by omega, by omega⟩ ⟨by omega, by omega⟩ (fun hb64 => ?_) (fun hb64 => ?_)
    · refine a_forget [1] (ls' := [_, none]) rfl (kk M hq h6 (fun j j0 j1 => hj j j0 (by omega)))
    · exfalso; omega
  | succ n ih =>
    intro i M g0 g1 hq h6 hj kk
    refine a_iloadn dX11_layTried_61 rfl ?_
    refine a_bipush (w := 36) dX11_layTried_62 (by decide) ?_
    refine a_icmp_ge (tgt := 103) dX11_layTried_64 (by decide) ⟨by omega, by omega⟩ ⟨by omega, by omega⟩ (fun hb64 => ?_) (fun hb64 => ?_)
    · exfalso; omega
    · refine a_aloadn dX11_layTried_67 rfl ?_
      refine a_getR (j' := 51) (y := 236) dX11_layTried_68 flX11_94 rfl rfl (L209 L) (p209_51 hP) ?_
      refine a_bipush (w := 36) dX11_layTried_71 (by decide) ?_
      refine a_iloadn dX11_layTried_73 rfl ?_
      refine a_iadd dX11_layTried_74 ?_
      refine a_aloadn dX11_layTried_75 rfl ?_
      refine a_getR (j' := 51) (y := 236) dX11_layTried_76 flX11_94 rfl rfl (L209 L) (p209_51 hP) ?_
      refine a_iloadn dX11_layTried_79 rfl ?_
      refine b_iald (N := 72) dX11_layTried_80 (L236 L) (by decide) (by omega) (by omega) (fun hr80 => ?_)
      have e80 : M 236 i = M0 236 i := by rw [hq 236 i (by omega)]
      rw [e80] at hr80
      rw [e80]
      refine a_iast (N := 72) dX11_layTried_81 (L236 L) (by decide) (by decide) (by omega) (by omega) hr80 ?_
      refine a_aloadn dX11_layTried_82 rfl ?_
      refine a_getR (j' := 52) (y := 237) dX11_layTried_83 flX11_97 rfl rfl (L209 L) (p209_52 hP) ?_
      refine a_bipush (w := 36) dX11_layTried_86 (by decide) ?_
      refine a_iloadn dX11_layTried_88 rfl ?_
      refine a_iadd dX11_layTried_89 ?_
      refine a_aloadn dX11_layTried_90 rfl ?_
      refine a_getR (j' := 52) (y := 237) dX11_layTried_91 flX11_97 rfl rfl (L209 L) (p209_52 hP) ?_
      refine a_iloadn dX11_layTried_94 rfl ?_
      refine b_zald (N := 72) dX11_layTried_95 (L237 L) (by decide) (by omega) (by omega) (fun hr95 => ?_)
      have e95 : (sm M 236 (36 + i) (M0 236 i)) 237 i = M0 237 i := by rw [sm_n (by decide), hq 237 i (by omega)]
      rw [e95] at hr95
      rw [e95]
      refine a_zast (N := 72) dX11_layTried_96 (L237 L) (by decide) (by decide) (by omega) (by omega) hr95 ?_
      refine c_iinc (ls' := [_, _]) dX11_layTried_97 rfl (by decide) rfl rfl ?_
      refine a_goto (tgt := 61) dX11_layTried_100 (by decide) ?_
      refine ih _ _ (by omega) (by omega) ((hq.put _ (by omega)).put _ (by omega)) (fun j j0 j1 => ?_) (fun j j0 j1 => ?_) kk
      · rw [sm_n (by decide), sm_n (by decide), sm_n (by decide), sm_n (by decide), sm_n (by decide), sm_n (by decide)]; exact h6 j j0 j1
      by_cases ej : j = i
      · subst ej
        refine ⟨?_, ?_⟩
        · rw [sm_n (by decide), show 36 * (1 : Int) + j = 36 + j by omega, sm_s]
        · rw [show 36 * (1 : Int) + j = 36 + j by omega, sm_s]
      · have h9 := hj j j0 (by omega)
        refine ⟨?_, ?_⟩
        · rw [sm_n (by decide), sm_k, us_n (by omega)]; exact h9.1
        · rw [sm_k, us_n (by omega), sm_n (by decide)]; exact h9.2

set_option maxRecDepth 100000 in
set_option maxHeartbeats 4000000 in
theorem tlX11_layTried {G : zG} {l : Launch} {L : Nat} {P : zP} {M0 M : zM} (hP : PFok P) (hq : Rq M0 M) (h6 : (∀ j : Int, 0 ≤ j → j < 6 → M 233 (6 * 1 + j) = M0 233 j ∧ M 234 (6 * 1 + j) = M0 234 j ∧ M 235 (6 * 1 + j) = M0 235 j)) (hj : (∀ j : Int, 0 ≤ j → j < 36 → M 236 (36 * 1 + j) = M0 236 j ∧ M 237 (36 * 1 + j) = M0 237 j)) : AW G l mdX11_layTried (zrel none (LAY L) P (LtR M0)) 103 [some (aR 209), none] [] (LAY L) P M 0 0 := by
  refine a_aloadn dX11_layTried_103 rfl ?_
  refine a_getR (j' := 53) (y := 238) dX11_layTried_104 flX11_100 rfl rfl (L209 L) (p209_53 hP) ?_
  refine a_iconst dX11_layTried_107 ?_
  refine a_aloadn dX11_layTried_108 rfl ?_
  refine a_getR (j' := 53) (y := 238) dX11_layTried_109 flX11_100 rfl rfl (L209 L) (p209_53 hP) ?_
  refine a_iconst dX11_layTried_112 ?_
  refine b_iald (N := 2) dX11_layTried_113 (L238 L) (by decide) (by decide) (by decide) (fun hr113 => ?_)
  have e113 : M 238 0 = M0 238 0 := hq 238 0 (by omega)
  rw [e113] at hr113
  rw [e113]
  refine a_iast (N := 2) dX11_layTried_114 (L238 L) (by decide) (by decide) (by decide) (by decide) hr113 ?_
  refine a_aloadn dX11_layTried_115 rfl ?_
  refine a_callVv (as := []) (q := 209) dX11_layTried_116 mvX11_322 ⟨by decide, by decide⟩ (L209 L) rfl rfl rfl (Nat.le_of_ble_eq_true rfl) ⟨rfl, rfl⟩ ⟨by decide, by decide⟩ (m_X11_plainTried hP) ?_
  have hr : LtR M0 (ptM (sm M 238 1 (M0 238 0))) := by
    refine ⟨fun j j0 j1 => ?_, fun j j0 j1 => ?_, ?_, ?_, ?_⟩
    · rw [ptM_n _ _ _ (by omega), ptM_n _ _ _ (by omega), ptM_n _ _ _ (by omega), sm_n (by decide), sm_n (by decide), sm_n (by decide)]; exact h6 j j0 j1
    · rw [ptM_n _ _ _ (by omega), ptM_n _ _ _ (by omega), sm_n (by decide), sm_n (by decide)]; exact hj j j0 j1
    · rw [ptM_n _ _ _ (by omega), sm_s]
    · have z := ptM_f (sm M 238 1 (M0 238 0))
      rw [sm_n (by decide), hq 213 0 (by omega)] at z
      exact z
    · exact (hq.put _ (by omega)).tr (fun k i hk => ptM_n _ _ _ (by omega))
  exact a_return dX11_layTried_119 rfl rfl rfl (zrel_V hr)

set_option maxRecDepth 100000 in
set_option maxHeartbeats 4000000 in
theorem m_X11_layTried {G : zG} {l : Launch} {L : Nat} {P : zP} {M : zM}  (hP : PFok P) : AM G l yX11_layTried mdX11_layTried [aR 209] (LAY L) P M (zrel none (LAY L) P (LtR M)) := by
  refine AM.go [some (aR 209), none] rfl (Nat.le_of_ble_eq_true rfl) ?_ (by decide) rfl rfl
  refine a_iconst dX11_layTried_0 ?_
  refine c_istoren (ls' := [_, _]) dX11_layTried_1 (by decide) rfl rfl ?_
  refine lpX11_layTried1 hP 6 0 M (by omega) (by omega) (Rq.rf M) (fun j j0 j1 => by omega) (fun M1 h1 h2 => ?_)
  refine a_iconst dX11_layTried_59 ?_
  refine c_istoren (ls' := [_, _]) dX11_layTried_60 (by decide) rfl rfl ?_
  refine lpX11_layTried2 hP 36 0 M1 (by omega) (by omega) h1 h2 (fun j j0 j1 => by omega) (fun M2 h3 h4 h5 => ?_)
  exact tlX11_layTried hP h3 h4 h5

set_option maxRecDepth 100000 in
set_option maxHeartbeats 4000000 in
theorem m_X11_fails {G : zG} {l : Launch} {L : Nat} {P : zP} {M : zM} {w : Int} (rw9 : inR w) : AM G l yX11_fails mdX11_fails [aR 209, aI w] (LAY L) P M (zdet (some (aI 0)) (LAY L) P (sm M 209 2 w)) := by
  refine AM.go [some (aR 209), some (aI w)] rfl (Nat.le_of_ble_eq_true rfl) ?_ (by decide) rfl rfl
  refine a_aloadn dX11_fails_0 rfl ?_
  refine a_iloadn dX11_fails_1 rfl ?_
  refine a_putI (j' := 2) dX11_fails_2 flX11_124 rfl rfl (L209 L) (by decide) rfl rw9 ?_
  refine a_iconst dX11_fails_5 ?_
  exact a_ireturn dX11_fails_6 rfl rfl rfl (zdet_I (by first | rfl | omega) rfl)

set_option maxRecDepth 100000 in
set_option maxHeartbeats 4000000 in
theorem lpX11_heardBy {G : zG} {l : Launch} {L : Nat} {P : zP} {M0 : zM} {b h : Int} (hP : PFok P) (hb : b = 0 ∨ b = 1) (hi : RI M0 b) (h0 : 0 ≤ h ∧ h < 6) : ∀ (n : Nat) (i acc : Int) (M : zM) (g0 : 0 ≤ i) (g1 : i + n = M0 209 12) (hE : Es M0 M) (ga : inR acc), AW G l mdX11_heardBy (zany (LAY L) P (fun r M' => Es M0 M' ∧ r = zbits (fun o => hrR M0 b h o) n i acc)) 5 [some (aR 209), some (aI b), some (aI h), some (aI acc), some (aI i)] [] (LAY L) P M 0 0 := by
  intro n
  induction n with
  | zero =>
    intro i acc M g0 g1 hE ga
    have q1 := hi.1.1
    refine a_iload dX11_heardBy_5 rfl ?_
    refine a_aloadn dX11_heardBy_7 rfl ?_
    refine b_getI (j' := 12) dX11_heardBy_8 flX11_201 rfl rfl (L209 L) (fun hr8 => ?_)
    have e8 : M 209 12 = M0 209 12 := hE _ _ (by decide) (by decide) (by omega)
    rw [e8] at hr8
    rw [e8]
    refine a_icmp_ge (tgt := 42) dX11_heardBy_11 (by decide) ⟨by omega, by omega⟩ ⟨by omega, by omega⟩ (fun hb11 => ?_) (fun hb11 => ?_)
    · refine a_iloadn dX11_heardBy_42 rfl ?_
      exact a_ireturn dX11_heardBy_43 rfl rfl rfl (zany_i ⟨hE, rfl⟩)
    · exfalso; omega
  | succ n ih =>
    intro i acc M g0 g1 hE ga
    have q1 := hi.1.1
    refine a_iload dX11_heardBy_5 rfl ?_
    refine a_aloadn dX11_heardBy_7 rfl ?_
    refine b_getI (j' := 12) dX11_heardBy_8 flX11_201 rfl rfl (L209 L) (fun hr8 => ?_)
    have e8 : M 209 12 = M0 209 12 := hE _ _ (by decide) (by decide) (by omega)
    rw [e8] at hr8
    rw [e8]
    refine a_icmp_ge (tgt := 42) dX11_heardBy_11 (by decide) ⟨by omega, by omega⟩ ⟨by omega, by omega⟩ (fun hb11 => ?_) (fun hb11 => ?_)
    · exfalso; omega
    · refine a_iloadn dX11_heardBy_14 rfl ?_
      refine a_aloadn dX11_heardBy_15 rfl ?_
      refine a_iloadn dX11_heardBy_16 rfl ?_
      refine a_iloadn dX11_heardBy_17 rfl ?_
      refine a_iload dX11_heardBy_18 rfl ?_
      refine a_anyV (as := [_, _, _]) (q := 209) dX11_heardBy_20 mvX11_387 ⟨by decide, by decide⟩ (L209 L) rfl rfl rfl (Nat.le_of_ble_eq_true rfl) ⟨rfl, rfl⟩ ⟨by decide, by decide⟩ (m_X11_hears hP hb (hE.ri hi) (by omega) (by omega) (by omega) (by omega)) (fun x9 M1 hM1 => ?_)
      have hE2 := hE.tr hM1.1
      have hx := hM1.2
      rw [hE.hrr] at hx
      have z01 := hrR01 M0 b h i
      refine a_if_eq (tgt := 33) dX11_heardBy_23 (by decide) ⟨by omega, by omega⟩ (fun hb23 => ?_) (fun hb23 => ?_)
      · refine a_iconst dX11_heardBy_33 ?_
        refine a_ior dX11_heardBy_34 ?_
        refine c_istoren (ls' := [_, _, _, _, _]) dX11_heardBy_35 (by decide) rfl rfl ?_
        refine c_iinc (ls' := [_, _, _, _, _]) dX11_heardBy_36 rfl (by decide) rfl rfl ?_
        refine a_goto (tgt := 5) dX11_heardBy_39 (by decide) ?_
        simp only [zbits]
        first
        | (rw [if_neg (by omega)]; exact ih _ _ _ (by omega) (by omega) hE2 (ir _))
        | (rw [if_pos (by omega), show b_ior acc 0 = acc from ior0 ga]; exact ih _ _ _ (by omega) (by omega) hE2 ga)
      · refine a_iconst dX11_heardBy_26 ?_
        refine a_iload dX11_heardBy_27 rfl ?_
        refine a_ishl dX11_heardBy_29 ?_
        refine a_goto (tgt := 34) dX11_heardBy_30 (by decide) ?_
        refine a_ior dX11_heardBy_34 ?_
        refine c_istoren (ls' := [_, _, _, _, _]) dX11_heardBy_35 (by decide) rfl rfl ?_
        refine c_iinc (ls' := [_, _, _, _, _]) dX11_heardBy_36 rfl (by decide) rfl rfl ?_
        refine a_goto (tgt := 5) dX11_heardBy_39 (by decide) ?_
        simp only [zbits]
        first
        | (rw [if_neg (by omega)]; exact ih _ _ _ (by omega) (by omega) hE2 (ir _))
        | (rw [if_pos (by omega), show b_ior acc 0 = acc from ior0 ga]; exact ih _ _ _ (by omega) (by omega) hE2 ga)

set_option maxRecDepth 100000 in
set_option maxHeartbeats 4000000 in
theorem m_X11_heardBy {G : zG} {l : Launch} {L : Nat} {P : zP} {M : zM} {b h : Int} (hP : PFok P) (hb : b = 0 ∨ b = 1) (hi : RI M b) (h0 : 0 ≤ h ∧ h < 6) : AM G l yX11_heardBy mdX11_heardBy [aR 209, aI b, aI h] (LAY L) P M (zany (LAY L) P (fun r M' => Es M M' ∧ r = hbR M b h)) := by
  refine AM.go [some (aR 209), some (aI b), some (aI h), none, none] rfl (Nat.le_of_ble_eq_true rfl) ?_ (by decide) rfl rfl
  refine a_iconst dX11_heardBy_0 ?_
  refine c_istoren (ls' := [_, _, _, _, _]) dX11_heardBy_1 (by decide) rfl rfl ?_
  refine a_iconst dX11_heardBy_2 ?_
  refine c_istore (ls' := [_, _, _, _, _]) dX11_heardBy_3 (by decide) rfl rfl ?_
  exact lpX11_heardBy hP hb hi h0 (M 209 12).toNat 0 0 M (by omega) (by have := hi.1.1; omega) (Es.rf M) ⟨by omega, by omega⟩

set_option maxRecDepth 100000 in
set_option maxHeartbeats 4000000 in
theorem lpX11_hearing {G : zG} {l : Launch} {L : Nat} {P : zP} {M0 : zM} {b h : Int} (hP : PFok P) (hb : b = 0 ∨ b = 1) (hi : RI M0 b) (h0 : 0 ≤ h ∧ h < 6) : ∀ (n : Nat) (i acc : Int) (M : zM) (g0 : 0 ≤ i) (g1 : i + n = M0 209 12) (hE : Es M0 M) (ga : inR acc), AW G l mdX11_hearing (zany (LAY L) P (fun r M' => Es M0 M' ∧ r = zbits (fun o => hrR M0 b o h) n i acc)) 5 [some (aR 209), some (aI b), some (aI h), some (aI acc), some (aI i)] [] (LAY L) P M 0 0 := by
  intro n
  induction n with
  | zero =>
    intro i acc M g0 g1 hE ga
    have q1 := hi.1.1
    refine a_iload dX11_hearing_5 rfl ?_
    refine a_aloadn dX11_hearing_7 rfl ?_
    refine b_getI (j' := 12) dX11_hearing_8 flX11_201 rfl rfl (L209 L) (fun hr8 => ?_)
    have e8 : M 209 12 = M0 209 12 := hE _ _ (by decide) (by decide) (by omega)
    rw [e8] at hr8
    rw [e8]
    refine a_icmp_ge (tgt := 42) dX11_hearing_11 (by decide) ⟨by omega, by omega⟩ ⟨by omega, by omega⟩ (fun hb11 => ?_) (fun hb11 => ?_)
    · refine a_iloadn dX11_hearing_42 rfl ?_
      exact a_ireturn dX11_hearing_43 rfl rfl rfl (zany_i ⟨hE, rfl⟩)
    · exfalso; omega
  | succ n ih =>
    intro i acc M g0 g1 hE ga
    have q1 := hi.1.1
    refine a_iload dX11_hearing_5 rfl ?_
    refine a_aloadn dX11_hearing_7 rfl ?_
    refine b_getI (j' := 12) dX11_hearing_8 flX11_201 rfl rfl (L209 L) (fun hr8 => ?_)
    have e8 : M 209 12 = M0 209 12 := hE _ _ (by decide) (by decide) (by omega)
    rw [e8] at hr8
    rw [e8]
    refine a_icmp_ge (tgt := 42) dX11_hearing_11 (by decide) ⟨by omega, by omega⟩ ⟨by omega, by omega⟩ (fun hb11 => ?_) (fun hb11 => ?_)
    · exfalso; omega
    · refine a_iloadn dX11_hearing_14 rfl ?_
      refine a_aloadn dX11_hearing_15 rfl ?_
      refine a_iloadn dX11_hearing_16 rfl ?_
      refine a_iload dX11_hearing_17 rfl ?_
      refine a_iloadn dX11_hearing_19 rfl ?_
      refine a_anyV (as := [_, _, _]) (q := 209) dX11_hearing_20 mvX11_387 ⟨by decide, by decide⟩ (L209 L) rfl rfl rfl (Nat.le_of_ble_eq_true rfl) ⟨rfl, rfl⟩ ⟨by decide, by decide⟩ (m_X11_hears hP hb (hE.ri hi) (by omega) (by omega) (by omega) (by omega)) (fun x9 M1 hM1 => ?_)
      have hE2 := hE.tr hM1.1
      have hx := hM1.2
      rw [hE.hrr] at hx
      have z01 := hrR01 M0 b i h
      refine a_if_eq (tgt := 33) dX11_hearing_23 (by decide) ⟨by omega, by omega⟩ (fun hb23 => ?_) (fun hb23 => ?_)
      · refine a_iconst dX11_hearing_33 ?_
        refine a_ior dX11_hearing_34 ?_
        refine c_istoren (ls' := [_, _, _, _, _]) dX11_hearing_35 (by decide) rfl rfl ?_
        refine c_iinc (ls' := [_, _, _, _, _]) dX11_hearing_36 rfl (by decide) rfl rfl ?_
        refine a_goto (tgt := 5) dX11_hearing_39 (by decide) ?_
        simp only [zbits]
        first
        | (rw [if_neg (by omega)]; exact ih _ _ _ (by omega) (by omega) hE2 (ir _))
        | (rw [if_pos (by omega), show b_ior acc 0 = acc from ior0 ga]; exact ih _ _ _ (by omega) (by omega) hE2 ga)
      · refine a_iconst dX11_hearing_26 ?_
        refine a_iload dX11_hearing_27 rfl ?_
        refine a_ishl dX11_hearing_29 ?_
        refine a_goto (tgt := 34) dX11_hearing_30 (by decide) ?_
        refine a_ior dX11_hearing_34 ?_
        refine c_istoren (ls' := [_, _, _, _, _]) dX11_hearing_35 (by decide) rfl rfl ?_
        refine c_iinc (ls' := [_, _, _, _, _]) dX11_hearing_36 rfl (by decide) rfl rfl ?_
        refine a_goto (tgt := 5) dX11_hearing_39 (by decide) ?_
        simp only [zbits]
        first
        | (rw [if_neg (by omega)]; exact ih _ _ _ (by omega) (by omega) hE2 (ir _))
        | (rw [if_pos (by omega), show b_ior acc 0 = acc from ior0 ga]; exact ih _ _ _ (by omega) (by omega) hE2 ga)

set_option maxRecDepth 100000 in
set_option maxHeartbeats 4000000 in
theorem m_X11_hearing {G : zG} {l : Launch} {L : Nat} {P : zP} {M : zM} {b h : Int} (hP : PFok P) (hb : b = 0 ∨ b = 1) (hi : RI M b) (h0 : 0 ≤ h ∧ h < 6) : AM G l yX11_hearing mdX11_hearing [aR 209, aI b, aI h] (LAY L) P M (zany (LAY L) P (fun r M' => Es M M' ∧ r = hoR M b h)) := by
  refine AM.go [some (aR 209), some (aI b), some (aI h), none, none] rfl (Nat.le_of_ble_eq_true rfl) ?_ (by decide) rfl rfl
  refine a_iconst dX11_hearing_0 ?_
  refine c_istoren (ls' := [_, _, _, _, _]) dX11_hearing_1 (by decide) rfl rfl ?_
  refine a_iconst dX11_hearing_2 ?_
  refine c_istore (ls' := [_, _, _, _, _]) dX11_hearing_3 (by decide) rfl rfl ?_
  exact lpX11_hearing hP hb hi h0 (M 209 12).toNat 0 0 M (by omega) (by have := hi.1.1; omega) (Es.rf M) ⟨by omega, by omega⟩

set_option maxRecDepth 100000 in
set_option maxHeartbeats 4000000 in
theorem lpX11_knownBits0 {G : zG} {l : Launch} {L : Nat} {P : zP} {M : zM} {b h : Int} (hP : PFok P) (hb : b = 0 ∨ b = 1) (hI : TxI M) (h0 : 0 ≤ h ∧ h < 6) : ∀ (n : Nat) (i acc : Int) (g0 : 0 ≤ i) (g1 : i + n = M 209 12) (ga : inR acc), AW G l mdX11_knownBits (zone (LAY L) P M (fun r => r = zbits (fun o => M 237 (36 * b + (6 * h + o))) n i acc)) 6 [some (aR 209), some (aI b), some (aI h), some (aI 0), some (aI acc), some (aI i)] [] (LAY L) P M 0 0 := by
  intro n
  induction n with
  | zero =>
    intro i acc g0 g1 ga
    have q1 := hI.1
    refine a_iload dX11_knownBits_6 rfl ?_
    refine a_aloadn dX11_knownBits_8 rfl ?_
    refine b_getI (j' := 12) dX11_knownBits_9 flX11_201 rfl rfl (L209 L) (fun hr9 => ?_)
    refine a_icmp_ge (tgt := 68) dX11_knownBits_12 (by decide) ⟨by omega, by omega⟩ ⟨by omega, by omega⟩ (fun hb12 => ?_) (fun hb12 => ?_)
    · refine a_iload dX11_knownBits_68 rfl ?_
      exact a_ireturn dX11_knownBits_70 rfl rfl rfl (zone_i rfl)
    · exfalso; omega
  | succ n ih =>
    intro i acc g0 g1 ga
    have q1 := hI.1
    refine a_iload dX11_knownBits_6 rfl ?_
    refine a_aloadn dX11_knownBits_8 rfl ?_
    refine b_getI (j' := 12) dX11_knownBits_9 flX11_201 rfl rfl (L209 L) (fun hr9 => ?_)
    refine a_icmp_ge (tgt := 68) dX11_knownBits_12 (by decide) ⟨by omega, by omega⟩ ⟨by omega, by omega⟩ (fun hb12 => ?_) (fun hb12 => ?_)
    · exfalso; omega
    · refine a_iload dX11_knownBits_15 rfl ?_
      refine a_aloadn dX11_knownBits_17 rfl ?_
      refine a_getR (j' := 52) (y := 237) dX11_knownBits_18 flX11_97 rfl rfl (L209 L) (p209_52 hP) ?_
      refine a_bipush (w := 36) dX11_knownBits_21 (by decide) ?_
      refine a_iloadn dX11_knownBits_23 rfl ?_
      refine a_imul dX11_knownBits_24 ?_
      refine a_iloadn dX11_knownBits_25 rfl ?_
      refine a_if_eq (tgt := 39) dX11_knownBits_26 (by decide) ⟨by omega, by omega⟩ (fun hb26 => ?_) (fun hb26 => ?_)
      · refine a_bipush (w := 6) dX11_knownBits_39 (by decide) ?_
        refine a_iloadn dX11_knownBits_41 rfl ?_
        refine a_imul dX11_knownBits_42 ?_
        refine a_iload dX11_knownBits_43 rfl ?_
        refine a_iadd dX11_knownBits_45 ?_
        refine a_iadd dX11_knownBits_46 ?_
        refine b_zald (N := 72) dX11_knownBits_47 (L237 L) (by decide) (by omega) (by omega) (fun hr47 => ?_)
        refine a_if_eq (tgt := 58) dX11_knownBits_48 (by decide) (by rcases hr47 with z | z <;> exact ⟨by omega, by omega⟩) (fun hb48 => ?_) (fun hb48 => ?_)
        · refine a_iconst dX11_knownBits_58 ?_
          refine a_ior dX11_knownBits_59 ?_
          refine c_istore (ls' := [_, _, _, _, _, _]) dX11_knownBits_60 (by decide) rfl rfl ?_
          refine c_iinc (ls' := [_, _, _, _, _, _]) dX11_knownBits_62 rfl (by decide) rfl rfl ?_
          refine a_goto (tgt := 6) dX11_knownBits_65 (by decide) ?_
          simp only [zbits]
          first
          | (rw [if_neg (by omega)]; exact ih _ _ (by omega) (by omega) (ir _))
          | (rw [if_pos (by omega), show b_ior acc 0 = acc from ior0 ga]; exact ih _ _ (by omega) (by omega) ga)
        · refine a_iconst dX11_knownBits_51 ?_
          refine a_iload dX11_knownBits_52 rfl ?_
          refine a_ishl dX11_knownBits_54 ?_
          refine a_goto (tgt := 59) dX11_knownBits_55 (by decide) ?_
          refine a_ior dX11_knownBits_59 ?_
          refine c_istore (ls' := [_, _, _, _, _, _]) dX11_knownBits_60 (by decide) rfl rfl ?_
          refine c_iinc (ls' := [_, _, _, _, _, _]) dX11_knownBits_62 rfl (by decide) rfl rfl ?_
          refine a_goto (tgt := 6) dX11_knownBits_65 (by decide) ?_
          simp only [zbits]
          first
          | (rw [if_neg (by omega)]; exact ih _ _ (by omega) (by omega) (ir _))
          | (rw [if_pos (by omega), show b_ior acc 0 = acc from ior0 ga]; exact ih _ _ (by omega) (by omega) ga)
      · exfalso; omega

set_option maxRecDepth 100000 in
set_option maxHeartbeats 4000000 in
theorem m_knownBits0 {G : zG} {l : Launch} {L : Nat} {P : zP} {M : zM} {b h : Int} (hP : PFok P) (hb : b = 0 ∨ b = 1) (hI : TxI M) (h0 : 0 ≤ h ∧ h < 6) : AM G l yX11_knownBits mdX11_knownBits [aR 209, aI b, aI h, aI 0] (LAY L) P M (zone (LAY L) P M (fun r => r = knR M b h)) := by
  refine AM.go [some (aR 209), some (aI b), some (aI h), some (aI 0), none, none] rfl (Nat.le_of_ble_eq_true rfl) ?_ (by decide) rfl rfl
  refine a_iconst dX11_knownBits_0 ?_
  refine c_istore (ls' := [_, _, _, _, _, _]) dX11_knownBits_1 (by decide) rfl rfl ?_
  refine a_iconst dX11_knownBits_3 ?_
  refine c_istore (ls' := [_, _, _, _, _, _]) dX11_knownBits_4 (by decide) rfl rfl ?_
  exact lpX11_knownBits0 hP hb hI h0 (M 209 12).toNat 0 0 (by omega) (by have := hI.1; omega) ⟨by omega, by omega⟩

set_option maxRecDepth 100000 in
set_option maxHeartbeats 4000000 in
theorem lpX11_knownBits1 {G : zG} {l : Launch} {L : Nat} {P : zP} {M : zM} {b h : Int} (hP : PFok P) (hb : b = 0 ∨ b = 1) (hI : TxI M) (h0 : 0 ≤ h ∧ h < 6) : ∀ (n : Nat) (i acc : Int) (g0 : 0 ≤ i) (g1 : i + n = M 209 12) (ga : inR acc), AW G l mdX11_knownBits (zone (LAY L) P M (fun r => r = zbits (fun o => M 237 (36 * b + (6 * o + h))) n i acc)) 6 [some (aR 209), some (aI b), some (aI h), some (aI 1), some (aI acc), some (aI i)] [] (LAY L) P M 0 0 := by
  intro n
  induction n with
  | zero =>
    intro i acc g0 g1 ga
    have q1 := hI.1
    refine a_iload dX11_knownBits_6 rfl ?_
    refine a_aloadn dX11_knownBits_8 rfl ?_
    refine b_getI (j' := 12) dX11_knownBits_9 flX11_201 rfl rfl (L209 L) (fun hr9 => ?_)
    refine a_icmp_ge (tgt := 68) dX11_knownBits_12 (by decide) ⟨by omega, by omega⟩ ⟨by omega, by omega⟩ (fun hb12 => ?_) (fun hb12 => ?_)
    · refine a_iload dX11_knownBits_68 rfl ?_
      exact a_ireturn dX11_knownBits_70 rfl rfl rfl (zone_i rfl)
    · exfalso; omega
  | succ n ih =>
    intro i acc g0 g1 ga
    have q1 := hI.1
    refine a_iload dX11_knownBits_6 rfl ?_
    refine a_aloadn dX11_knownBits_8 rfl ?_
    refine b_getI (j' := 12) dX11_knownBits_9 flX11_201 rfl rfl (L209 L) (fun hr9 => ?_)
    refine a_icmp_ge (tgt := 68) dX11_knownBits_12 (by decide) ⟨by omega, by omega⟩ ⟨by omega, by omega⟩ (fun hb12 => ?_) (fun hb12 => ?_)
    · exfalso; omega
    · refine a_iload dX11_knownBits_15 rfl ?_
      refine a_aloadn dX11_knownBits_17 rfl ?_
      refine a_getR (j' := 52) (y := 237) dX11_knownBits_18 flX11_97 rfl rfl (L209 L) (p209_52 hP) ?_
      refine a_bipush (w := 36) dX11_knownBits_21 (by decide) ?_
      refine a_iloadn dX11_knownBits_23 rfl ?_
      refine a_imul dX11_knownBits_24 ?_
      refine a_iloadn dX11_knownBits_25 rfl ?_
      refine a_if_eq (tgt := 39) dX11_knownBits_26 (by decide) ⟨by omega, by omega⟩ (fun hb26 => ?_) (fun hb26 => ?_)
      · exfalso; omega
      · refine a_bipush (w := 6) dX11_knownBits_29 (by decide) ?_
        refine a_iload dX11_knownBits_31 rfl ?_
        refine a_imul dX11_knownBits_33 ?_
        refine a_iloadn dX11_knownBits_34 rfl ?_
        refine a_iadd dX11_knownBits_35 ?_
        refine a_goto (tgt := 46) dX11_knownBits_36 (by decide) ?_
        refine a_iadd dX11_knownBits_46 ?_
        refine b_zald (N := 72) dX11_knownBits_47 (L237 L) (by decide) (by omega) (by omega) (fun hr47 => ?_)
        refine a_if_eq (tgt := 58) dX11_knownBits_48 (by decide) (by rcases hr47 with z | z <;> exact ⟨by omega, by omega⟩) (fun hb48 => ?_) (fun hb48 => ?_)
        · refine a_iconst dX11_knownBits_58 ?_
          refine a_ior dX11_knownBits_59 ?_
          refine c_istore (ls' := [_, _, _, _, _, _]) dX11_knownBits_60 (by decide) rfl rfl ?_
          refine c_iinc (ls' := [_, _, _, _, _, _]) dX11_knownBits_62 rfl (by decide) rfl rfl ?_
          refine a_goto (tgt := 6) dX11_knownBits_65 (by decide) ?_
          simp only [zbits]
          first
          | (rw [if_neg (by omega)]; exact ih _ _ (by omega) (by omega) (ir _))
          | (rw [if_pos (by omega), show b_ior acc 0 = acc from ior0 ga]; exact ih _ _ (by omega) (by omega) ga)
        · refine a_iconst dX11_knownBits_51 ?_
          refine a_iload dX11_knownBits_52 rfl ?_
          refine a_ishl dX11_knownBits_54 ?_
          refine a_goto (tgt := 59) dX11_knownBits_55 (by decide) ?_
          refine a_ior dX11_knownBits_59 ?_
          refine c_istore (ls' := [_, _, _, _, _, _]) dX11_knownBits_60 (by decide) rfl rfl ?_
          refine c_iinc (ls' := [_, _, _, _, _, _]) dX11_knownBits_62 rfl (by decide) rfl rfl ?_
          refine a_goto (tgt := 6) dX11_knownBits_65 (by decide) ?_
          simp only [zbits]
          first
          | (rw [if_neg (by omega)]; exact ih _ _ (by omega) (by omega) (ir _))
          | (rw [if_pos (by omega), show b_ior acc 0 = acc from ior0 ga]; exact ih _ _ (by omega) (by omega) ga)

set_option maxRecDepth 100000 in
set_option maxHeartbeats 4000000 in
theorem m_knownBits1 {G : zG} {l : Launch} {L : Nat} {P : zP} {M : zM} {b h : Int} (hP : PFok P) (hb : b = 0 ∨ b = 1) (hI : TxI M) (h0 : 0 ≤ h ∧ h < 6) : AM G l yX11_knownBits mdX11_knownBits [aR 209, aI b, aI h, aI 1] (LAY L) P M (zone (LAY L) P M (fun r => r = kwR M b h)) := by
  refine AM.go [some (aR 209), some (aI b), some (aI h), some (aI 1), none, none] rfl (Nat.le_of_ble_eq_true rfl) ?_ (by decide) rfl rfl
  refine a_iconst dX11_knownBits_0 ?_
  refine c_istore (ls' := [_, _, _, _, _, _]) dX11_knownBits_1 (by decide) rfl rfl ?_
  refine a_iconst dX11_knownBits_3 ?_
  refine c_istore (ls' := [_, _, _, _, _, _]) dX11_knownBits_4 (by decide) rfl rfl ?_
  exact lpX11_knownBits1 hP hb hI h0 (M 209 12).toNat 0 0 (by omega) (by have := hI.1; omega) ⟨by omega, by omega⟩

set_option maxRecDepth 100000 in
set_option maxHeartbeats 4000000 in
theorem m_X11_heard {G : zG} {l : Launch} {L : Nat} {P : zP} {M : zM} {h o : Int} (hv : RV P M) (rh : inR h) (ro : inR o) : AM G l yX11_heard mdX11_heard [aR 209, aI h, aI o] (LAY L) P M (zany (LAY L) P (fun r M' => Rn M M' ∧ r = if two (M 209 12) h o then M 236 (6 * h + o) else -1)) := by
  have hP := hv.1
  have q0 := hv.2.1.1.1.1
  refine AM.go [some (aR 209), some (aI h), some (aI o)] rfl (Nat.le_of_ble_eq_true rfl) ?_ (by decide) rfl rfl
  refine a_aloadn dX11_heard_0 rfl ?_
  refine a_iconst dX11_heard_1 ?_
  refine a_putI (j' := 2) dX11_heard_2 flX11_124 rfl rfl (L209 L) (by decide) rfl ⟨by omega, by omega⟩ ?_
  obtain ⟨Mt, hMt⟩ : ∃ Mt, Mt = sm M 209 2 0 := ⟨_, rfl⟩
  rw [← hMt]
  obtain ⟨hvt, hnt, e12, eT⟩ := th_all hv hMt
  refine a_aloadn dX11_heard_5 rfl ?_
  refine a_iloadn dX11_heard_6 rfl ?_
  refine a_iloadn dX11_heard_7 rfl ?_
  refine a_oneV (as := [_, _]) (q := 209) dX11_heard_8 mvX11_413 ⟨by decide, by decide⟩ (L209 L) rfl rfl rfl (Nat.le_of_ble_eq_true rfl) ⟨rfl, rfl⟩ ⟨by decide, by decide⟩ (m_areTwo1 (x := h) (y := o) rh ro) (fun x8 hx8 => ?_)
  refine a_if_eq (tgt := 28) dX11_heard_11 (by decide) ⟨by omega, by omega⟩ (fun hb11 => ?_) (fun hb11 => ?_)
  · refine a_iconst dX11_heard_28 ?_
    exact a_ireturn dX11_heard_29 rfl rfl rfl (zany_i ⟨hnt, by first | (rw [if_pos (by omega)]; done) | (rw [if_neg (by omega)]; done)⟩)
  · refine a_aloadn dX11_heard_14 rfl ?_
    refine a_getR (j' := 51) (y := 236) dX11_heard_15 flX11_94 rfl rfl (L209 L) (p209_51 hP) ?_
    refine a_bipush (w := 6) dX11_heard_18 (by decide) ?_
    refine a_iloadn dX11_heard_20 rfl ?_
    refine a_imul dX11_heard_21 ?_
    refine a_iloadn dX11_heard_22 rfl ?_
    refine a_iadd dX11_heard_23 ?_
    refine b_iald (N := 72) dX11_heard_24 (L236 L) (by decide) (by omega) (by omega) (fun hr24 => ?_)
    rw [eT 236 _ (by omega)] at hr24
    rw [eT 236 _ (by omega)]
    refine a_goto (tgt := 29) dX11_heard_25 (by decide) ?_
    exact a_ireturn dX11_heard_29 rfl rfl rfl (zany_i ⟨hnt, by first | (rw [if_pos (by omega)]; done) | (rw [if_neg (by omega)]; done)⟩)

set_option maxRecDepth 100000 in
set_option maxHeartbeats 4000000 in
theorem m_X11_sound {G : zG} {l : Launch} {L : Nat} {P : zP} {M : zM} {h x : Int} (hv : RV P M) (rh : inR h) (rx : inR x) : AM G l yX11_sound mdX11_sound [aR 209, aI h, aI x] (LAY L) P M (zany (LAY L) P (fun r M' => Rn M M' ∧ r = if 0 ≤ h ∧ h < M 209 12 ∧ 0 ≤ x ∧ x ≤ 99 then zsnd (M 220) (M 221) (M 222) h x (M 209 14).toNat 0 else -1)) := by
  have hP := hv.1
  have q0 := hv.2.1.1.1.1
  refine AM.go [some (aR 209), some (aI h), some (aI x)] rfl (Nat.le_of_ble_eq_true rfl) ?_ (by decide) rfl rfl
  refine a_aloadn dX11_sound_0 rfl ?_
  refine a_iconst dX11_sound_1 ?_
  refine a_putI (j' := 2) dX11_sound_2 flX11_124 rfl rfl (L209 L) (by decide) rfl ⟨by omega, by omega⟩ ?_
  obtain ⟨Mt, hMt⟩ : ∃ Mt, Mt = sm M 209 2 0 := ⟨_, rfl⟩
  rw [← hMt]
  obtain ⟨hvt, hnt, e12, eT⟩ := th_all hv hMt
  refine a_aloadn dX11_sound_5 rfl ?_
  refine a_iloadn dX11_sound_6 rfl ?_
  refine a_oneV (as := [_]) (q := 209) dX11_sound_7 mvX11_352 ⟨by decide, by decide⟩ (L209 L) rfl rfl rfl (Nat.le_of_ble_eq_true rfl) ⟨rfl, rfl⟩ ⟨by decide, by decide⟩ (m_isHouse1 (x := h) rh) (fun x7 hx7 => ?_)
  refine a_if_eq (tgt := 32) dX11_sound_10 (by decide) ⟨by omega, by omega⟩ (fun hb10 => ?_) (fun hb10 => ?_)
  · refine a_iconst dX11_sound_32 ?_
    exact a_ireturn dX11_sound_33 rfl rfl rfl (zany_i ⟨hnt, by first | (rw [if_pos (by omega)]; done) | (rw [if_neg (by omega)]; done)⟩)
  · refine a_iloadn dX11_sound_13 rfl ?_
    refine a_iconst dX11_sound_14 ?_
    refine a_bipush (w := 99) dX11_sound_15 (by decide) ?_
    refine a_oneS (as := [_, _, _]) dX11_sound_17 mvX11_169 ⟨by decide, by decide⟩ rfl rfl (Nat.le_of_ble_eq_true rfl) ⟨rfl, rfl⟩ ⟨by decide, by decide⟩ (m_isIn1 ⟨by omega, by omega⟩ ⟨by omega, by omega⟩ ⟨by omega, by omega⟩) (fun x17 hx17 => ?_)
    refine a_if_eq (tgt := 32) dX11_sound_20 (by decide) ⟨by omega, by omega⟩ (fun hb20 => ?_) (fun hb20 => ?_)
    · refine a_iconst dX11_sound_32 ?_
      exact a_ireturn dX11_sound_33 rfl rfl rfl (zany_i ⟨hnt, by first | (rw [if_pos (by omega)]; done) | (rw [if_neg (by omega)]; done)⟩)
    · refine a_aloadn dX11_sound_23 rfl ?_
      refine a_iloadn dX11_sound_24 rfl ?_
      refine a_iloadn dX11_sound_25 rfl ?_
      refine a_callV (as := [_, _]) (q := 209) dX11_sound_26 mvX11_416 ⟨by decide, by decide⟩ (L209 L) rfl rfl rfl (Nat.le_of_ble_eq_true rfl) ⟨rfl, rfl⟩ ⟨by decide, by decide⟩ (m_X11_soundAt hP hvt.2.1.1.1 rh rx) ?_
      rw [hnt.1.row (k := 220) (by omega), hnt.1.row (k := 221) (by omega), hnt.1.row (k := 222) (by omega), eT 209 14 (by omega)]
      refine a_goto (tgt := 33) dX11_sound_29 (by decide) ?_
      exact a_ireturn dX11_sound_33 rfl rfl rfl (zany_i ⟨hnt, by first | (rw [if_pos (by omega)]; done) | (rw [if_neg (by omega)]; done)⟩)

theorem LtR.of2 {M Mt M' : zM} (h2 : LtR Mt M') (h : Rn M Mt) : LtR M M' := LtR.of h.1 h2

set_option maxRecDepth 100000 in
set_option maxHeartbeats 4000000 in
theorem m_X11_ahead {G : zG} {l : Launch} {L : Nat} {P : zP} {M : zM} {n w h : Int} (hv : RV P M) (rn : inR n) (rw : inR w) (rh : inR h) : AM G l yX11_ahead mdX11_ahead [aR 209, aI n, aI w, aI h] (LAY L) P M (zany (LAY L) P (fun r M' => Rn M M' ∧ ((¬ (0 ≤ n ∧ n ≤ 99 ∧ 0 ≤ w ∧ w ≤ 3 ∧ (w < 2 ∨ (0 ≤ h ∧ h < M 209 12)))) ∧ r = -1 ∨ ¬ (¬ (0 ≤ n ∧ n ≤ 99 ∧ 0 ≤ w ∧ w ≤ 3 ∧ (w < 2 ∨ (0 ≤ h ∧ h < M 209 12)))) ∧ ∃ Mb, LtR M Mb ∧ r = ahR M (goR 1 n.toNat Mb) w h))) := by
  have hP := hv.1
  have q0 := hv.2.1.1.1.1
  refine AM.go [some (aR 209), some (aI n), some (aI w), some (aI h)] rfl (Nat.le_of_ble_eq_true rfl) ?_ (by decide) rfl rfl
  refine a_aloadn dX11_ahead_0 rfl ?_
  refine a_iconst dX11_ahead_1 ?_
  refine a_putI (j' := 2) dX11_ahead_2 flX11_124 rfl rfl (L209 L) (by decide) rfl ⟨by omega, by omega⟩ ?_
  obtain ⟨Mt, hMt⟩ : ∃ Mt, Mt = sm M 209 2 0 := ⟨_, rfl⟩
  rw [← hMt]
  obtain ⟨hvt, hnt, e12, eT⟩ := th_all hv hMt
  refine a_iloadn dX11_ahead_5 rfl ?_
  refine a_iconst dX11_ahead_6 ?_
  refine a_bipush (w := 99) dX11_ahead_7 (by decide) ?_
  refine a_oneS (as := [_, _, _]) dX11_ahead_9 mvX11_169 ⟨by decide, by decide⟩ rfl rfl (Nat.le_of_ble_eq_true rfl) ⟨rfl, rfl⟩ ⟨by decide, by decide⟩ (m_isIn1 ⟨by omega, by omega⟩ ⟨by omega, by omega⟩ ⟨by omega, by omega⟩) (fun x9 hx9 => ?_)
  refine a_if_eq (tgt := 37) dX11_ahead_12 (by decide) ⟨by omega, by omega⟩ (fun hb12 => ?_) (fun hb12 => ?_)
  · refine a_iconst dX11_ahead_37 ?_
    exact a_ireturn dX11_ahead_38 rfl rfl rfl (zany_i ⟨hnt, Or.inl ⟨by omega, rfl⟩⟩)
  · refine a_iloadn dX11_ahead_15 rfl ?_
    refine a_iconst dX11_ahead_16 ?_
    refine a_iconst dX11_ahead_17 ?_
    refine a_oneS (as := [_, _, _]) dX11_ahead_18 mvX11_169 ⟨by decide, by decide⟩ rfl rfl (Nat.le_of_ble_eq_true rfl) ⟨rfl, rfl⟩ ⟨by decide, by decide⟩ (m_isIn1 ⟨by omega, by omega⟩ ⟨by omega, by omega⟩ ⟨by omega, by omega⟩) (fun x18 hx18 => ?_)
    refine a_if_eq (tgt := 37) dX11_ahead_21 (by decide) ⟨by omega, by omega⟩ (fun hb21 => ?_) (fun hb21 => ?_)
    · refine a_iconst dX11_ahead_37 ?_
      exact a_ireturn dX11_ahead_38 rfl rfl rfl (zany_i ⟨hnt, Or.inl ⟨by omega, rfl⟩⟩)
    · refine a_iloadn dX11_ahead_24 rfl ?_
      refine a_iconst dX11_ahead_25 ?_
      refine a_icmp_le (tgt := 39) dX11_ahead_26 (by decide) ⟨by omega, by omega⟩ ⟨by omega, by omega⟩ (fun hb26 => ?_) (fun hb26 => ?_)
      · refine a_aloadn dX11_ahead_39 rfl ?_
        refine a_relVv (as := []) (q := 209) dX11_ahead_40 mvX11_424 ⟨by decide, by decide⟩ (L209 L) rfl rfl rfl (Nat.le_of_ble_eq_true rfl) ⟨rfl, rfl⟩ ⟨by decide, by decide⟩ (m_X11_layTried hP) (fun Mb hMb => ?_)
        have hb := hMb.of2 hnt
        have hj := hb.rj hv
        have h90 := hv.2.2
        refine a_aloadn dX11_ahead_43 rfl ?_
        refine a_iloadn dX11_ahead_44 rfl ?_
        refine a_relVv (as := [_]) (q := 209) dX11_ahead_45 mvX11_427 ⟨by decide, by decide⟩ (L209 L) rfl rfl rfl (Nat.le_of_ble_eq_true rfl) ⟨rfl, rfl⟩ ⟨by decide, by decide⟩ (m_X11_goMany hP ⟨by omega, by omega⟩ (Es.rf Mb) hj.2.2.1 (by omega)) (fun M2 hM2 => ?_)
        obtain ⟨d1, d2, d3⟩ := go_all hv hb hM2 (by omega)
        have qx := d1.1.1.1
        refine a_iloadn dX11_ahead_48 rfl ?_
        rcases (show w = 0 ∨ w = 1 ∨ w = 2 ∨ (w < 0 ∨ 2 < w) by omega) with e49 | e49 | e49 | e49
        · refine c_tabIn (tgt := 76) (off := 27) e49 dX11_ahead_49 ⟨by decide, by decide⟩ (by decide) (by decide) rfl (by decide) ?_
          refine a_aloadn dX11_ahead_76 rfl ?_
          refine a_iconst dX11_ahead_77 ?_
          refine a_callV (as := [_]) (q := 209) dX11_ahead_78 mvX11_430 ⟨by decide, by decide⟩ (L209 L) rfl rfl rfl (Nat.le_of_ble_eq_true rfl) ⟨rfl, rfl⟩ ⟨by decide, by decide⟩ (m_X11_pairs hP (hM2.txi d1.1.1) (Or.inr rfl)) ?_
          refine a_aloadn dX11_ahead_81 rfl ?_
          refine a_iconst dX11_ahead_82 ?_
          refine a_callV (as := [_]) (q := 209) dX11_ahead_83 mvX11_430 ⟨by decide, by decide⟩ (L209 L) rfl rfl rfl (Nat.le_of_ble_eq_true rfl) ⟨rfl, rfl⟩ ⟨by decide, by decide⟩ (m_X11_pairs hP (hM2.txi d1.1.1) (Or.inl rfl)) ?_
          refine a_isub dX11_ahead_86 ?_
          exact a_ireturn dX11_ahead_87 rfl rfl rfl (zany_i ⟨d2, Or.inr ⟨by omega, Mb, hb, by unfold ahR; rw [if_pos (by omega), ← hM2.pairs, ← d2.1.pairs hv.2.1.1.1]; rfl⟩⟩)
        · refine c_tabIn (tgt := 88) (off := 39) e49 dX11_ahead_49 ⟨by decide, by decide⟩ (by decide) (by decide) rfl (by decide) ?_
          refine a_aloadn dX11_ahead_88 rfl ?_
          refine a_iconst dX11_ahead_89 ?_
          refine a_callV (as := [_]) (q := 209) dX11_ahead_90 mvX11_433 ⟨by decide, by decide⟩ (L209 L) rfl rfl rfl (Nat.le_of_ble_eq_true rfl) ⟨rfl, rfl⟩ ⟨by decide, by decide⟩ (m_X11_heardAll hP (Or.inr rfl)) ?_
          refine a_aloadn dX11_ahead_93 rfl ?_
          refine a_iconst dX11_ahead_94 ?_
          refine a_callV (as := [_]) (q := 209) dX11_ahead_95 mvX11_433 ⟨by decide, by decide⟩ (L209 L) rfl rfl rfl (Nat.le_of_ble_eq_true rfl) ⟨rfl, rfl⟩ ⟨by decide, by decide⟩ (m_X11_heardAll hP (Or.inl rfl)) ?_
          refine a_isub dX11_ahead_98 ?_
          exact a_ireturn dX11_ahead_99 rfl rfl rfl (zany_i ⟨d2, Or.inr ⟨by omega, Mb, hb, by unfold ahR; rw [if_neg (by omega), if_pos (by omega), ← d2.1.heard]; unfold heardR; rw [hM2.row (k := 236) (by decide) (by decide) (by decide)]⟩⟩)
        · refine c_tabIn (tgt := 100) (off := 51) e49 dX11_ahead_49 ⟨by decide, by decide⟩ (by decide) (by decide) rfl (by decide) ?_
          refine a_aloadn dX11_ahead_100 rfl ?_
          refine a_getR (j' := 48) (y := 233) dX11_ahead_101 flX11_85 rfl rfl (L209 L) (p209_48 hP) ?_
          refine a_bipush (w := 6) dX11_ahead_104 (by decide) ?_
          refine a_iloadn dX11_ahead_106 rfl ?_
          refine a_iadd dX11_ahead_107 ?_
          refine b_iald (N := 12) dX11_ahead_108 (L233 L) (by decide) (by omega) (by omega) (fun hr108 => ?_)
          exact a_ireturn dX11_ahead_109 rfl rfl rfl (zany_i ⟨d2, Or.inr ⟨by omega, Mb, hb, by unfold ahR; rw [if_neg (by omega), if_neg (by omega), if_pos (by omega), hM2.row (k := 233) (by decide) (by decide) (by decide), show 6 * (1 : Int) + h = 6 + h by omega]⟩⟩)
        · refine c_tabOut (tgt := 110) e49 dX11_ahead_49 ⟨by omega, by omega⟩ (by decide) ?_
          refine a_aloadn dX11_ahead_110 rfl ?_
          refine a_getR (j' := 49) (y := 234) dX11_ahead_111 flX11_88 rfl rfl (L209 L) (p209_49 hP) ?_
          refine a_bipush (w := 6) dX11_ahead_114 (by decide) ?_
          refine a_iloadn dX11_ahead_116 rfl ?_
          refine a_iadd dX11_ahead_117 ?_
          refine b_iald (N := 12) dX11_ahead_118 (L234 L) (by decide) (by omega) (by omega) (fun hr118 => ?_)
          exact a_ireturn dX11_ahead_119 rfl rfl rfl (zany_i ⟨d2, Or.inr ⟨by omega, Mb, hb, by unfold ahR; rw [if_neg (by omega), if_neg (by omega), if_neg (by omega), hM2.row (k := 234) (by decide) (by decide) (by decide), show 6 * (1 : Int) + h = 6 + h by omega]⟩⟩)
      · refine a_aloadn dX11_ahead_29 rfl ?_
        refine a_iloadn dX11_ahead_30 rfl ?_
        refine a_oneV (as := [_]) (q := 209) dX11_ahead_31 mvX11_352 ⟨by decide, by decide⟩ (L209 L) rfl rfl rfl (Nat.le_of_ble_eq_true rfl) ⟨rfl, rfl⟩ ⟨by decide, by decide⟩ (m_isHouse1 (x := h) rh) (fun x31 hx31 => ?_)
        refine a_if_ne (tgt := 39) dX11_ahead_34 (by decide) ⟨by omega, by omega⟩ (fun hb34 => ?_) (fun hb34 => ?_)
        · refine a_aloadn dX11_ahead_39 rfl ?_
          refine a_relVv (as := []) (q := 209) dX11_ahead_40 mvX11_424 ⟨by decide, by decide⟩ (L209 L) rfl rfl rfl (Nat.le_of_ble_eq_true rfl) ⟨rfl, rfl⟩ ⟨by decide, by decide⟩ (m_X11_layTried hP) (fun Mb hMb => ?_)
          have hb := hMb.of2 hnt
          have hj := hb.rj hv
          have h90 := hv.2.2
          refine a_aloadn dX11_ahead_43 rfl ?_
          refine a_iloadn dX11_ahead_44 rfl ?_
          refine a_relVv (as := [_]) (q := 209) dX11_ahead_45 mvX11_427 ⟨by decide, by decide⟩ (L209 L) rfl rfl rfl (Nat.le_of_ble_eq_true rfl) ⟨rfl, rfl⟩ ⟨by decide, by decide⟩ (m_X11_goMany hP ⟨by omega, by omega⟩ (Es.rf Mb) hj.2.2.1 (by omega)) (fun M2 hM2 => ?_)
          obtain ⟨d1, d2, d3⟩ := go_all hv hb hM2 (by omega)
          have qx := d1.1.1.1
          refine a_iloadn dX11_ahead_48 rfl ?_
          rcases (show w = 0 ∨ w = 1 ∨ w = 2 ∨ (w < 0 ∨ 2 < w) by omega) with e49 | e49 | e49 | e49
          · refine c_tabIn (tgt := 76) (off := 27) e49 dX11_ahead_49 ⟨by decide, by decide⟩ (by decide) (by decide) rfl (by decide) ?_
            refine a_aloadn dX11_ahead_76 rfl ?_
            refine a_iconst dX11_ahead_77 ?_
            refine a_callV (as := [_]) (q := 209) dX11_ahead_78 mvX11_430 ⟨by decide, by decide⟩ (L209 L) rfl rfl rfl (Nat.le_of_ble_eq_true rfl) ⟨rfl, rfl⟩ ⟨by decide, by decide⟩ (m_X11_pairs hP (hM2.txi d1.1.1) (Or.inr rfl)) ?_
            refine a_aloadn dX11_ahead_81 rfl ?_
            refine a_iconst dX11_ahead_82 ?_
            refine a_callV (as := [_]) (q := 209) dX11_ahead_83 mvX11_430 ⟨by decide, by decide⟩ (L209 L) rfl rfl rfl (Nat.le_of_ble_eq_true rfl) ⟨rfl, rfl⟩ ⟨by decide, by decide⟩ (m_X11_pairs hP (hM2.txi d1.1.1) (Or.inl rfl)) ?_
            refine a_isub dX11_ahead_86 ?_
            exact a_ireturn dX11_ahead_87 rfl rfl rfl (zany_i ⟨d2, Or.inr ⟨by omega, Mb, hb, by unfold ahR; rw [if_pos (by omega), ← hM2.pairs, ← d2.1.pairs hv.2.1.1.1]; rfl⟩⟩)
          · refine c_tabIn (tgt := 88) (off := 39) e49 dX11_ahead_49 ⟨by decide, by decide⟩ (by decide) (by decide) rfl (by decide) ?_
            refine a_aloadn dX11_ahead_88 rfl ?_
            refine a_iconst dX11_ahead_89 ?_
            refine a_callV (as := [_]) (q := 209) dX11_ahead_90 mvX11_433 ⟨by decide, by decide⟩ (L209 L) rfl rfl rfl (Nat.le_of_ble_eq_true rfl) ⟨rfl, rfl⟩ ⟨by decide, by decide⟩ (m_X11_heardAll hP (Or.inr rfl)) ?_
            refine a_aloadn dX11_ahead_93 rfl ?_
            refine a_iconst dX11_ahead_94 ?_
            refine a_callV (as := [_]) (q := 209) dX11_ahead_95 mvX11_433 ⟨by decide, by decide⟩ (L209 L) rfl rfl rfl (Nat.le_of_ble_eq_true rfl) ⟨rfl, rfl⟩ ⟨by decide, by decide⟩ (m_X11_heardAll hP (Or.inl rfl)) ?_
            refine a_isub dX11_ahead_98 ?_
            exact a_ireturn dX11_ahead_99 rfl rfl rfl (zany_i ⟨d2, Or.inr ⟨by omega, Mb, hb, by unfold ahR; rw [if_neg (by omega), if_pos (by omega), ← d2.1.heard]; unfold heardR; rw [hM2.row (k := 236) (by decide) (by decide) (by decide)]⟩⟩)
          · refine c_tabIn (tgt := 100) (off := 51) e49 dX11_ahead_49 ⟨by decide, by decide⟩ (by decide) (by decide) rfl (by decide) ?_
            refine a_aloadn dX11_ahead_100 rfl ?_
            refine a_getR (j' := 48) (y := 233) dX11_ahead_101 flX11_85 rfl rfl (L209 L) (p209_48 hP) ?_
            refine a_bipush (w := 6) dX11_ahead_104 (by decide) ?_
            refine a_iloadn dX11_ahead_106 rfl ?_
            refine a_iadd dX11_ahead_107 ?_
            refine b_iald (N := 12) dX11_ahead_108 (L233 L) (by decide) (by omega) (by omega) (fun hr108 => ?_)
            exact a_ireturn dX11_ahead_109 rfl rfl rfl (zany_i ⟨d2, Or.inr ⟨by omega, Mb, hb, by unfold ahR; rw [if_neg (by omega), if_neg (by omega), if_pos (by omega), hM2.row (k := 233) (by decide) (by decide) (by decide), show 6 * (1 : Int) + h = 6 + h by omega]⟩⟩)
          · refine c_tabOut (tgt := 110) e49 dX11_ahead_49 ⟨by omega, by omega⟩ (by decide) ?_
            refine a_aloadn dX11_ahead_110 rfl ?_
            refine a_getR (j' := 49) (y := 234) dX11_ahead_111 flX11_88 rfl rfl (L209 L) (p209_49 hP) ?_
            refine a_bipush (w := 6) dX11_ahead_114 (by decide) ?_
            refine a_iloadn dX11_ahead_116 rfl ?_
            refine a_iadd dX11_ahead_117 ?_
            refine b_iald (N := 12) dX11_ahead_118 (L234 L) (by decide) (by omega) (by omega) (fun hr118 => ?_)
            exact a_ireturn dX11_ahead_119 rfl rfl rfl (zany_i ⟨d2, Or.inr ⟨by omega, Mb, hb, by unfold ahR; rw [if_neg (by omega), if_neg (by omega), if_neg (by omega), hM2.row (k := 234) (by decide) (by decide) (by decide), show 6 * (1 : Int) + h = 6 + h by omega]⟩⟩)
        · refine a_iconst dX11_ahead_37 ?_
          exact a_ireturn dX11_ahead_38 rfl rfl rfl (zany_i ⟨hnt, Or.inl ⟨by omega, rfl⟩⟩)
