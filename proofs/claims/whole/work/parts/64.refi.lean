set_option maxRecDepth 100000 in
set_option maxHeartbeats 4000000 in
theorem m_X11_house {G : zG} {l : Launch} {L : Nat} {P : zP} {M : zM} {h w : Int} (hv : RV P M) (rh : inR h) (rw : inR w) : AM G l yX11_house mdX11_house [aR 209, aI h, aI w] (LAY L) P M (zany (LAY L) P (fun r M' => Rn M M' ∧ ((¬ (0 ≤ h ∧ h < M 209 12) ∧ r = 0 ∧ M' 209 2 = 1) ∨ ((0 ≤ h ∧ h < M 209 12) ∧ (0 ≤ w ∧ w ≤ 6) ∧ M' 209 2 = 0 ∧ ∃ Mb, Pb M Mb ∧ r = hsR Mb w h) ∨ ((0 ≤ h ∧ h < M 209 12) ∧ ¬ (0 ≤ w ∧ w ≤ 6) ∧ r = 0 ∧ M' 209 2 = 2)))) := by
  have hP := hv.1
  have q0 := hv.2.1.1.1.1
  refine AM.go [some (aR 209), some (aI h), some (aI w)] rfl (Nat.le_of_ble_eq_true rfl) ?_ (by decide) rfl rfl
  refine a_aloadn dX11_house_0 rfl ?_
  refine a_iconst dX11_house_1 ?_
  refine a_putI (j' := 2) dX11_house_2 flX11_124 rfl rfl (L209 L) (by decide) rfl ⟨by omega, by omega⟩ ?_
  obtain ⟨Mt, hMt⟩ : ∃ Mt, Mt = sm M 209 2 0 := ⟨_, rfl⟩
  rw [← hMt]
  obtain ⟨hvt, hnt, e12, eT⟩ := th_all hv hMt
  refine a_aloadn dX11_house_5 rfl ?_
  refine a_iloadn dX11_house_6 rfl ?_
  refine a_oneV (as := [_]) (q := 209) dX11_house_7 mvX11_352 ⟨by decide, by decide⟩ (L209 L) rfl rfl rfl (Nat.le_of_ble_eq_true rfl) ⟨rfl, rfl⟩ ⟨by decide, by decide⟩ (m_isHouse1 (x := h) rh) (fun x7 hx7 => ?_)
  refine a_if_ne (tgt := 19) dX11_house_10 (by decide) ⟨by omega, by omega⟩ (fun hb10 => ?_) (fun hb10 => ?_)
  · refine a_aloadn dX11_house_19 rfl ?_
    refine a_callVv (as := []) (q := 209) dX11_house_20 mvX11_322 ⟨by decide, by decide⟩ (L209 L) rfl rfl rfl (Nat.le_of_ble_eq_true rfl) ⟨rfl, rfl⟩ ⟨by decide, by decide⟩ (m_X11_plainTried hP) ?_
    have hpb := ptM_pb hnt
    have hnp := hpb.rn hv
    have hvp := hnp.rv hv
    have q12 : ptM Mt 209 12 = M 209 12 := hnp.1 209 12 (by omega)
    have e2 : ptM Mt 209 2 = 0 := by rw [ptM_n Mt 209 2 (by omega), hMt, sm_s]
    obtain ⟨Mb, hMb⟩ : ∃ Mb, Mb = ptM Mt := ⟨_, rfl⟩
    rw [← hMb] at hpb hnp hvp q12 e2 ⊢
    refine a_iloadn dX11_house_23 rfl ?_
    rcases (show w = 0 ∨ w = 1 ∨ w = 2 ∨ w = 3 ∨ w = 4 ∨ w = 5 ∨ w = 6 ∨ (w < 0 ∨ 6 < w) by omega) with e24 | e24 | e24 | e24 | e24 | e24 | e24 | e24
    · refine c_tabIn (tgt := 68) (off := 44) e24 dX11_house_24 ⟨by decide, by decide⟩ (by decide) (by decide) rfl (by decide) ?_
      refine a_aloadn dX11_house_68 rfl ?_
      refine a_getR (j' := 48) (y := 233) dX11_house_69 flX11_85 rfl rfl (L209 L) (p209_48 hP) ?_
      refine a_iloadn dX11_house_72 rfl ?_
      refine b_iald (N := 12) dX11_house_73 (L233 L) (by decide) (by omega) (by omega) (fun hr73 => ?_)
      exact a_ireturn dX11_house_74 rfl rfl rfl (zany_i ⟨hnp, Or.inr (Or.inl ⟨by omega, by omega, e2, Mb, hpb, by unfold hsR; rw [if_pos (by omega)]⟩)⟩)
    · refine c_tabIn (tgt := 75) (off := 51) e24 dX11_house_24 ⟨by decide, by decide⟩ (by decide) (by decide) rfl (by decide) ?_
      refine a_aloadn dX11_house_75 rfl ?_
      refine a_getR (j' := 49) (y := 234) dX11_house_76 flX11_88 rfl rfl (L209 L) (p209_49 hP) ?_
      refine a_iloadn dX11_house_79 rfl ?_
      refine b_iald (N := 12) dX11_house_80 (L234 L) (by decide) (by omega) (by omega) (fun hr80 => ?_)
      exact a_ireturn dX11_house_81 rfl rfl rfl (zany_i ⟨hnp, Or.inr (Or.inl ⟨by omega, by omega, e2, Mb, hpb, by unfold hsR; rw [if_neg (by omega), if_pos (by omega)]⟩)⟩)
    · refine c_tabIn (tgt := 82) (off := 58) e24 dX11_house_24 ⟨by decide, by decide⟩ (by decide) (by decide) rfl (by decide) ?_
      refine a_aloadn dX11_house_82 rfl ?_
      refine a_iconst dX11_house_83 ?_
      refine a_iloadn dX11_house_84 rfl ?_
      refine a_anyV (as := [_, _]) (q := 209) dX11_house_85 mvX11_403 ⟨by decide, by decide⟩ (L209 L) rfl rfl rfl (Nat.le_of_ble_eq_true rfl) ⟨rfl, rfl⟩ ⟨by decide, by decide⟩ (m_X11_heardBy hP (Or.inl rfl) hvp.2.1.1 ⟨by omega, by omega⟩) (fun x9 M1 hM1 => ?_)
      have e3 : M1 209 2 = 0 := by rw [hM1.1 209 2 (by decide) (by decide) (by omega)]; exact e2
      exact a_ireturn dX11_house_88 rfl rfl rfl (zany_i ⟨hnp.es hM1.1, Or.inr (Or.inl ⟨by omega, by omega, e3, Mb, hpb, by rw [hM1.2]; unfold hsR; rw [if_neg (by omega), if_neg (by omega), if_pos (by omega)]⟩)⟩)
    · refine c_tabIn (tgt := 89) (off := 65) e24 dX11_house_24 ⟨by decide, by decide⟩ (by decide) (by decide) rfl (by decide) ?_
      refine a_aloadn dX11_house_89 rfl ?_
      refine a_iconst dX11_house_90 ?_
      refine a_iloadn dX11_house_91 rfl ?_
      refine a_anyV (as := [_, _]) (q := 209) dX11_house_92 mvX11_406 ⟨by decide, by decide⟩ (L209 L) rfl rfl rfl (Nat.le_of_ble_eq_true rfl) ⟨rfl, rfl⟩ ⟨by decide, by decide⟩ (m_X11_hearing hP (Or.inl rfl) hvp.2.1.1 ⟨by omega, by omega⟩) (fun x9 M1 hM1 => ?_)
      have e3 : M1 209 2 = 0 := by rw [hM1.1 209 2 (by decide) (by decide) (by omega)]; exact e2
      exact a_ireturn dX11_house_95 rfl rfl rfl (zany_i ⟨hnp.es hM1.1, Or.inr (Or.inl ⟨by omega, by omega, e3, Mb, hpb, by rw [hM1.2]; unfold hsR; rw [if_neg (by omega), if_neg (by omega), if_neg (by omega), if_pos (by omega)]⟩)⟩)
    · refine c_tabIn (tgt := 96) (off := 72) e24 dX11_house_24 ⟨by decide, by decide⟩ (by decide) (by decide) rfl (by decide) ?_
      refine a_aloadn dX11_house_96 rfl ?_
      refine a_iconst dX11_house_97 ?_
      refine a_iloadn dX11_house_98 rfl ?_
      refine a_iconst dX11_house_99 ?_
      refine a_oneV (as := [_, _, _]) (q := 209) dX11_house_100 mvX11_409 ⟨by decide, by decide⟩ (L209 L) rfl rfl rfl (Nat.le_of_ble_eq_true rfl) ⟨rfl, rfl⟩ ⟨by decide, by decide⟩ (m_knownBits0 hP (Or.inl rfl) hvp.2.1.1.1 ⟨by omega, by omega⟩) (fun x9 hx9 => ?_)
      exact a_ireturn dX11_house_103 rfl rfl rfl (zany_i ⟨hnp, Or.inr (Or.inl ⟨by omega, by omega, e2, Mb, hpb, by rw [hx9]; unfold hsR; rw [if_neg (by omega), if_neg (by omega), if_neg (by omega), if_neg (by omega), if_pos (by omega)]⟩)⟩)
    · refine c_tabIn (tgt := 104) (off := 80) e24 dX11_house_24 ⟨by decide, by decide⟩ (by decide) (by decide) rfl (by decide) ?_
      refine a_aloadn dX11_house_104 rfl ?_
      refine a_iconst dX11_house_105 ?_
      refine a_iloadn dX11_house_106 rfl ?_
      refine a_iconst dX11_house_107 ?_
      refine a_oneV (as := [_, _, _]) (q := 209) dX11_house_108 mvX11_409 ⟨by decide, by decide⟩ (L209 L) rfl rfl rfl (Nat.le_of_ble_eq_true rfl) ⟨rfl, rfl⟩ ⟨by decide, by decide⟩ (m_knownBits1 hP (Or.inl rfl) hvp.2.1.1.1 ⟨by omega, by omega⟩) (fun x9 hx9 => ?_)
      exact a_ireturn dX11_house_111 rfl rfl rfl (zany_i ⟨hnp, Or.inr (Or.inl ⟨by omega, by omega, e2, Mb, hpb, by rw [hx9]; unfold hsR; rw [if_neg (by omega), if_neg (by omega), if_neg (by omega), if_neg (by omega), if_neg (by omega), if_pos (by omega)]⟩)⟩)
    · refine c_tabIn (tgt := 112) (off := 88) e24 dX11_house_24 ⟨by decide, by decide⟩ (by decide) (by decide) rfl (by decide) ?_
      refine a_aloadn dX11_house_112 rfl ?_
      refine a_getR (j' := 50) (y := 235) dX11_house_113 flX11_91 rfl rfl (L209 L) (p209_50 hP) ?_
      refine a_iloadn dX11_house_116 rfl ?_
      refine b_iald (N := 12) dX11_house_117 (L235 L) (by decide) (by omega) (by omega) (fun hr117 => ?_)
      exact a_ireturn dX11_house_118 rfl rfl rfl (zany_i ⟨hnp, Or.inr (Or.inl ⟨by omega, by omega, e2, Mb, hpb, by unfold hsR; rw [if_neg (by omega), if_neg (by omega), if_neg (by omega), if_neg (by omega), if_neg (by omega), if_neg (by omega)]⟩)⟩)
    · refine c_tabOut (tgt := 119) e24 dX11_house_24 rw (by decide) ?_
      refine a_aloadn dX11_house_119 rfl ?_
      refine a_iconst dX11_house_120 ?_
      refine a_callV (as := [_]) (q := 209) dX11_house_121 mvX11_400 ⟨by decide, by decide⟩ (L209 L) rfl rfl rfl (Nat.le_of_ble_eq_true rfl) ⟨rfl, rfl⟩ ⟨by decide, by decide⟩ (m_X11_fails ⟨by decide, by decide⟩) ?_
      exact a_ireturn dX11_house_124 rfl rfl rfl (zany_i ⟨⟨hnp.1.put _ (by omega), by rw [sm_k, us_n (by decide)]; exact hnp.2⟩, Or.inr (Or.inr ⟨by omega, by omega, rfl, by rw [sm_s]⟩)⟩)
  · refine a_aloadn dX11_house_13 rfl ?_
    refine a_iconst dX11_house_14 ?_
    refine a_callV (as := [_]) (q := 209) dX11_house_15 mvX11_400 ⟨by decide, by decide⟩ (L209 L) rfl rfl rfl (Nat.le_of_ble_eq_true rfl) ⟨rfl, rfl⟩ ⟨by decide, by decide⟩ (m_X11_fails ⟨by decide, by decide⟩) ?_
    exact a_ireturn dX11_house_18 rfl rfl rfl (zany_i ⟨⟨hnt.1.put _ (by omega), by rw [sm_k, us_n (by decide)]; exact hnt.2⟩, Or.inl ⟨by omega, rfl, by rw [sm_s]⟩⟩)

theorem Rq.rlq {M0 M : zM} (h : Rq M0 M) (w : Int) : rlf M w = rlf M0 w := by
  unfold rlf
  rw [h.row (k := 223) (by omega), h.row (k := 224) (by omega), h.row (k := 225) (by omega), h.row (k := 226) (by omega), h.row (k := 227) (by omega), h.row (k := 228) (by omega)]
theorem Rq.km {M0 M : zM} (h : Rq M0 M) (hT : TxI M0) {x : Int} (hx : 0 ≤ x ∧ x < 6) : kmM M 0 x = kmM M0 0 x := by
  have q := hT.1
  unfold kmM
  rw [h 209 12 (by omega)]
  exact zsm_cong _ _ _ (fun j j0 j1 => by rw [h 237 _ (by omega)])
theorem lawOf_use {M M1 M2 : zM} {w v : Int} {nm : Int → Int} (hL : LrI M w) (ht : M 223 w ≠ 0) (h1 : ∀ (k : Nat) (i : Int), k ≠ 231 → M1 k i = M k i) (hn : ∀ i : Int, 0 ≤ i → i < 7 → M1 231 i = nm i) (h2 : (M2 209 47 = 0 ∧ rLaw (M1 231) (M1 226) (M1 227) (M1 228) (M1 224 w) (M1 225 w - M1 224 w).toNat = some v) ∨ (M2 209 47 = 1 ∧ rLaw (M1 231) (M1 226) (M1 227) (M1 228) (M1 224 w) (M1 225 w - M1 224 w).toNat = none ∧ v = 0)) : (M2 209 47 = 0 ∧ lval (rlf M w nm) = v) ∨ (M2 209 47 = 1 ∧ lval (rlf M w nm) = -9223372036854775808) := by
  have e : rLaw (M1 231) (M1 226) (M1 227) (M1 228) (M1 224 w) (M1 225 w - M1 224 w).toNat = rlf M w nm := by
    have e1 : rlf M w (M1 231) = rlf M w nm := rlf_cong hL hn
    rw [← e1]
    unfold rlf
    rw [if_neg ht, h1 224 w (by decide), h1 225 w (by decide), show M1 226 = M 226 from funext fun i => h1 _ i (by decide), show M1 227 = M 227 from funext fun i => h1 _ i (by decide), show M1 228 = M 228 from funext fun i => h1 _ i (by decide)]
  rw [e] at h2
  rcases h2 with ⟨a, b⟩ | ⟨a, b, c⟩
  · left; exact ⟨a, by rw [b]; rfl⟩
  · right; exact ⟨a, by rw [b]; rfl⟩

set_option maxRecDepth 100000 in
set_option maxHeartbeats 4000000 in
theorem m_X11_law {G : zG} {l : Launch} {L : Nat} {P : zP} {M : zM} {w h o : Int} (hv : RV P M) (rw : inR w) (rh : inR h) (ro : inR o) : AM G l yX11_law mdX11_law [aR 209, aI w, aI h, aI o] (LAY L) P M (zanyL (LAY L) P (fun r M' => Rn M M' ∧ r = lwR M w h o)) := by
  have hP := hv.1
  have q0 := hv.2.1.1.1.1
  refine AM.go [some (aR 209), some (aI w), some (aI h), some (aI o), none, none] rfl (Nat.le_of_ble_eq_true rfl) ?_ (by decide) rfl rfl
  refine a_aloadn dX11_law_0 rfl ?_
  refine a_iconst dX11_law_1 ?_
  refine a_putI (j' := 2) dX11_law_2 flX11_124 rfl rfl (L209 L) (by decide) rfl ⟨by omega, by omega⟩ ?_
  obtain ⟨Mt, hMt⟩ : ∃ Mt, Mt = sm M 209 2 0 := ⟨_, rfl⟩
  rw [← hMt]
  obtain ⟨hvt, hnt, e12, eT⟩ := th_all hv hMt
  refine a_iloadn dX11_law_5 rfl ?_
  refine a_iconst dX11_law_6 ?_
  refine a_iconst dX11_law_7 ?_
  refine a_oneS (as := [_, _, _]) dX11_law_8 mvX11_169 ⟨by decide, by decide⟩ rfl rfl (Nat.le_of_ble_eq_true rfl) ⟨rfl, rfl⟩ ⟨by decide, by decide⟩ (m_isIn1 ⟨by omega, by omega⟩ ⟨by omega, by omega⟩ ⟨by omega, by omega⟩) (fun x8 hx8 => ?_)
  refine a_if_eq (tgt := 45) dX11_law_11 (by decide) ⟨by omega, by omega⟩ (fun hb11 => ?_) (fun hb11 => ?_)
  · refine a_ldc2 (w := -9223372036854775808) dX11_law_45 knX11_419 (by decide) ?_
    exact a_lreturn dX11_law_48 rfl rfl rfl (zanyL_i ⟨hnt, by unfold lwR; rw [if_pos (by omega)]⟩)
  · refine a_aloadn dX11_law_14 rfl ?_
    refine a_getR (j' := 31) (y := 223) dX11_law_15 flX11_54 rfl rfl (L209 L) (p209_31 hP) ?_
    refine a_iloadn dX11_law_18 rfl ?_
    refine b_zald (N := 6) dX11_law_19 (L223 L) (by decide) (by omega) (by omega) (fun hr19 => ?_)
    have e19 : Mt 223 w = M 223 w := eT 223 w (by omega)
    refine a_if_eq (tgt := 45) dX11_law_20 (by decide) (by rcases hr19 with z | z <;> exact ⟨by omega, by omega⟩) (fun hb20 => ?_) (fun hb20 => ?_)
    · refine a_ldc2 (w := -9223372036854775808) dX11_law_45 knX11_419 (by decide) ?_
      exact a_lreturn dX11_law_48 rfl rfl rfl (zanyL_i ⟨hnt, by unfold lwR; rw [if_pos (by omega)]⟩)
    · refine a_aloadn dX11_law_23 rfl ?_
      refine a_iloadn dX11_law_24 rfl ?_
      refine a_oneV (as := [_]) (q := 209) dX11_law_25 mvX11_352 ⟨by decide, by decide⟩ (L209 L) rfl rfl rfl (Nat.le_of_ble_eq_true rfl) ⟨rfl, rfl⟩ ⟨by decide, by decide⟩ (m_isHouse1 (x := h) rh) (fun x25 hx25 => ?_)
      refine a_if_eq (tgt := 45) dX11_law_28 (by decide) ⟨by omega, by omega⟩ (fun hb28 => ?_) (fun hb28 => ?_)
      · refine a_ldc2 (w := -9223372036854775808) dX11_law_45 knX11_419 (by decide) ?_
        exact a_lreturn dX11_law_48 rfl rfl rfl (zanyL_i ⟨hnt, by unfold lwR; rw [if_pos (by omega)]⟩)
      · refine a_iloadn dX11_law_31 rfl ?_
        refine a_iconst dX11_law_32 ?_
        refine a_icmp_eq (tgt := 49) dX11_law_33 (by decide) ⟨by omega, by omega⟩ ⟨by omega, by omega⟩ (fun hb33 => ?_) (fun hb33 => ?_)
        · refine a_aloadn dX11_law_49 rfl ?_
          refine a_callVv (as := []) (q := 209) dX11_law_50 mvX11_322 ⟨by decide, by decide⟩ (L209 L) rfl rfl rfl (Nat.le_of_ble_eq_true rfl) ⟨rfl, rfl⟩ ⟨by decide, by decide⟩ (m_X11_plainTried hP) ?_
          have hpb := ptM_pb hnt
          have hnp := hpb.rn hv
          have hvp := hnp.rv hv
          have q12 : ptM Mt 209 12 = M 209 12 := hnp.1 209 12 (by omega)
          have e2 : ptM Mt 209 2 = 0 := by rw [ptM_n Mt 209 2 (by omega), hMt, sm_s]
          obtain ⟨Mb, hMb⟩ : ∃ Mb, Mb = ptM Mt := ⟨_, rfl⟩
          rw [← hMb] at hpb hnp hvp q12 e2 ⊢
          refine a_aloadn dX11_law_53 rfl ?_
          refine a_iconst dX11_law_54 ?_
          refine a_iloadn dX11_law_55 rfl ?_
          refine a_iloadn dX11_law_56 rfl ?_
          refine a_iconst dX11_law_57 ?_
          refine a_icmp_ne (tgt := 65) dX11_law_58 (by decide) ⟨by omega, by omega⟩ ⟨by omega, by omega⟩ (fun hb58 => ?_) (fun hb58 => ?_)
          · refine a_iloadn dX11_law_65 rfl ?_
            refine a_iconst dX11_law_66 ?_
            have w1 := hvp.2.1.1.2.2.1.1 h (by omega) (by omega)
            have w3 := hvp.2.1.1.2.2.1.2.1 h (by omega) (by omega)
            have w6 := kmM_in hvp.2.1.1.1 0 h
            have w7 := hvp.2.1.1.2.2.1.2.2.2
            have hLw : LrI Mb w := by
              rcases (show w = 0 ∨ w = 1 ∨ w = 2 by omega) with e | e | e <;> subst e
              · exact hvp.2.1.1.2.1.1
              · exact hvp.2.1.1.2.1.2.1
              · exact hvp.2.1.1.2.1.2.2
            have htw : Mb 223 w ≠ 0 := by rw [hnp.1.row (k := 223) (by omega)]; rw [eT 223 w (by omega)] at hb20; exact hb20
            have w2 := hvp.2.1.1.2.2.1.1 o (by omega) (by omega)
            have w5 := hvp.2.1.1.2.2.1.2.2.1 (6 * h + o) (by omega) (by omega)
            rw [show 36 * (0 : Int) + (6 * h + o) = 36 * 0 + 6 * h + o by omega] at w5
            refine a_relVv (as := [_, _, _, _]) (q := 209) dX11_law_67 mvX11_368 ⟨by decide, by decide⟩ (L209 L) rfl rfl rfl (Nat.le_of_ble_eq_true rfl) ⟨rfl, rfl⟩ ⟨by decide, by decide⟩ (m_layNames hP (Or.inl rfl) hvp.2.1.1 (by omega) (by omega) (by omega) (by omega) ⟨by omega, by omega⟩) (fun M1 hM1 => ?_)
            have hES0 : Es Mb M1 := fun k i a1 _ _ => hM1.1 k i a1
            refine a_aloadn dX11_law_70 rfl ?_
            refine a_iloadn dX11_law_71 rfl ?_
            refine a_anyLV (as := [_]) (q := 209) dX11_law_72 mvX11_365 ⟨by decide, by decide⟩ (L209 L) rfl rfl rfl (Nat.le_of_ble_eq_true rfl) ⟨rfl, rfl⟩ ⟨by decide, by decide⟩ (m_X11_lawOf hP ⟨by omega, by omega⟩ (hES0.lri hLw) (by rw [hM1.1 223 w (by decide)]; exact htw) (nmf_lim3 hM1.2 w1 w3 (iabs_99 w1 w2) ⟨by omega, by omega⟩ w5 w6 w7)) (fun x9 M2 hM2 => ?_)
            have hES : Es Mb M1 := fun k i a1 _ _ => hM1.1 k i a1
            have hE2 := hES.tr hM2.1.1.es
            have hlu := lawOf_use hLw htw hM1.1 hM1.2 hM2.2
            rw [hnp.1.rlq, hnp.1.km hv.2.1.1.1 ⟨by omega, by omega⟩, hnp.1 233 (6 * 0 + h) (by omega), hnp.1 233 (6 * 0 + o) (by omega), hnp.1 234 (6 * 0 + h) (by omega), hnp.1 236 (36 * 0 + 6 * h + o) (by omega), hnp.1 238 0 (by omega)] at hlu
            refine c_lstore (ls' := [_, _, _, _, _, _]) dX11_law_75 (by decide) rfl rfl ?_
            refine a_aloadn dX11_law_77 rfl ?_
            refine b_getZ (j' := 47) dX11_law_78 flX11_296 rfl rfl (L209 L) (fun hr78 => ?_)
            refine a_if_eq (tgt := 90) dX11_law_81 (by decide) (by rcases hr78 with z | z <;> exact ⟨by omega, by omega⟩) (fun hb81 => ?_) (fun hb81 => ?_)
            · refine a_lload dX11_law_90 rfl ?_
              exact a_lreturn dX11_law_92 rfl rfl rfl (by
      first
      | (have z := hlu.resolve_right (fun z => by omega)
         exact zanyL_i ⟨hnp.es hE2, by rw [← z.2]; unfold lwR; rw [if_neg (by omega)]; first | (rw [if_pos (by omega)]; done) | (rw [if_neg (by omega)]; done)⟩)
      | (have z := hlu.resolve_left (fun z => by omega)
         exact zanyL_i ⟨hnp.es hE2, by rw [← z.2]; unfold lwR; rw [if_neg (by omega)]; first | (rw [if_pos (by omega)]; done) | (rw [if_neg (by omega)]; done)⟩))
            · refine a_ldc2 (w := -9223372036854775808) dX11_law_84 knX11_419 (by decide) ?_
              refine a_goto (tgt := 92) dX11_law_87 (by decide) ?_
              exact a_lreturn dX11_law_92 rfl rfl rfl (by
      first
      | (have z := hlu.resolve_right (fun z => by omega)
         exact zanyL_i ⟨hnp.es hE2, by rw [← z.2]; unfold lwR; rw [if_neg (by omega)]; first | (rw [if_pos (by omega)]; done) | (rw [if_neg (by omega)]; done)⟩)
      | (have z := hlu.resolve_left (fun z => by omega)
         exact zanyL_i ⟨hnp.es hE2, by rw [← z.2]; unfold lwR; rw [if_neg (by omega)]; first | (rw [if_pos (by omega)]; done) | (rw [if_neg (by omega)]; done)⟩))
          · refine a_iconst dX11_law_61 ?_
            refine a_goto (tgt := 66) dX11_law_62 (by decide) ?_
            refine a_iconst dX11_law_66 ?_
            have w1 := hvp.2.1.1.2.2.1.1 h (by omega) (by omega)
            have w3 := hvp.2.1.1.2.2.1.2.1 h (by omega) (by omega)
            have w6 := kmM_in hvp.2.1.1.1 0 h
            have w7 := hvp.2.1.1.2.2.1.2.2.2
            have hLw : LrI Mb w := by
              rcases (show w = 0 ∨ w = 1 ∨ w = 2 by omega) with e | e | e <;> subst e
              · exact hvp.2.1.1.2.1.1
              · exact hvp.2.1.1.2.1.2.1
              · exact hvp.2.1.1.2.1.2.2
            have htw : Mb 223 w ≠ 0 := by rw [hnp.1.row (k := 223) (by omega)]; rw [eT 223 w (by omega)] at hb20; exact hb20
            refine a_relVv (as := [_, _, _, _]) (q := 209) dX11_law_67 mvX11_368 ⟨by decide, by decide⟩ (L209 L) rfl rfl rfl (Nat.le_of_ble_eq_true rfl) ⟨rfl, rfl⟩ ⟨by decide, by decide⟩ (m_layNamesN hP (Or.inl rfl) hvp.2.1.1 (by omega) (by omega) ⟨by omega, by omega⟩) (fun M1 hM1 => ?_)
            have hES0 : Es Mb M1 := fun k i a1 _ _ => hM1.1 k i a1
            refine a_aloadn dX11_law_70 rfl ?_
            refine a_iloadn dX11_law_71 rfl ?_
            refine a_anyLV (as := [_]) (q := 209) dX11_law_72 mvX11_365 ⟨by decide, by decide⟩ (L209 L) rfl rfl rfl (Nat.le_of_ble_eq_true rfl) ⟨rfl, rfl⟩ ⟨by decide, by decide⟩ (m_X11_lawOf hP ⟨by omega, by omega⟩ (hES0.lri hLw) (by rw [hM1.1 223 w (by decide)]; exact htw) (nmf_lim3 hM1.2 w1 w3 ⟨by omega, by omega⟩ ⟨by omega, by omega⟩ ⟨by omega, by omega⟩ w6 w7)) (fun x9 M2 hM2 => ?_)
            have hES : Es Mb M1 := fun k i a1 _ _ => hM1.1 k i a1
            have hE2 := hES.tr hM2.1.1.es
            have hlu := lawOf_use hLw htw hM1.1 hM1.2 hM2.2
            rw [hnp.1.rlq, hnp.1.km hv.2.1.1.1 ⟨by omega, by omega⟩, hnp.1 233 (6 * 0 + h) (by omega), hnp.1 234 (6 * 0 + h) (by omega), hnp.1 238 0 (by omega)] at hlu
            refine c_lstore (ls' := [_, _, _, _, _, _]) dX11_law_75 (by decide) rfl rfl ?_
            refine a_aloadn dX11_law_77 rfl ?_
            refine b_getZ (j' := 47) dX11_law_78 flX11_296 rfl rfl (L209 L) (fun hr78 => ?_)
            refine a_if_eq (tgt := 90) dX11_law_81 (by decide) (by rcases hr78 with z | z <;> exact ⟨by omega, by omega⟩) (fun hb81 => ?_) (fun hb81 => ?_)
            · refine a_lload dX11_law_90 rfl ?_
              exact a_lreturn dX11_law_92 rfl rfl rfl (by
      first
      | (have z := hlu.resolve_right (fun z => by omega)
         exact zanyL_i ⟨hnp.es hE2, by rw [← z.2]; unfold lwR; rw [if_neg (by omega)]; first | (rw [if_pos (by omega)]; done) | (rw [if_neg (by omega)]; done)⟩)
      | (have z := hlu.resolve_left (fun z => by omega)
         exact zanyL_i ⟨hnp.es hE2, by rw [← z.2]; unfold lwR; rw [if_neg (by omega)]; first | (rw [if_pos (by omega)]; done) | (rw [if_neg (by omega)]; done)⟩))
            · refine a_ldc2 (w := -9223372036854775808) dX11_law_84 knX11_419 (by decide) ?_
              refine a_goto (tgt := 92) dX11_law_87 (by decide) ?_
              exact a_lreturn dX11_law_92 rfl rfl rfl (by
      first
      | (have z := hlu.resolve_right (fun z => by omega)
         exact zanyL_i ⟨hnp.es hE2, by rw [← z.2]; unfold lwR; rw [if_neg (by omega)]; first | (rw [if_pos (by omega)]; done) | (rw [if_neg (by omega)]; done)⟩)
      | (have z := hlu.resolve_left (fun z => by omega)
         exact zanyL_i ⟨hnp.es hE2, by rw [← z.2]; unfold lwR; rw [if_neg (by omega)]; first | (rw [if_pos (by omega)]; done) | (rw [if_neg (by omega)]; done)⟩))
        · refine a_aloadn dX11_law_36 rfl ?_
          refine a_iloadn dX11_law_37 rfl ?_
          refine a_iloadn dX11_law_38 rfl ?_
          refine a_oneV (as := [_, _]) (q := 209) dX11_law_39 mvX11_413 ⟨by decide, by decide⟩ (L209 L) rfl rfl rfl (Nat.le_of_ble_eq_true rfl) ⟨rfl, rfl⟩ ⟨by decide, by decide⟩ (m_areTwo1 (x := h) (y := o) rh ro) (fun x39 hx39 => ?_)
          refine a_if_ne (tgt := 49) dX11_law_42 (by decide) ⟨by omega, by omega⟩ (fun hb42 => ?_) (fun hb42 => ?_)
          · refine a_aloadn dX11_law_49 rfl ?_
            refine a_callVv (as := []) (q := 209) dX11_law_50 mvX11_322 ⟨by decide, by decide⟩ (L209 L) rfl rfl rfl (Nat.le_of_ble_eq_true rfl) ⟨rfl, rfl⟩ ⟨by decide, by decide⟩ (m_X11_plainTried hP) ?_
            have hpb := ptM_pb hnt
            have hnp := hpb.rn hv
            have hvp := hnp.rv hv
            have q12 : ptM Mt 209 12 = M 209 12 := hnp.1 209 12 (by omega)
            have e2 : ptM Mt 209 2 = 0 := by rw [ptM_n Mt 209 2 (by omega), hMt, sm_s]
            obtain ⟨Mb, hMb⟩ : ∃ Mb, Mb = ptM Mt := ⟨_, rfl⟩
            rw [← hMb] at hpb hnp hvp q12 e2 ⊢
            refine a_aloadn dX11_law_53 rfl ?_
            refine a_iconst dX11_law_54 ?_
            refine a_iloadn dX11_law_55 rfl ?_
            refine a_iloadn dX11_law_56 rfl ?_
            refine a_iconst dX11_law_57 ?_
            refine a_icmp_ne (tgt := 65) dX11_law_58 (by decide) ⟨by omega, by omega⟩ ⟨by omega, by omega⟩ (fun hb58 => ?_) (fun hb58 => ?_)
            · refine a_iloadn dX11_law_65 rfl ?_
              refine a_iconst dX11_law_66 ?_
              have w1 := hvp.2.1.1.2.2.1.1 h (by omega) (by omega)
              have w3 := hvp.2.1.1.2.2.1.2.1 h (by omega) (by omega)
              have w6 := kmM_in hvp.2.1.1.1 0 h
              have w7 := hvp.2.1.1.2.2.1.2.2.2
              have hLw : LrI Mb w := by
                rcases (show w = 0 ∨ w = 1 ∨ w = 2 by omega) with e | e | e <;> subst e
                · exact hvp.2.1.1.2.1.1
                · exact hvp.2.1.1.2.1.2.1
                · exact hvp.2.1.1.2.1.2.2
              have htw : Mb 223 w ≠ 0 := by rw [hnp.1.row (k := 223) (by omega)]; rw [eT 223 w (by omega)] at hb20; exact hb20
              have w2 := hvp.2.1.1.2.2.1.1 o (by omega) (by omega)
              have w5 := hvp.2.1.1.2.2.1.2.2.1 (6 * h + o) (by omega) (by omega)
              rw [show 36 * (0 : Int) + (6 * h + o) = 36 * 0 + 6 * h + o by omega] at w5
              refine a_relVv (as := [_, _, _, _]) (q := 209) dX11_law_67 mvX11_368 ⟨by decide, by decide⟩ (L209 L) rfl rfl rfl (Nat.le_of_ble_eq_true rfl) ⟨rfl, rfl⟩ ⟨by decide, by decide⟩ (m_layNames hP (Or.inl rfl) hvp.2.1.1 (by omega) (by omega) (by omega) (by omega) ⟨by omega, by omega⟩) (fun M1 hM1 => ?_)
              have hES0 : Es Mb M1 := fun k i a1 _ _ => hM1.1 k i a1
              refine a_aloadn dX11_law_70 rfl ?_
              refine a_iloadn dX11_law_71 rfl ?_
              refine a_anyLV (as := [_]) (q := 209) dX11_law_72 mvX11_365 ⟨by decide, by decide⟩ (L209 L) rfl rfl rfl (Nat.le_of_ble_eq_true rfl) ⟨rfl, rfl⟩ ⟨by decide, by decide⟩ (m_X11_lawOf hP ⟨by omega, by omega⟩ (hES0.lri hLw) (by rw [hM1.1 223 w (by decide)]; exact htw) (nmf_lim3 hM1.2 w1 w3 (iabs_99 w1 w2) ⟨by omega, by omega⟩ w5 w6 w7)) (fun x9 M2 hM2 => ?_)
              have hES : Es Mb M1 := fun k i a1 _ _ => hM1.1 k i a1
              have hE2 := hES.tr hM2.1.1.es
              have hlu := lawOf_use hLw htw hM1.1 hM1.2 hM2.2
              rw [hnp.1.rlq, hnp.1.km hv.2.1.1.1 ⟨by omega, by omega⟩, hnp.1 233 (6 * 0 + h) (by omega), hnp.1 233 (6 * 0 + o) (by omega), hnp.1 234 (6 * 0 + h) (by omega), hnp.1 236 (36 * 0 + 6 * h + o) (by omega), hnp.1 238 0 (by omega)] at hlu
              refine c_lstore (ls' := [_, _, _, _, _, _]) dX11_law_75 (by decide) rfl rfl ?_
              refine a_aloadn dX11_law_77 rfl ?_
              refine b_getZ (j' := 47) dX11_law_78 flX11_296 rfl rfl (L209 L) (fun hr78 => ?_)
              refine a_if_eq (tgt := 90) dX11_law_81 (by decide) (by rcases hr78 with z | z <;> exact ⟨by omega, by omega⟩) (fun hb81 => ?_) (fun hb81 => ?_)
              · refine a_lload dX11_law_90 rfl ?_
                exact a_lreturn dX11_law_92 rfl rfl rfl (by
      first
      | (have z := hlu.resolve_right (fun z => by omega)
         exact zanyL_i ⟨hnp.es hE2, by rw [← z.2]; unfold lwR; rw [if_neg (by omega)]; first | (rw [if_pos (by omega)]; done) | (rw [if_neg (by omega)]; done)⟩)
      | (have z := hlu.resolve_left (fun z => by omega)
         exact zanyL_i ⟨hnp.es hE2, by rw [← z.2]; unfold lwR; rw [if_neg (by omega)]; first | (rw [if_pos (by omega)]; done) | (rw [if_neg (by omega)]; done)⟩))
              · refine a_ldc2 (w := -9223372036854775808) dX11_law_84 knX11_419 (by decide) ?_
                refine a_goto (tgt := 92) dX11_law_87 (by decide) ?_
                exact a_lreturn dX11_law_92 rfl rfl rfl (by
      first
      | (have z := hlu.resolve_right (fun z => by omega)
         exact zanyL_i ⟨hnp.es hE2, by rw [← z.2]; unfold lwR; rw [if_neg (by omega)]; first | (rw [if_pos (by omega)]; done) | (rw [if_neg (by omega)]; done)⟩)
      | (have z := hlu.resolve_left (fun z => by omega)
         exact zanyL_i ⟨hnp.es hE2, by rw [← z.2]; unfold lwR; rw [if_neg (by omega)]; first | (rw [if_pos (by omega)]; done) | (rw [if_neg (by omega)]; done)⟩))
            · refine a_iconst dX11_law_61 ?_
              refine a_goto (tgt := 66) dX11_law_62 (by decide) ?_
              refine a_iconst dX11_law_66 ?_
              have w1 := hvp.2.1.1.2.2.1.1 h (by omega) (by omega)
              have w3 := hvp.2.1.1.2.2.1.2.1 h (by omega) (by omega)
              have w6 := kmM_in hvp.2.1.1.1 0 h
              have w7 := hvp.2.1.1.2.2.1.2.2.2
              have hLw : LrI Mb w := by
                rcases (show w = 0 ∨ w = 1 ∨ w = 2 by omega) with e | e | e <;> subst e
                · exact hvp.2.1.1.2.1.1
                · exact hvp.2.1.1.2.1.2.1
                · exact hvp.2.1.1.2.1.2.2
              have htw : Mb 223 w ≠ 0 := by rw [hnp.1.row (k := 223) (by omega)]; rw [eT 223 w (by omega)] at hb20; exact hb20
              refine a_relVv (as := [_, _, _, _]) (q := 209) dX11_law_67 mvX11_368 ⟨by decide, by decide⟩ (L209 L) rfl rfl rfl (Nat.le_of_ble_eq_true rfl) ⟨rfl, rfl⟩ ⟨by decide, by decide⟩ (m_layNamesN hP (Or.inl rfl) hvp.2.1.1 (by omega) (by omega) ⟨by omega, by omega⟩) (fun M1 hM1 => ?_)
              have hES0 : Es Mb M1 := fun k i a1 _ _ => hM1.1 k i a1
              refine a_aloadn dX11_law_70 rfl ?_
              refine a_iloadn dX11_law_71 rfl ?_
              refine a_anyLV (as := [_]) (q := 209) dX11_law_72 mvX11_365 ⟨by decide, by decide⟩ (L209 L) rfl rfl rfl (Nat.le_of_ble_eq_true rfl) ⟨rfl, rfl⟩ ⟨by decide, by decide⟩ (m_X11_lawOf hP ⟨by omega, by omega⟩ (hES0.lri hLw) (by rw [hM1.1 223 w (by decide)]; exact htw) (nmf_lim3 hM1.2 w1 w3 ⟨by omega, by omega⟩ ⟨by omega, by omega⟩ ⟨by omega, by omega⟩ w6 w7)) (fun x9 M2 hM2 => ?_)
              have hES : Es Mb M1 := fun k i a1 _ _ => hM1.1 k i a1
              have hE2 := hES.tr hM2.1.1.es
              have hlu := lawOf_use hLw htw hM1.1 hM1.2 hM2.2
              rw [hnp.1.rlq, hnp.1.km hv.2.1.1.1 ⟨by omega, by omega⟩, hnp.1 233 (6 * 0 + h) (by omega), hnp.1 234 (6 * 0 + h) (by omega), hnp.1 238 0 (by omega)] at hlu
              refine c_lstore (ls' := [_, _, _, _, _, _]) dX11_law_75 (by decide) rfl rfl ?_
              refine a_aloadn dX11_law_77 rfl ?_
              refine b_getZ (j' := 47) dX11_law_78 flX11_296 rfl rfl (L209 L) (fun hr78 => ?_)
              refine a_if_eq (tgt := 90) dX11_law_81 (by decide) (by rcases hr78 with z | z <;> exact ⟨by omega, by omega⟩) (fun hb81 => ?_) (fun hb81 => ?_)
              · refine a_lload dX11_law_90 rfl ?_
                exact a_lreturn dX11_law_92 rfl rfl rfl (by
      first
      | (have z := hlu.resolve_right (fun z => by omega)
         exact zanyL_i ⟨hnp.es hE2, by rw [← z.2]; unfold lwR; rw [if_neg (by omega)]; first | (rw [if_pos (by omega)]; done) | (rw [if_neg (by omega)]; done)⟩)
      | (have z := hlu.resolve_left (fun z => by omega)
         exact zanyL_i ⟨hnp.es hE2, by rw [← z.2]; unfold lwR; rw [if_neg (by omega)]; first | (rw [if_pos (by omega)]; done) | (rw [if_neg (by omega)]; done)⟩))
              · refine a_ldc2 (w := -9223372036854775808) dX11_law_84 knX11_419 (by decide) ?_
                refine a_goto (tgt := 92) dX11_law_87 (by decide) ?_
                exact a_lreturn dX11_law_92 rfl rfl rfl (by
      first
      | (have z := hlu.resolve_right (fun z => by omega)
         exact zanyL_i ⟨hnp.es hE2, by rw [← z.2]; unfold lwR; rw [if_neg (by omega)]; first | (rw [if_pos (by omega)]; done) | (rw [if_neg (by omega)]; done)⟩)
      | (have z := hlu.resolve_left (fun z => by omega)
         exact zanyL_i ⟨hnp.es hE2, by rw [← z.2]; unfold lwR; rw [if_neg (by omega)]; first | (rw [if_pos (by omega)]; done) | (rw [if_neg (by omega)]; done)⟩))
          · refine a_ldc2 (w := -9223372036854775808) dX11_law_45 knX11_419 (by decide) ?_
            exact a_lreturn dX11_law_48 rfl rfl rfl (zanyL_i ⟨hnt, by unfold lwR; rw [if_pos (by omega)]⟩)

set_option maxRecDepth 100000 in
set_option maxHeartbeats 4000000 in
theorem lpX11_nextHeard {G : zG} {l : Launch} {L : Nat} {P : zP} {M0 : zM} {h o : Int} (hP : PFok P) (hw : two (M0 209 12) h o) (h6 : M0 209 12 ≤ 6) : ∀ (n : Nat) (k : Int) (M Mp : zM) (g0 : 1 ≤ k) (g1 : k + n = 100) (hE : Es Mp M) (hI : RJ Mp 1) (hh : Mp 238 1 + n ≤ 9999) (h5 : Mp 209 55 = 0) (hq : Rn M0 Mp), AW G l mdX11_nextHeard (zany (LAY L) P (fun r M' => Rn M0 M' ∧ r = nhG (M0 236 (6 * h + o)) (36 + 6 * h + o) n k Mp)) 22 [some (aR 209), some (aI h), some (aI o), some (aI k)] [] (LAY L) P M 0 0 := by
  intro n
  induction n with
  | zero =>
    intro k M Mp g0 g1 hE hI hh h5 hq
    unfold two at hw
    refine a_iloadn dX11_nextHeard_22 rfl ?_
    refine a_bipush (w := 99) dX11_nextHeard_23 (by decide) ?_
    refine a_icmp_gt (tgt := 69) dX11_nextHeard_25 (by decide) ⟨by omega, by omega⟩ ⟨by omega, by omega⟩ (fun hb25 => ?_) (fun hb25 => ?_)
    · refine a_bipush (w := (-2)) dX11_nextHeard_69 (by decide) ?_
      exact a_ireturn dX11_nextHeard_71 rfl rfl rfl (zany_i ⟨hq.es hE, rfl⟩)
    · exfalso; omega
  | succ n ih =>
    intro k M Mp g0 g1 hE hI hh h5 hq
    unfold two at hw
    refine a_iloadn dX11_nextHeard_22 rfl ?_
    refine a_bipush (w := 99) dX11_nextHeard_23 (by decide) ?_
    refine a_icmp_gt (tgt := 69) dX11_nextHeard_25 (by decide) ⟨by omega, by omega⟩ ⟨by omega, by omega⟩ (fun hb25 => ?_) (fun hb25 => ?_)
    · exfalso; omega
    · have hI2 := hourR_all hI (by omega)
      have h209 := hourR_0 hI h5
      have hq2 : Rn M0 (hourR 1 Mp) := ⟨hq.1.tr (hI2.1.rq (by rw [h209])), by rw [h209]; exact hq.2⟩
      refine a_aloadn dX11_nextHeard_28 rfl ?_
      refine a_iconst dX11_nextHeard_29 ?_
      refine a_relVv (as := [_]) (q := 209) dX11_nextHeard_30 mvX11_397 ⟨by decide, by decide⟩ (L209 L) rfl rfl rfl (Nat.le_of_ble_eq_true rfl) ⟨rfl, rfl⟩ ⟨by decide, by decide⟩ (m_X11_hourGoes hP (Or.inr rfl) hE hI (by omega)) (fun M1 hM1 => ?_)
      refine a_aloadn dX11_nextHeard_33 rfl ?_
      refine a_getR (j' := 51) (y := 236) dX11_nextHeard_34 flX11_94 rfl rfl (L209 L) (p209_51 hP) ?_
      refine a_bipush (w := 36) dX11_nextHeard_37 (by decide) ?_
      refine a_bipush (w := 6) dX11_nextHeard_39 (by decide) ?_
      refine a_iloadn dX11_nextHeard_41 rfl ?_
      refine a_imul dX11_nextHeard_42 ?_
      refine a_iadd dX11_nextHeard_43 ?_
      refine a_iloadn dX11_nextHeard_44 rfl ?_
      refine a_iadd dX11_nextHeard_45 ?_
      refine b_iald (N := 72) dX11_nextHeard_46 (L236 L) (by decide) (by omega) (by omega) (fun hr46 => ?_)
      have e46 : M1 236 (36 + 6 * h + o) = hourR 1 Mp 236 (36 + 6 * h + o) := by rw [hM1.row (k := 236) (by decide) (by decide) (by decide)]
      rw [e46] at hr46
      rw [e46]
      refine a_aloadn dX11_nextHeard_47 rfl ?_
      refine a_getR (j' := 51) (y := 236) dX11_nextHeard_48 flX11_94 rfl rfl (L209 L) (p209_51 hP) ?_
      refine a_bipush (w := 6) dX11_nextHeard_51 (by decide) ?_
      refine a_iloadn dX11_nextHeard_53 rfl ?_
      refine a_imul dX11_nextHeard_54 ?_
      refine a_iloadn dX11_nextHeard_55 rfl ?_
      refine a_iadd dX11_nextHeard_56 ?_
      refine b_iald (N := 72) dX11_nextHeard_57 (L236 L) (by decide) (by omega) (by omega) (fun hr57 => ?_)
      have e57 : M1 236 (6 * h + o) = M0 236 (6 * h + o) := by rw [hM1.row (k := 236) (by decide) (by decide) (by decide), hq2.1 236 _ (by omega)]
      rw [e57] at hr57
      rw [e57]
      refine a_icmp_le (tgt := 63) dX11_nextHeard_58 (by decide) hr46 hr57 (fun hb58 => ?_) (fun hb58 => ?_)
      · refine c_iinc (ls' := [_, _, _, _]) dX11_nextHeard_63 rfl (by decide) rfl rfl ?_
        refine a_goto (tgt := 22) dX11_nextHeard_66 (by decide) ?_
        simp only [nhG]
        rw [if_neg (by omega)]
        exact ih _ _ (hourR 1 Mp) (by omega) (by omega) hM1 hI2.2.1 (by rw [hI2.2.2.1]; omega) (by rw [h209]; exact h5) hq2
      · refine a_iloadn dX11_nextHeard_61 rfl ?_
        exact a_ireturn dX11_nextHeard_62 rfl rfl rfl (zany_i ⟨hq2.es hM1, by simp only [nhG]; rw [if_pos (by omega)]⟩)

set_option maxRecDepth 100000 in
set_option maxHeartbeats 4000000 in
theorem m_X11_nextHeard {G : zG} {l : Launch} {L : Nat} {P : zP} {M : zM} {h o : Int} (hv : RV P M) (rh : inR h) (ro : inR o) : AM G l yX11_nextHeard mdX11_nextHeard [aR 209, aI h, aI o] (LAY L) P M (zany (LAY L) P (fun r M' => Rn M M' ∧ ((¬ two (M 209 12) h o) ∧ r = -1 ∨ ¬ (¬ two (M 209 12) h o) ∧ ∃ Mb, LtR M Mb ∧ r = nhG (M 236 (6 * h + o)) (36 + 6 * h + o) 99 1 Mb))) := by
  have hP := hv.1
  have q0 := hv.2.1.1.1.1
  refine AM.go [some (aR 209), some (aI h), some (aI o), none] rfl (Nat.le_of_ble_eq_true rfl) ?_ (by decide) rfl rfl
  refine a_aloadn dX11_nextHeard_0 rfl ?_
  refine a_iconst dX11_nextHeard_1 ?_
  refine a_putI (j' := 2) dX11_nextHeard_2 flX11_124 rfl rfl (L209 L) (by decide) rfl ⟨by omega, by omega⟩ ?_
  obtain ⟨Mt, hMt⟩ : ∃ Mt, Mt = sm M 209 2 0 := ⟨_, rfl⟩
  rw [← hMt]
  obtain ⟨hvt, hnt, e12, eT⟩ := th_all hv hMt
  refine a_aloadn dX11_nextHeard_5 rfl ?_
  refine a_iloadn dX11_nextHeard_6 rfl ?_
  refine a_iloadn dX11_nextHeard_7 rfl ?_
  refine a_oneV (as := [_, _]) (q := 209) dX11_nextHeard_8 mvX11_413 ⟨by decide, by decide⟩ (L209 L) rfl rfl rfl (Nat.le_of_ble_eq_true rfl) ⟨rfl, rfl⟩ ⟨by decide, by decide⟩ (m_areTwo1 (x := h) (y := o) rh ro) (fun x8 hx8 => ?_)
  refine a_if_ne (tgt := 16) dX11_nextHeard_11 (by decide) ⟨by omega, by omega⟩ (fun hb11 => ?_) (fun hb11 => ?_)
  · refine a_aloadn dX11_nextHeard_16 rfl ?_
    refine a_relVv (as := []) (q := 209) dX11_nextHeard_17 mvX11_424 ⟨by decide, by decide⟩ (L209 L) rfl rfl rfl (Nat.le_of_ble_eq_true rfl) ⟨rfl, rfl⟩ ⟨by decide, by decide⟩ (m_X11_layTried hP) (fun Mb hMb => ?_)
    have hb := hMb.of2 hnt
    have hj := hb.rj hv
    have h90 := hv.2.2
    refine a_iconst dX11_nextHeard_20 ?_
    refine c_istoren (ls' := [_, _, _, _]) dX11_nextHeard_21 (by decide) rfl rfl ?_
    refine AW.mono2 (lpX11_nextHeard (M0 := M) hP (h := h) (o := o) (by omega) (by omega) 99 1 Mb Mb (by omega) (by omega) (Es.rf Mb) hj.2.2.1 (by omega) hb.2.2.2.1.1 hj.1) ?_
    rintro r lay P' M' ⟨h1, h2, x, h3, h4, h5⟩
    exact ⟨h1, h2, x, h3, h4, Or.inr ⟨by omega, Mb, hb, h5⟩⟩
  · refine a_iconst dX11_nextHeard_14 ?_
    exact a_ireturn dX11_nextHeard_15 rfl rfl rfl (zany_i ⟨hnt, Or.inl ⟨by omega, rfl⟩⟩)

set_option maxRecDepth 100000 in
set_option maxHeartbeats 4000000 in
theorem lpX11_first_in {G : zG} {l : Launch} {L : Nat} {P : zP} {M : zM} {w k a : Int} {Z : zZ} (hP : PFok P) (hT : TxI M) (ha : 0 ≤ a ∧ a < M 209 12) (rw9 : inR w) : ∀ (n : Nat) (c : Int) (g0 : a < c) (g1 : c + n = M 209 12) (kr : ∀ r, z2iR M a n c = some r → Z (some (aI (if w = 0 then k else r))) (LAY L) P M) (kk : z2iR M a n c = none → AW G l mdX11_first Z 110 [some (aR 209), some (aI w), some (aI k), some (aI a), none] [] (LAY L) P M 0 0), AW G l mdX11_first Z 43 [some (aR 209), some (aI w), some (aI k), some (aI a), some (aI c)] [] (LAY L) P M 0 0 := by
  intro n
  induction n with
  | zero =>
    intro c g0 g1 kr kk
    have q1 := hT.1
    refine a_iload dX11_first_43 rfl ?_
    refine a_aloadn dX11_first_45 rfl ?_
    refine b_getI (j' := 12) dX11_first_46 flX11_201 rfl rfl (L209 L) (fun hr46 => ?_)
    refine a_icmp_ge (tgt := 110) dX11_first_49 (by decide) ⟨by omega, by omega⟩ ⟨by omega, by omega⟩ (fun hb49 => ?_) (fun hb49 => ?_)
    · refine a_forget [4] (ls' := [_, _, _, _, none]) rfl (kk rfl)
    · exfalso; omega
  | succ n ih =>
    intro c g0 g1 kr kk
    have q1 := hT.1
    refine a_iload dX11_first_43 rfl ?_
    refine a_aloadn dX11_first_45 rfl ?_
    refine b_getI (j' := 12) dX11_first_46 flX11_201 rfl rfl (L209 L) (fun hr46 => ?_)
    refine a_icmp_ge (tgt := 110) dX11_first_49 (by decide) ⟨by omega, by omega⟩ ⟨by omega, by omega⟩ (fun hb49 => ?_) (fun hb49 => ?_)
    · exfalso; omega
    · refine a_aloadn dX11_first_52 rfl ?_
      refine a_getR (j' := 52) (y := 237) dX11_first_53 flX11_97 rfl rfl (L209 L) (p209_52 hP) ?_
      refine a_bipush (w := 36) dX11_first_56 (by decide) ?_
      refine a_bipush (w := 6) dX11_first_58 (by decide) ?_
      refine a_iloadn dX11_first_60 rfl ?_
      refine a_imul dX11_first_61 ?_
      refine a_iadd dX11_first_62 ?_
      refine a_iload dX11_first_63 rfl ?_
      refine a_iadd dX11_first_65 ?_
      refine b_zald (N := 72) dX11_first_66 (L237 L) (by decide) (by omega) (by omega) (fun hr66 => ?_)
      refine a_if_eq (tgt := 104) dX11_first_67 (by decide) (by rcases hr66 with z | z <;> exact ⟨by omega, by omega⟩) (fun hb67 => ?_) (fun hb67 => ?_)
      · refine c_iinc (ls' := [_, _, _, _, _]) dX11_first_104 rfl (by decide) rfl rfl ?_
        refine a_goto (tgt := 43) dX11_first_107 (by decide) ?_
        simp only [z2iR] at kr kk
        rw [if_neg (by omega)] at kr kk
        exact ih _ (by omega) (by omega) kr kk
      · refine a_aloadn dX11_first_70 rfl ?_
        refine a_getR (j' := 52) (y := 237) dX11_first_71 flX11_97 rfl rfl (L209 L) (p209_52 hP) ?_
        refine a_bipush (w := 36) dX11_first_74 (by decide) ?_
        refine a_bipush (w := 6) dX11_first_76 (by decide) ?_
        refine a_iload dX11_first_78 rfl ?_
        refine a_imul dX11_first_80 ?_
        refine a_iadd dX11_first_81 ?_
        refine a_iloadn dX11_first_82 rfl ?_
        refine a_iadd dX11_first_83 ?_
        refine b_zald (N := 72) dX11_first_84 (L237 L) (by decide) (by omega) (by omega) (fun hr84 => ?_)
        refine a_if_eq (tgt := 104) dX11_first_85 (by decide) (by rcases hr84 with z | z <;> exact ⟨by omega, by omega⟩) (fun hb85 => ?_) (fun hb85 => ?_)
        · refine c_iinc (ls' := [_, _, _, _, _]) dX11_first_104 rfl (by decide) rfl rfl ?_
          refine a_goto (tgt := 43) dX11_first_107 (by decide) ?_
          simp only [z2iR] at kr kk
          rw [if_neg (by omega)] at kr kk
          exact ih _ (by omega) (by omega) kr kk
        · refine a_iloadn dX11_first_88 rfl ?_
          refine a_if_ne (tgt := 96) dX11_first_89 (by decide) ⟨by omega, by omega⟩ (fun hb89 => ?_) (fun hb89 => ?_)
          · refine a_bipush (w := 10) dX11_first_96 (by decide) ?_
            refine a_iloadn dX11_first_98 rfl ?_
            refine a_imul dX11_first_99 ?_
            refine a_iload dX11_first_100 rfl ?_
            refine a_iadd dX11_first_102 ?_
            have kr2 := kr (10 * a + c) (by simp only [z2iR]; rw [if_pos (by omega)])
            exact a_ireturn dX11_first_103 rfl rfl rfl (by first | (rw [if_pos (by omega)] at kr2; exact kr2) | (rw [if_neg (by omega)] at kr2; exact kr2))
          · refine a_iloadn dX11_first_92 rfl ?_
            refine a_goto (tgt := 103) dX11_first_93 (by decide) ?_
            have kr2 := kr (10 * a + c) (by simp only [z2iR]; rw [if_pos (by omega)])
            exact a_ireturn dX11_first_103 rfl rfl rfl (by first | (rw [if_pos (by omega)] at kr2; exact kr2) | (rw [if_neg (by omega)] at kr2; exact kr2))

set_option maxRecDepth 100000 in
set_option maxHeartbeats 4000000 in
theorem lpX11_first_mid {G : zG} {l : Launch} {L : Nat} {P : zP} {M : zM} {w k : Int} {Z : zZ} (hP : PFok P) (hT : TxI M) (rw9 : inR w) : ∀ (n : Nat) (a : Int) (g0 : 0 ≤ a) (g1 : a + n = M 209 12) (kr : ∀ r, z2oR M n a = some r → Z (some (aI (if w = 0 then k else r))) (LAY L) P M) (kk : z2oR M n a = none → AW G l mdX11_first Z 116 [some (aR 209), some (aI w), some (aI k), none, none] [] (LAY L) P M 0 0), AW G l mdX11_first Z 30 [some (aR 209), some (aI w), some (aI k), some (aI a), none] [] (LAY L) P M 0 0 := by
  intro n
  induction n with
  | zero =>
    intro a g0 g1 kr kk
    have q1 := hT.1
    refine a_iloadn dX11_first_30 rfl ?_
    refine a_aloadn dX11_first_31 rfl ?_
    refine b_getI (j' := 12) dX11_first_32 flX11_201 rfl rfl (L209 L) (fun hr32 => ?_)
    refine a_icmp_ge (tgt := 116) dX11_first_35 (by decide) ⟨by omega, by omega⟩ ⟨by omega, by omega⟩ (fun hb35 => ?_) (fun hb35 => ?_)
    · refine a_forget [3] (ls' := [_, _, _, none, none]) rfl (kk rfl)
    · exfalso; omega
  | succ n ih =>
    intro a g0 g1 kr kk
    have q1 := hT.1
    refine a_iloadn dX11_first_30 rfl ?_
    refine a_aloadn dX11_first_31 rfl ?_
    refine b_getI (j' := 12) dX11_first_32 flX11_201 rfl rfl (L209 L) (fun hr32 => ?_)
    refine a_icmp_ge (tgt := 116) dX11_first_35 (by decide) ⟨by omega, by omega⟩ ⟨by omega, by omega⟩ (fun hb35 => ?_) (fun hb35 => ?_)
    · exfalso; omega
    · refine a_iloadn dX11_first_38 rfl ?_
      refine a_iconst dX11_first_39 ?_
      refine a_iadd dX11_first_40 ?_
      refine c_istore (ls' := [_, _, _, _, _]) dX11_first_41 (by decide) rfl rfl ?_
      simp only [z2oR] at kr kk
      refine lpX11_first_in hP hT (by omega) rw9 (M 209 12 - (a + 1)).toNat (a + 1) (by omega) (by omega) (fun r hr => kr r (by rw [hr])) (fun hn => ?_)
      rw [hn] at kr kk
      refine c_iinc (ls' := [_, _, _, _, _]) dX11_first_110 rfl (by decide) rfl rfl ?_
      refine a_goto (tgt := 30) dX11_first_113 (by decide) ?_
      exact ih _ (by omega) (by omega) kr kk

theorem z2iR_es {M0 M : zM} (h : Es M0 M) (a : Int) : ∀ (n : Nat) (c : Int), z2iR M a n c = z2iR M0 a n c
  | 0, c => rfl
  | n + 1, c => by
    unfold z2iR
    rw [h.row (k := 237) (by decide) (by decide) (by decide), z2iR_es h a n (c + 1)]
theorem z2oR_es {M0 M : zM} (h : Es M0 M) : ∀ (n : Nat) (a : Int), z2oR M n a = z2oR M0 n a
  | 0, a => rfl
  | n + 1, a => by
    unfold z2oR
    rw [h 209 12 (by decide) (by decide) (by omega), z2iR_es h, z2oR_es h n (a + 1)]

set_option maxRecDepth 100000 in
set_option maxHeartbeats 4000000 in
theorem lpX11_first {G : zG} {l : Launch} {L : Nat} {P : zP} {M0 : zM} {w : Int} (hP : PFok P) (rw9 : inR w) : ∀ (n : Nat) (k : Int) (M Mp : zM) (g0 : 0 ≤ k) (g1 : k + n = 100) (hE : Es Mp M) (hI : RJ Mp 1) (hh : Mp 238 1 + n ≤ 9999) (h5 : Mp 209 55 = 0) (hq : Rn M0 Mp), AW G l mdX11_first (zany (LAY L) P (fun r M' => Rn M0 M' ∧ r = fsG w n k Mp)) 22 [some (aR 209), some (aI w), some (aI k), none, none] [] (LAY L) P M 0 0 := by
  intro n
  induction n with
  | zero =>
    intro k M Mp g0 g1 hE hI hh h5 hq
    refine a_iloadn dX11_first_22 rfl ?_
    refine a_bipush (w := 99) dX11_first_23 (by decide) ?_
    refine a_icmp_gt (tgt := 127) dX11_first_25 (by decide) ⟨by omega, by omega⟩ ⟨by omega, by omega⟩ (fun hb25 => ?_) (fun hb25 => ?_)
    · refine a_bipush (w := (-2)) dX11_first_127 (by decide) ?_
      exact a_ireturn dX11_first_129 rfl rfl rfl (zany_i ⟨hq.es hE, rfl⟩)
    · exfalso; omega
  | succ n ih =>
    intro k M Mp g0 g1 hE hI hh h5 hq
    refine a_iloadn dX11_first_22 rfl ?_
    refine a_bipush (w := 99) dX11_first_23 (by decide) ?_
    refine a_icmp_gt (tgt := 127) dX11_first_25 (by decide) ⟨by omega, by omega⟩ ⟨by omega, by omega⟩ (fun hb25 => ?_) (fun hb25 => ?_)
    · exfalso; omega
    · refine a_iconst dX11_first_28 ?_
      refine c_istoren (ls' := [_, _, _, _, _]) dX11_first_29 (by decide) rfl rfl ?_
      have hT := hE.txi hI.1.1
      have e12 : M 209 12 = Mp 209 12 := hE 209 12 (by decide) (by decide) (by omega)
      have ez : ∀ n a, z2oR M n a = z2oR Mp n a := z2oR_es hE
      have q1 := hT.1
      have hI2 := hourR_all hI (by omega)
      have h209 := hourR_0 hI h5
      have hq2 : Rn M0 (hourR 1 Mp) := ⟨hq.1.tr (hI2.1.rq (by rw [h209])), by rw [h209]; exact hq.2⟩
      refine lpX11_first_mid hP hT rw9 (M 209 12).toNat 0 (by omega) (by omega) (fun r hr => zany_i ⟨hq.es hE, ?_⟩) (fun hn => ?_)
      · simp only [fsG]
        rw [ez, e12] at hr
        rw [hr]
      refine a_aloadn dX11_first_116 rfl ?_
      refine a_iconst dX11_first_117 ?_
      refine a_relVv (as := [_]) (q := 209) dX11_first_118 mvX11_397 ⟨by decide, by decide⟩ (L209 L) rfl rfl rfl (Nat.le_of_ble_eq_true rfl) ⟨rfl, rfl⟩ ⟨by decide, by decide⟩ (m_X11_hourGoes hP (Or.inr rfl) hE hI (by omega)) (fun M1 hM1 => ?_)
      refine c_iinc (ls' := [_, _, _, _, _]) dX11_first_121 rfl (by decide) rfl rfl ?_
      refine a_goto (tgt := 22) dX11_first_124 (by decide) ?_
      have ef : fsG w (n + 1) k Mp = fsG w n (k + 1) (hourR 1 Mp) := by
        simp only [fsG]
        rw [ez, e12] at hn
        rw [hn]
      rw [ef]
      exact ih _ _ (hourR 1 Mp) (by omega) (by omega) hM1 hI2.2.1 (by rw [hI2.2.2.1]; omega) (by rw [h209]; exact h5) hq2

set_option maxRecDepth 100000 in
set_option maxHeartbeats 4000000 in
theorem m_X11_first {G : zG} {l : Launch} {L : Nat} {P : zP} {M : zM} {w : Int} (hv : RV P M) (rw : inR w) : AM G l yX11_first mdX11_first [aR 209, aI w] (LAY L) P M (zany (LAY L) P (fun r M' => Rn M M' ∧ ((¬ (0 ≤ w ∧ w ≤ 1)) ∧ r = -1 ∨ ¬ (¬ (0 ≤ w ∧ w ≤ 1)) ∧ ∃ Mb, LtR M Mb ∧ r = fsG w 100 0 Mb))) := by
  have hP := hv.1
  have q0 := hv.2.1.1.1.1
  refine AM.go [some (aR 209), some (aI w), none, none, none] rfl (Nat.le_of_ble_eq_true rfl) ?_ (by decide) rfl rfl
  refine a_aloadn dX11_first_0 rfl ?_
  refine a_iconst dX11_first_1 ?_
  refine a_putI (j' := 2) dX11_first_2 flX11_124 rfl rfl (L209 L) (by decide) rfl ⟨by omega, by omega⟩ ?_
  obtain ⟨Mt, hMt⟩ : ∃ Mt, Mt = sm M 209 2 0 := ⟨_, rfl⟩
  rw [← hMt]
  obtain ⟨hvt, hnt, e12, eT⟩ := th_all hv hMt
  refine a_iloadn dX11_first_5 rfl ?_
  refine a_iconst dX11_first_6 ?_
  refine a_iconst dX11_first_7 ?_
  refine a_oneS (as := [_, _, _]) dX11_first_8 mvX11_169 ⟨by decide, by decide⟩ rfl rfl (Nat.le_of_ble_eq_true rfl) ⟨rfl, rfl⟩ ⟨by decide, by decide⟩ (m_isIn1 ⟨by omega, by omega⟩ ⟨by omega, by omega⟩ ⟨by omega, by omega⟩) (fun x8 hx8 => ?_)
  refine a_if_ne (tgt := 16) dX11_first_11 (by decide) ⟨by omega, by omega⟩ (fun hb11 => ?_) (fun hb11 => ?_)
  · refine a_aloadn dX11_first_16 rfl ?_
    refine a_relVv (as := []) (q := 209) dX11_first_17 mvX11_424 ⟨by decide, by decide⟩ (L209 L) rfl rfl rfl (Nat.le_of_ble_eq_true rfl) ⟨rfl, rfl⟩ ⟨by decide, by decide⟩ (m_X11_layTried hP) (fun Mb hMb => ?_)
    have hb := hMb.of2 hnt
    have hj := hb.rj hv
    have h90 := hv.2.2
    refine a_iconst dX11_first_20 ?_
    refine c_istoren (ls' := [_, _, _, _, _]) dX11_first_21 (by decide) rfl rfl ?_
    refine AW.mono2 (lpX11_first (M0 := M) hP (w := w) rw 100 0 Mb Mb (by omega) (by omega) (Es.rf Mb) hj.2.2.1 (by omega) hb.2.2.2.1.1 hj.1) ?_
    rintro r lay P' M' ⟨h1, h2, x, h3, h4, h5⟩
    exact ⟨h1, h2, x, h3, h4, Or.inr ⟨by omega, Mb, hb, h5⟩⟩
  · refine a_iconst dX11_first_14 ?_
    exact a_ireturn dX11_first_15 rfl rfl rfl (zany_i ⟨hnt, Or.inl ⟨by omega, rfl⟩⟩)
