set_option maxRecDepth 100000 in
set_option maxHeartbeats 4000000 in
theorem tlX4_readPart {G : zG} {l : Launch} {L : Nat} {P : zP} {t w : Nat} {M : zM} (hP : PFok P) (h42 : P 42 1 = some t) (hT : ToA L P t) (ht : t = 4 ∨ t = 23) (h2 : P 42 2 = some w) (hw : LwA L P w) (hwt : w = t + 13 ∨ w = t + 15 ∨ w = t + 17) (hv : LvI t w M) (hR : ∀ i : Int, 0 ≤ i → i < 14 → M 1 i = rnk i) (hd : WdI M) : AW G l mdX4_readPart (zdet none (LAY L) P (lfM t w M)) 57 [some (aR 42), none, none] [] (LAY L) P M 0 0 := by
  have wf : t < 41 ∧ w + 1 < 42 ∧ (w ≠ t ∧ w + 1 ≠ t) := by omega
  obtain ⟨v1, v2, v3, v4, v5⟩ := id hv
  have gl := lnV_in 0 9999 (M := M) (by decide)
  refine a_aloadn dX4_readPart_57 rfl ?_
  refine b_getI (j' := 6) dX4_readPart_58 flX4_43 rfl rfl (L42 L) (fun hr58 => ?_)
  refine a_if_eq (tgt := 65) dX4_readPart_61 (by decide) ⟨by omega, by omega⟩ (fun hb61 => ?_) (fun hb61 => ?_)
  · refine a_aloadn dX4_readPart_65 rfl ?_
    refine a_getR (j' := 0) (y := 43) dX4_readPart_66 flX4_12 rfl rfl (L42 L) (p42_0 hP) ?_
    refine b_getI (j' := 9) dX4_readPart_69 flX4_50 rfl rfl (L43 L) (fun hr69 => ?_)
    refine a_iconst dX4_readPart_72 ?_
    refine a_icmp_ne (tgt := 92) dX4_readPart_73 (by decide) hr69 ⟨by omega, by omega⟩ (fun hb73 => ?_) (fun hb73 => ?_)
    · refine a_iconst dX4_readPart_92 ?_
      refine c_istoren (ls' := [_, _, _]) dX4_readPart_93 (by decide) rfl rfl ?_
      refine a_iloadn dX4_readPart_94 rfl ?_
      refine a_if_eq (tgt := 115) dX4_readPart_95 (by decide) ⟨by omega, by omega⟩ (fun hb95 => ?_) (fun hb95 => ?_)
      · refine a_aloadn dX4_readPart_115 rfl ?_
        refine a_iconst dX4_readPart_116 ?_
        refine a_sipush (w := 9999) dX4_readPart_117 (by decide) ?_
        refine a_callV (as := [_, _]) (q := 42) dX4_readPart_120 mvX4_98 ⟨by decide, by decide⟩ (L42 L) rfl rfl rfl (Nat.le_of_ble_eq_true rfl) ⟨rfl, rfl⟩ ⟨by decide, by decide⟩ (m_X4_lookNumber hP ⟨by omega, by omega⟩ ⟨by omega, by omega⟩) ?_
        refine c_istoren (ls' := [_, _, _]) dX4_readPart_123 (by decide) rfl rfl ?_
        refine a_aloadn dX4_readPart_124 rfl ?_
        refine b_getI (j' := 6) dX4_readPart_125 flX4_43 rfl rfl (L42 L) (fun hr125 => ?_)
        refine a_if_ne (tgt := 143) dX4_readPart_128 (by decide) ⟨by omega, by omega⟩ (fun hb128 => ?_) (fun hb128 => ?_)
        · exact a_return dX4_readPart_143 rfl rfl rfl (zdet_V (by first | (exfalso; omega) | skip; unfold lfM; rw [if_neg (by omega)]; first | (rw [if_pos (by omega)]; done) | (rw [if_neg (by omega), if_neg (by omega)]; done) | (rw [if_neg (by omega), if_pos (by omega), (lnM_ok (show lnM 0 9999 M 42 6 = 0 by omega)).1]; done)))
        · refine a_aloadn dX4_readPart_131 rfl ?_
          have xs : M 43 9 ≠ 0 := by first | omega | (have z := lnM_ok (lo := 0) (hi := 9999) (M := M) (by omega); omega)
          refine a_mem (M' := M) (by first | rfl | exact (lnM_ok (by omega)).1) ?_
          obtain ⟨b1, b2, b3, b4, b5, b6, b7, b8⟩ := hv.tc wf.1 (by omega) wf.2.2.1 (by omega) xs
          refine a_callVv (as := []) (q := 42) dX4_readPart_132 mvX4_172 ⟨by decide, by decide⟩ (L42 L) rfl rfl rfl (Nat.le_of_ble_eq_true rfl) ⟨rfl, rfl⟩ ⟨by decide, by decide⟩ (m_X4_takeKnot hP h42 hT ht v2 v1 xs) ?_
          refine a_aloadn dX4_readPart_135 rfl ?_
          refine a_getR (j' := 2) (y := w) dX4_readPart_136 flX4_36 rfl rfl (L42 L) h2 ?_
          refine a_iloadn dX4_readPart_139 rfl ?_
          refine a_callVv (as := [_]) (q := w) dX4_readPart_140 mvX4_180 ⟨by decide, by decide⟩ hw.2.1 rfl rfl rfl (Nat.le_of_ble_eq_true rfl) ⟨rfl, rfl⟩ ⟨by decide, by decide⟩ (m_laM hw b4 (by have wd : M 43 9 = 3 → M 43 11 ≤ 20 := fun z => (hd.at v1 z).2; exact ⟨by omega, by omega⟩)) ?_
          exact a_return dX4_readPart_143 rfl rfl rfl (zdet_V (by first | (exfalso; omega) | skip; unfold lfM; rw [if_neg (by omega)]; first | (rw [if_pos (by omega)]; done) | (rw [if_neg (by omega), if_neg (by omega)]; done) | (rw [if_neg (by omega), if_pos (by omega), (lnM_ok (show lnM 0 9999 M 42 6 = 0 by omega)).1]; done)))
      · refine a_sipush (w := 10000) dX4_readPart_98 (by decide) ?_
        refine a_aloadn dX4_readPart_101 rfl ?_
        refine a_getR (j' := 0) (y := 43) dX4_readPart_102 flX4_12 rfl rfl (L42 L) (p42_0 hP) ?_
        refine b_getI (j' := 11) dX4_readPart_105 flX4_60 rfl rfl (L43 L) (fun hr105 => ?_)
        refine a_iadd dX4_readPart_108 ?_
        refine a_bipush (w := 14) dX4_readPart_109 (by decide) ?_
        refine a_isub dX4_readPart_111 ?_
        refine a_goto (tgt := 123) dX4_readPart_112 (by decide) ?_
        refine c_istoren (ls' := [_, _, _]) dX4_readPart_123 (by decide) rfl rfl ?_
        refine a_aloadn dX4_readPart_124 rfl ?_
        refine b_getI (j' := 6) dX4_readPart_125 flX4_43 rfl rfl (L42 L) (fun hr125 => ?_)
        refine a_if_ne (tgt := 143) dX4_readPart_128 (by decide) ⟨by omega, by omega⟩ (fun hb128 => ?_) (fun hb128 => ?_)
        · exact a_return dX4_readPart_143 rfl rfl rfl (zdet_V (by first | (exfalso; omega) | skip; unfold lfM; rw [if_neg (by omega)]; first | (rw [if_pos (by omega)]; done) | (rw [if_neg (by omega), if_neg (by omega)]; done) | (rw [if_neg (by omega), if_pos (by omega), (lnM_ok (show lnM 0 9999 M 42 6 = 0 by omega)).1]; done)))
        · refine a_aloadn dX4_readPart_131 rfl ?_
          have xs : M 43 9 ≠ 0 := by first | omega | (have z := lnM_ok (lo := 0) (hi := 9999) (M := M) (by omega); omega)
          refine a_mem (M' := M) (by first | rfl | exact (lnM_ok (by omega)).1) ?_
          obtain ⟨b1, b2, b3, b4, b5, b6, b7, b8⟩ := hv.tc wf.1 (by omega) wf.2.2.1 (by omega) xs
          refine a_callVv (as := []) (q := 42) dX4_readPart_132 mvX4_172 ⟨by decide, by decide⟩ (L42 L) rfl rfl rfl (Nat.le_of_ble_eq_true rfl) ⟨rfl, rfl⟩ ⟨by decide, by decide⟩ (m_X4_takeKnot hP h42 hT ht v2 v1 xs) ?_
          refine a_aloadn dX4_readPart_135 rfl ?_
          refine a_getR (j' := 2) (y := w) dX4_readPart_136 flX4_36 rfl rfl (L42 L) h2 ?_
          refine a_iloadn dX4_readPart_139 rfl ?_
          refine a_callVv (as := [_]) (q := w) dX4_readPart_140 mvX4_180 ⟨by decide, by decide⟩ hw.2.1 rfl rfl rfl (Nat.le_of_ble_eq_true rfl) ⟨rfl, rfl⟩ ⟨by decide, by decide⟩ (m_laM hw b4 (by have wd : M 43 9 = 3 → M 43 11 ≤ 20 := fun z => (hd.at v1 z).2; exact ⟨by omega, by omega⟩)) ?_
          exact a_return dX4_readPart_143 rfl rfl rfl (zdet_V (by first | (exfalso; omega) | skip; unfold lfM; rw [if_neg (by omega)]; first | (rw [if_pos (by omega)]; done) | (rw [if_neg (by omega), if_neg (by omega)]; done) | (rw [if_neg (by omega), if_pos (by omega), (lnM_ok (show lnM 0 9999 M 42 6 = 0 by omega)).1]; done)))
    · refine a_aloadn dX4_readPart_76 rfl ?_
      refine a_getR (j' := 0) (y := 43) dX4_readPart_77 flX4_12 rfl rfl (L42 L) (p42_0 hP) ?_
      refine b_getI (j' := 11) dX4_readPart_80 flX4_60 rfl rfl (L43 L) (fun hr80 => ?_)
      refine a_bipush (w := 14) dX4_readPart_83 (by decide) ?_
      refine a_icmp_lt (tgt := 92) dX4_readPart_85 (by decide) hr80 ⟨by omega, by omega⟩ (fun hb85 => ?_) (fun hb85 => ?_)
      · refine a_iconst dX4_readPart_92 ?_
        refine c_istoren (ls' := [_, _, _]) dX4_readPart_93 (by decide) rfl rfl ?_
        refine a_iloadn dX4_readPart_94 rfl ?_
        refine a_if_eq (tgt := 115) dX4_readPart_95 (by decide) ⟨by omega, by omega⟩ (fun hb95 => ?_) (fun hb95 => ?_)
        · refine a_aloadn dX4_readPart_115 rfl ?_
          refine a_iconst dX4_readPart_116 ?_
          refine a_sipush (w := 9999) dX4_readPart_117 (by decide) ?_
          refine a_callV (as := [_, _]) (q := 42) dX4_readPart_120 mvX4_98 ⟨by decide, by decide⟩ (L42 L) rfl rfl rfl (Nat.le_of_ble_eq_true rfl) ⟨rfl, rfl⟩ ⟨by decide, by decide⟩ (m_X4_lookNumber hP ⟨by omega, by omega⟩ ⟨by omega, by omega⟩) ?_
          refine c_istoren (ls' := [_, _, _]) dX4_readPart_123 (by decide) rfl rfl ?_
          refine a_aloadn dX4_readPart_124 rfl ?_
          refine b_getI (j' := 6) dX4_readPart_125 flX4_43 rfl rfl (L42 L) (fun hr125 => ?_)
          refine a_if_ne (tgt := 143) dX4_readPart_128 (by decide) ⟨by omega, by omega⟩ (fun hb128 => ?_) (fun hb128 => ?_)
          · exact a_return dX4_readPart_143 rfl rfl rfl (zdet_V (by first | (exfalso; omega) | skip; unfold lfM; rw [if_neg (by omega)]; first | (rw [if_pos (by omega)]; done) | (rw [if_neg (by omega), if_neg (by omega)]; done) | (rw [if_neg (by omega), if_pos (by omega), (lnM_ok (show lnM 0 9999 M 42 6 = 0 by omega)).1]; done)))
          · refine a_aloadn dX4_readPart_131 rfl ?_
            have xs : M 43 9 ≠ 0 := by first | omega | (have z := lnM_ok (lo := 0) (hi := 9999) (M := M) (by omega); omega)
            refine a_mem (M' := M) (by first | rfl | exact (lnM_ok (by omega)).1) ?_
            obtain ⟨b1, b2, b3, b4, b5, b6, b7, b8⟩ := hv.tc wf.1 (by omega) wf.2.2.1 (by omega) xs
            refine a_callVv (as := []) (q := 42) dX4_readPart_132 mvX4_172 ⟨by decide, by decide⟩ (L42 L) rfl rfl rfl (Nat.le_of_ble_eq_true rfl) ⟨rfl, rfl⟩ ⟨by decide, by decide⟩ (m_X4_takeKnot hP h42 hT ht v2 v1 xs) ?_
            refine a_aloadn dX4_readPart_135 rfl ?_
            refine a_getR (j' := 2) (y := w) dX4_readPart_136 flX4_36 rfl rfl (L42 L) h2 ?_
            refine a_iloadn dX4_readPart_139 rfl ?_
            refine a_callVv (as := [_]) (q := w) dX4_readPart_140 mvX4_180 ⟨by decide, by decide⟩ hw.2.1 rfl rfl rfl (Nat.le_of_ble_eq_true rfl) ⟨rfl, rfl⟩ ⟨by decide, by decide⟩ (m_laM hw b4 (by have wd : M 43 9 = 3 → M 43 11 ≤ 20 := fun z => (hd.at v1 z).2; exact ⟨by omega, by omega⟩)) ?_
            exact a_return dX4_readPart_143 rfl rfl rfl (zdet_V (by first | (exfalso; omega) | skip; unfold lfM; rw [if_neg (by omega)]; first | (rw [if_pos (by omega)]; done) | (rw [if_neg (by omega), if_neg (by omega)]; done) | (rw [if_neg (by omega), if_pos (by omega), (lnM_ok (show lnM 0 9999 M 42 6 = 0 by omega)).1]; done)))
        · refine a_sipush (w := 10000) dX4_readPart_98 (by decide) ?_
          refine a_aloadn dX4_readPart_101 rfl ?_
          refine a_getR (j' := 0) (y := 43) dX4_readPart_102 flX4_12 rfl rfl (L42 L) (p42_0 hP) ?_
          refine b_getI (j' := 11) dX4_readPart_105 flX4_60 rfl rfl (L43 L) (fun hr105 => ?_)
          refine a_iadd dX4_readPart_108 ?_
          refine a_bipush (w := 14) dX4_readPart_109 (by decide) ?_
          refine a_isub dX4_readPart_111 ?_
          refine a_goto (tgt := 123) dX4_readPart_112 (by decide) ?_
          refine c_istoren (ls' := [_, _, _]) dX4_readPart_123 (by decide) rfl rfl ?_
          refine a_aloadn dX4_readPart_124 rfl ?_
          refine b_getI (j' := 6) dX4_readPart_125 flX4_43 rfl rfl (L42 L) (fun hr125 => ?_)
          refine a_if_ne (tgt := 143) dX4_readPart_128 (by decide) ⟨by omega, by omega⟩ (fun hb128 => ?_) (fun hb128 => ?_)
          · exact a_return dX4_readPart_143 rfl rfl rfl (zdet_V (by first | (exfalso; omega) | skip; unfold lfM; rw [if_neg (by omega)]; first | (rw [if_pos (by omega)]; done) | (rw [if_neg (by omega), if_neg (by omega)]; done) | (rw [if_neg (by omega), if_pos (by omega), (lnM_ok (show lnM 0 9999 M 42 6 = 0 by omega)).1]; done)))
          · refine a_aloadn dX4_readPart_131 rfl ?_
            have xs : M 43 9 ≠ 0 := by first | omega | (have z := lnM_ok (lo := 0) (hi := 9999) (M := M) (by omega); omega)
            refine a_mem (M' := M) (by first | rfl | exact (lnM_ok (by omega)).1) ?_
            obtain ⟨b1, b2, b3, b4, b5, b6, b7, b8⟩ := hv.tc wf.1 (by omega) wf.2.2.1 (by omega) xs
            refine a_callVv (as := []) (q := 42) dX4_readPart_132 mvX4_172 ⟨by decide, by decide⟩ (L42 L) rfl rfl rfl (Nat.le_of_ble_eq_true rfl) ⟨rfl, rfl⟩ ⟨by decide, by decide⟩ (m_X4_takeKnot hP h42 hT ht v2 v1 xs) ?_
            refine a_aloadn dX4_readPart_135 rfl ?_
            refine a_getR (j' := 2) (y := w) dX4_readPart_136 flX4_36 rfl rfl (L42 L) h2 ?_
            refine a_iloadn dX4_readPart_139 rfl ?_
            refine a_callVv (as := [_]) (q := w) dX4_readPart_140 mvX4_180 ⟨by decide, by decide⟩ hw.2.1 rfl rfl rfl (Nat.le_of_ble_eq_true rfl) ⟨rfl, rfl⟩ ⟨by decide, by decide⟩ (m_laM hw b4 (by have wd : M 43 9 = 3 → M 43 11 ≤ 20 := fun z => (hd.at v1 z).2; exact ⟨by omega, by omega⟩)) ?_
            exact a_return dX4_readPart_143 rfl rfl rfl (zdet_V (by first | (exfalso; omega) | skip; unfold lfM; rw [if_neg (by omega)]; first | (rw [if_pos (by omega)]; done) | (rw [if_neg (by omega), if_neg (by omega)]; done) | (rw [if_neg (by omega), if_pos (by omega), (lnM_ok (show lnM 0 9999 M 42 6 = 0 by omega)).1]; done)))
      · refine a_iconst dX4_readPart_88 ?_
        refine a_goto (tgt := 93) dX4_readPart_89 (by decide) ?_
        refine c_istoren (ls' := [_, _, _]) dX4_readPart_93 (by decide) rfl rfl ?_
        refine a_iloadn dX4_readPart_94 rfl ?_
        refine a_if_eq (tgt := 115) dX4_readPart_95 (by decide) ⟨by omega, by omega⟩ (fun hb95 => ?_) (fun hb95 => ?_)
        · refine a_aloadn dX4_readPart_115 rfl ?_
          refine a_iconst dX4_readPart_116 ?_
          refine a_sipush (w := 9999) dX4_readPart_117 (by decide) ?_
          refine a_callV (as := [_, _]) (q := 42) dX4_readPart_120 mvX4_98 ⟨by decide, by decide⟩ (L42 L) rfl rfl rfl (Nat.le_of_ble_eq_true rfl) ⟨rfl, rfl⟩ ⟨by decide, by decide⟩ (m_X4_lookNumber hP ⟨by omega, by omega⟩ ⟨by omega, by omega⟩) ?_
          refine c_istoren (ls' := [_, _, _]) dX4_readPart_123 (by decide) rfl rfl ?_
          refine a_aloadn dX4_readPart_124 rfl ?_
          refine b_getI (j' := 6) dX4_readPart_125 flX4_43 rfl rfl (L42 L) (fun hr125 => ?_)
          refine a_if_ne (tgt := 143) dX4_readPart_128 (by decide) ⟨by omega, by omega⟩ (fun hb128 => ?_) (fun hb128 => ?_)
          · exact a_return dX4_readPart_143 rfl rfl rfl (zdet_V (by first | (exfalso; omega) | skip; unfold lfM; rw [if_neg (by omega)]; first | (rw [if_pos (by omega)]; done) | (rw [if_neg (by omega), if_neg (by omega)]; done) | (rw [if_neg (by omega), if_pos (by omega), (lnM_ok (show lnM 0 9999 M 42 6 = 0 by omega)).1]; done)))
          · refine a_aloadn dX4_readPart_131 rfl ?_
            have xs : M 43 9 ≠ 0 := by first | omega | (have z := lnM_ok (lo := 0) (hi := 9999) (M := M) (by omega); omega)
            refine a_mem (M' := M) (by first | rfl | exact (lnM_ok (by omega)).1) ?_
            obtain ⟨b1, b2, b3, b4, b5, b6, b7, b8⟩ := hv.tc wf.1 (by omega) wf.2.2.1 (by omega) xs
            refine a_callVv (as := []) (q := 42) dX4_readPart_132 mvX4_172 ⟨by decide, by decide⟩ (L42 L) rfl rfl rfl (Nat.le_of_ble_eq_true rfl) ⟨rfl, rfl⟩ ⟨by decide, by decide⟩ (m_X4_takeKnot hP h42 hT ht v2 v1 xs) ?_
            refine a_aloadn dX4_readPart_135 rfl ?_
            refine a_getR (j' := 2) (y := w) dX4_readPart_136 flX4_36 rfl rfl (L42 L) h2 ?_
            refine a_iloadn dX4_readPart_139 rfl ?_
            refine a_callVv (as := [_]) (q := w) dX4_readPart_140 mvX4_180 ⟨by decide, by decide⟩ hw.2.1 rfl rfl rfl (Nat.le_of_ble_eq_true rfl) ⟨rfl, rfl⟩ ⟨by decide, by decide⟩ (m_laM hw b4 (by have wd : M 43 9 = 3 → M 43 11 ≤ 20 := fun z => (hd.at v1 z).2; exact ⟨by omega, by omega⟩)) ?_
            exact a_return dX4_readPart_143 rfl rfl rfl (zdet_V (by first | (exfalso; omega) | skip; unfold lfM; rw [if_neg (by omega)]; first | (rw [if_pos (by omega)]; done) | (rw [if_neg (by omega), if_neg (by omega)]; done) | (rw [if_neg (by omega), if_pos (by omega), (lnM_ok (show lnM 0 9999 M 42 6 = 0 by omega)).1]; done)))
        · refine a_sipush (w := 10000) dX4_readPart_98 (by decide) ?_
          refine a_aloadn dX4_readPart_101 rfl ?_
          refine a_getR (j' := 0) (y := 43) dX4_readPart_102 flX4_12 rfl rfl (L42 L) (p42_0 hP) ?_
          refine b_getI (j' := 11) dX4_readPart_105 flX4_60 rfl rfl (L43 L) (fun hr105 => ?_)
          refine a_iadd dX4_readPart_108 ?_
          refine a_bipush (w := 14) dX4_readPart_109 (by decide) ?_
          refine a_isub dX4_readPart_111 ?_
          refine a_goto (tgt := 123) dX4_readPart_112 (by decide) ?_
          refine c_istoren (ls' := [_, _, _]) dX4_readPart_123 (by decide) rfl rfl ?_
          refine a_aloadn dX4_readPart_124 rfl ?_
          refine b_getI (j' := 6) dX4_readPart_125 flX4_43 rfl rfl (L42 L) (fun hr125 => ?_)
          refine a_if_ne (tgt := 143) dX4_readPart_128 (by decide) ⟨by omega, by omega⟩ (fun hb128 => ?_) (fun hb128 => ?_)
          · exact a_return dX4_readPart_143 rfl rfl rfl (zdet_V (by first | (exfalso; omega) | skip; unfold lfM; rw [if_neg (by omega)]; first | (rw [if_pos (by omega)]; done) | (rw [if_neg (by omega), if_neg (by omega)]; done) | (rw [if_neg (by omega), if_pos (by omega), (lnM_ok (show lnM 0 9999 M 42 6 = 0 by omega)).1]; done)))
          · refine a_aloadn dX4_readPart_131 rfl ?_
            have xs : M 43 9 ≠ 0 := by first | omega | (have z := lnM_ok (lo := 0) (hi := 9999) (M := M) (by omega); omega)
            refine a_mem (M' := M) (by first | rfl | exact (lnM_ok (by omega)).1) ?_
            obtain ⟨b1, b2, b3, b4, b5, b6, b7, b8⟩ := hv.tc wf.1 (by omega) wf.2.2.1 (by omega) xs
            refine a_callVv (as := []) (q := 42) dX4_readPart_132 mvX4_172 ⟨by decide, by decide⟩ (L42 L) rfl rfl rfl (Nat.le_of_ble_eq_true rfl) ⟨rfl, rfl⟩ ⟨by decide, by decide⟩ (m_X4_takeKnot hP h42 hT ht v2 v1 xs) ?_
            refine a_aloadn dX4_readPart_135 rfl ?_
            refine a_getR (j' := 2) (y := w) dX4_readPart_136 flX4_36 rfl rfl (L42 L) h2 ?_
            refine a_iloadn dX4_readPart_139 rfl ?_
            refine a_callVv (as := [_]) (q := w) dX4_readPart_140 mvX4_180 ⟨by decide, by decide⟩ hw.2.1 rfl rfl rfl (Nat.le_of_ble_eq_true rfl) ⟨rfl, rfl⟩ ⟨by decide, by decide⟩ (m_laM hw b4 (by have wd : M 43 9 = 3 → M 43 11 ≤ 20 := fun z => (hd.at v1 z).2; exact ⟨by omega, by omega⟩)) ?_
            exact a_return dX4_readPart_143 rfl rfl rfl (zdet_V (by first | (exfalso; omega) | skip; unfold lfM; rw [if_neg (by omega)]; first | (rw [if_pos (by omega)]; done) | (rw [if_neg (by omega), if_neg (by omega)]; done) | (rw [if_neg (by omega), if_pos (by omega), (lnM_ok (show lnM 0 9999 M 42 6 = 0 by omega)).1]; done)))
  · exact a_return dX4_readPart_64 rfl rfl rfl (zdet_V (by unfold lfM; rw [if_pos (by omega)]))

set_option maxRecDepth 100000 in
set_option maxHeartbeats 4000000 in
theorem lpX4_readPart {G : zG} {l : Launch} {L : Nat} {P : zP} {t w : Nat} (hP : PFok P) (h42 : P 42 1 = some t) (hT : ToA L P t) (ht : t = 4 ∨ t = 23) (h2 : P 42 2 = some w) (hw : LwA L P w) (hwt : w = t + 13 ∨ w = t + 15 ∨ w = t + 17) : ∀ (n : Nat) (i : Int) (M : zM) (g0 : 0 ≤ i) (g1 : i + n = 701) (hv : LvI t w M) (hR : ∀ i : Int, 0 ≤ i → i < 14 → M 1 i = rnk i) (hd : WdI M), AW G l mdX4_readPart (zdet none (LAY L) P (lfM t w (rpL t n M))) 2 [some (aR 42), some (aI i), none] [] (LAY L) P M 0 0 := by
  intro n
  induction n with
  | zero =>
    intro i M g0 g1 hv hR hd
    have wf : t < 41 ∧ w + 1 < 42 ∧ (w ≠ t ∧ w + 1 ≠ t) := by omega
    obtain ⟨v1, v2, v3, v4, v5⟩ := id hv
    refine a_iloadn dX4_readPart_2 rfl ?_
    refine a_sipush (w := 700) dX4_readPart_3 (by decide) ?_
    refine a_icmp_gt (tgt := 57) dX4_readPart_6 (by decide) ⟨by omega, by omega⟩ ⟨by omega, by omega⟩ (fun hb6 => ?_) (fun hb6 => ?_)
    · refine a_forget [1] (ls' := [_, none, none]) rfl ?_
      exact tlX4_readPart hP h42 hT ht h2 hw hwt hv hR hd
    · exfalso; omega
  | succ n ih =>
    intro i M g0 g1 hv hR hd
    have wf : t < 41 ∧ w + 1 < 42 ∧ (w ≠ t ∧ w + 1 ≠ t) := by omega
    obtain ⟨v1, v2, v3, v4, v5⟩ := id hv
    refine a_iloadn dX4_readPart_2 rfl ?_
    refine a_sipush (w := 700) dX4_readPart_3 (by decide) ?_
    refine a_icmp_gt (tgt := 57) dX4_readPart_6 (by decide) ⟨by omega, by omega⟩ ⟨by omega, by omega⟩ (fun hb6 => ?_) (fun hb6 => ?_)
    · exfalso; omega
    · refine a_aloadn dX4_readPart_9 rfl ?_
      refine b_getI (j' := 6) dX4_readPart_10 flX4_43 rfl rfl (L42 L) (fun hr10 => ?_)
      refine a_if_ne (tgt := 57) dX4_readPart_13 (by decide) ⟨by omega, by omega⟩ (fun hb13 => ?_) (fun hb13 => ?_)
      · refine a_forget [1] (ls' := [_, none, none]) rfl ?_
        rw [rpL_s, if_neg (by omega)]
        exact tlX4_readPart hP h42 hT ht h2 hw hwt hv hR hd
      · refine a_aloadn dX4_readPart_16 rfl ?_
        refine a_oneV (as := []) (q := 42) dX4_readPart_17 mvX4_166 ⟨by decide, by decide⟩ (L42 L) rfl rfl rfl (Nat.le_of_ble_eq_true rfl) ⟨rfl, rfl⟩ ⟨by decide, by decide⟩ (m_X4_isAheadOfPart hP v3 hR) (fun x17 hx17 => ?_)
        refine a_if_eq (tgt := 57) dX4_readPart_20 (by decide) (by rw [hx17]; unfold iaV; split <;> exact ⟨by omega, by omega⟩) (fun hb20 => ?_) (fun hb20 => ?_)
        · refine a_forget [1] (ls' := [_, none, none]) rfl ?_
          rw [rpL_s, if_neg (by omega)]
          exact tlX4_readPart hP h42 hT ht h2 hw hwt hv hR hd
        · refine a_aloadn dX4_readPart_23 rfl ?_
          refine a_getR (j' := 0) (y := 43) dX4_readPart_24 flX4_12 rfl rfl (L42 L) (p42_0 hP) ?_
          refine a_bipush (w := 13) dX4_readPart_27 (by decide) ?_
          refine a_oneV (as := [_]) (q := 43) dX4_readPart_29 mvX4_84 ⟨by decide, by decide⟩ (L43 L) rfl rfl rfl (Nat.le_of_ble_eq_true rfl) ⟨rfl, rfl⟩ ⟨by decide, by decide⟩ (m_X7_isSign ⟨by omega, by omega⟩) (fun x29 hx29 => ?_)
          refine a_if_eq (tgt := 42) dX4_readPart_32 (by decide) (by rcases hx29 with z | z <;> exact ⟨by omega, by omega⟩) (fun hb32 => ?_) (fun hb32 => ?_)
          · refine a_aloadn dX4_readPart_42 rfl ?_
            have hs : M 43 9 ≠ 0 := by
              unfold iaV at hx17
              split at hx17 <;> omega
            refine a_callVv (as := []) (q := 42) dX4_readPart_43 mvX4_172 ⟨by decide, by decide⟩ (L42 L) rfl rfl rfl (Nat.le_of_ble_eq_true rfl) ⟨rfl, rfl⟩ ⟨by decide, by decide⟩ (m_X4_takeKnot hP h42 hT ht v2 v1 hs) ?_
            refine a_aloadn dX4_readPart_46 rfl ?_
            refine a_iconst dX4_readPart_47 ?_
            obtain ⟨b1, b2, b3, b4, b5, b6, b7, b8⟩ := hv.tc wf.1 (by omega) wf.2.2.1 (by omega) hs
            refine a_callVv (as := [_]) (q := 42) dX4_readPart_48 mvX4_177 ⟨by decide, by decide⟩ (L42 L) rfl rfl rfl (Nat.le_of_ble_eq_true rfl) ⟨rfl, rfl⟩ ⟨by decide, by decide⟩ (m_X4_putAside hP b3.1 ⟨by omega, by omega⟩) ?_
            have ei : iaV M ≠ 0 := by omega
            have h60 : M 42 6 = 0 := by omega
            refine a_mem (M' := rpB t M) (by unfold rpB; first | (rw [if_pos (by omega)]; done) | (rw [if_neg (by omega)]; done)) ?_
            refine c_iinc (ls' := [_, _, _]) dX4_readPart_51 rfl (by decide) rfl rfl ?_
            refine a_goto (tgt := 2) dX4_readPart_54 (by decide) ?_
            rw [rpL_s, if_pos ⟨h60, ei⟩]
            exact ih _ _ (by omega) (by omega) (hv.rpB wf.1 (by omega) wf.2.2.1 h60 ei) (fun j j0 j1 => by rw [rpB_n t M (by decide) (by decide) (by decide) (by omega)]; exact hR j j0 j1) (hd.of (LJ.rpB (w := w) M wf.1 wf.2.1 wf.2.2).1.1 (rpB_n t M (by decide) (by decide) (by decide) (by omega)) (rpB_n t M (by decide) (by decide) (by decide) (by omega)))
          · refine a_aloadn dX4_readPart_35 rfl ?_
            refine a_callVv (as := []) (q := 42) dX4_readPart_36 mvX4_169 ⟨by decide, by decide⟩ (L42 L) rfl rfl rfl (Nat.le_of_ble_eq_true rfl) ⟨rfl, rfl⟩ ⟨by decide, by decide⟩ (m_X4_takeOpen hP v3.1 v1 (by omega)) ?_
            refine a_goto (tgt := 51) dX4_readPart_39 (by decide) ?_
            have ei : iaV M ≠ 0 := by omega
            have h60 : M 42 6 = 0 := by omega
            refine a_mem (M' := rpB t M) (by unfold rpB; first | (rw [if_pos (by omega)]; done) | (rw [if_neg (by omega)]; done)) ?_
            refine c_iinc (ls' := [_, _, _]) dX4_readPart_51 rfl (by decide) rfl rfl ?_
            refine a_goto (tgt := 2) dX4_readPart_54 (by decide) ?_
            rw [rpL_s, if_pos ⟨h60, ei⟩]
            exact ih _ _ (by omega) (by omega) (hv.rpB wf.1 (by omega) wf.2.2.1 h60 ei) (fun j j0 j1 => by rw [rpB_n t M (by decide) (by decide) (by decide) (by omega)]; exact hR j j0 j1) (hd.of (LJ.rpB (w := w) M wf.1 wf.2.1 wf.2.2).1.1 (rpB_n t M (by decide) (by decide) (by decide) (by omega)) (rpB_n t M (by decide) (by decide) (by decide) (by omega)))

set_option maxRecDepth 100000 in
set_option maxHeartbeats 4000000 in
theorem m_X4_readPart {G : zG} {l : Launch} {L : Nat} {P : zP} {M : zM} {t w : Nat} (hP : PFok P) (h42 : P 42 1 = some t) (hT : ToA L P t) (ht : t = 4 ∨ t = 23) (h2 : P 42 2 = some w) (hw : LwA L P w) (hwt : w = t + 13 ∨ w = t + 15 ∨ w = t + 17) (hv : LvI t w M) (hR : ∀ i : Int, 0 ≤ i → i < 14 → M 1 i = rnk i) (hd : WdI M) : AM G l yX4_readPart mdX4_readPart [aR 42] (LAY L) P M (zdet none (LAY L) P (rpM t w M)) := by
  refine AM.go [some (aR 42), none, none] rfl (Nat.le_of_ble_eq_true rfl) ?_ (by decide) rfl rfl
  refine a_iconst dX4_readPart_0 ?_
  refine c_istoren (ls' := [_, _, _]) dX4_readPart_1 (by decide) rfl rfl ?_
  exact lpX4_readPart hP h42 hT ht h2 hw hwt 701 0 M (by omega) (by omega) hv hR hd

set_option maxRecDepth 100000 in
set_option maxHeartbeats 4000000 in
theorem tlX4_rb {G : zG} {l : Launch} {L : Nat} {P : zP} {t w : Nat} {M : zM} (hP : PFok P) (h42 : P 42 1 = some t) (hT : ToA L P t) (ht : t = 4 ∨ t = 23) (h2 : P 42 2 = some w) (hw : LwA L P w) (hwt : w = t + 13 ∨ w = t + 15 ∨ w = t + 17) (hv : LvI t w M) (hR : ∀ i : Int, 0 ≤ i → i < 14 → M 1 i = rnk i) (h0 : M 42 6 = 0) : AW G l mdX4_readBehindPart (zdet (some (aI (rbT t w M).2)) (LAY L) P (rbT t w M).1) 65 [some (aR 42), none, none] [] (LAY L) P M 0 0 := by
  have wf : t < 41 ∧ w + 1 < 42 ∧ (w ≠ t ∧ w + 1 ≠ t) := by omega
  obtain ⟨v1, v2, v3, v4, v5⟩ := id hv
  have sq := sgH_in M
  refine a_aloadn dX4_readBehindPart_65 rfl ?_
  refine a_oneV (as := []) (q := 42) dX4_readBehindPart_66 mvX4_190 ⟨by decide, by decide⟩ (L42 L) rfl rfl rfl (Nat.le_of_ble_eq_true rfl) ⟨rfl, rfl⟩ ⟨by decide, by decide⟩ (m_X4_signHere hP) (fun x66 hx66 => ?_)
  rw [hx66]
  refine c_istoren (ls' := [_, _, _]) dX4_readBehindPart_69 (by decide) rfl rfl ?_
  refine a_iloadn dX4_readBehindPart_70 rfl ?_
  refine a_iconst dX4_readBehindPart_71 ?_
  refine a_icmp_ne (tgt := 89) dX4_readBehindPart_72 (by decide) ⟨by omega, by omega⟩ ⟨by omega, by omega⟩ (fun hb72 => ?_) (fun hb72 => ?_)
  · refine a_ranks dX4_readBehindPart_89 kfRANKS ?_
    refine a_iloadn dX4_readBehindPart_92 rfl ?_
    refine b_iald (N := 14) dX4_readBehindPart_93 (L1 L) (by decide) (by omega) (by omega) (fun hr93 => ?_)
    have sg0 : 0 ≤ sgH M := by omega
    have r1 : 1 ≤ rnk (sgH M) ∧ rnk (sgH M) ≤ 6 := by
      obtain ⟨k, hk⟩ : ∃ k : Nat, sgH M = (k : Int) := ⟨(sgH M).toNat, by omega⟩
      have z := rnk_in (x := sgH M) ⟨by omega, by omega⟩
      exact ⟨by rw [hk]; exact rnk_12 ⟨k, by omega⟩, z.2.1⟩
    rw [hR _ (by omega) (by omega)] at hr93
    rw [hR _ (by omega) (by omega)]
    refine c_istoren (ls' := [_, _, _]) dX4_readBehindPart_94 (by decide) rfl rfl ?_
    refine a_aloadn dX4_readBehindPart_95 rfl ?_
    refine a_iloadn dX4_readBehindPart_96 rfl ?_
    refine a_iconst dX4_readBehindPart_97 ?_
    refine a_icmp_ne (tgt := 107) dX4_readBehindPart_98 (by decide) ⟨by omega, by omega⟩ ⟨by omega, by omega⟩ (fun hb98 => ?_) (fun hb98 => ?_)
    · refine a_iloadn dX4_readBehindPart_107 rfl ?_
      obtain ⟨r9, er9⟩ : ∃ r9, r9 = (if rnk (sgH M) = 4 then rnk (sgH M) + 1 else rnk (sgH M)) := ⟨_, rfl⟩
      refine a_stk (st' := [aI r9, aR 42]) (by rw [er9]; first | (rw [if_pos (by omega)]; done) | (rw [if_neg (by omega)]; done)) ?_
      have r9i : 1 ≤ r9 ∧ r9 ≤ 7 := by rw [er9]; split <;> omega
      obtain ⟨b1, b2, b3, b4, b5, b6, b7⟩ := lyA_all (r := r9) wf.2.1 (M 42 4).toNat M v3 (by have := v3.1; omega) v4
      have hy := hv.ly (r := r9) wf.1 wf.2.1 wf.2.2 r9i.1
      obtain ⟨M1, e1⟩ : ∃ M1, M1 = lyA w r9 (M 42 4).toNat M := ⟨_, rfl⟩
      refine a_callVv (as := [_]) (q := 42) dX4_readBehindPart_108 mvX4_163 ⟨by decide, by decide⟩ (L42 L) rfl rfl rfl (Nat.le_of_ble_eq_true rfl) ⟨rfl, rfl⟩ ⟨by decide, by decide⟩ (m_X4_layAside hP h42 hT ht h2 hw hwt ⟨by omega, by omega⟩ v3 v4 hR) ?_
      rw [← e1] at b1 b2 b3 b4 b5 b6 b7 hy ⊢
      have f1 : M1 42 6 = 0 := by rw [b4 6 (by decide)]; exact h0
      have hR1 : ∀ i : Int, 0 ≤ i → i < 14 → M1 1 i = rnk i := fun i i0 i1 => by rw [b5 1 (by decide) (by omega) (by omega)]; exact hR i i0 i1
      have k1 := rkA_in b1
      have es : sgM9 t w M = if rnk (sgH M) = 4 ∧ rkA M1 = 4 then flM M1 1 else paM (sgH M) (tcM t M1) := by rw [e1, er9]; rfl
      have eb : rbT t w M = (sgM9 t w M, if rnk (sgH M) = 4 ∧ rkA M1 = 4 then 0 else if sgM9 t w M 42 6 = 0 then 1 else 0) := by rw [e1, er9]; unfold rbT; rw [if_neg (by omega)]
      rw [eb]
      refine a_iloadn dX4_readBehindPart_111 rfl ?_
      refine a_iconst dX4_readBehindPart_112 ?_
      refine a_icmp_ne (tgt := 131) dX4_readBehindPart_113 (by decide) ⟨by omega, by omega⟩ ⟨by omega, by omega⟩ (fun hb113 => ?_) (fun hb113 => ?_)
      · refine a_aloadn dX4_readBehindPart_131 rfl ?_
        have s9 : M1 43 9 ≠ 0 := by rw [b5 43 (by decide) (by omega) (by omega)]; omega
        obtain ⟨c1, c2, c3, c4, c5, c6, c7, c8⟩ := hy.tc wf.1 (by omega) wf.2.2.1 f1 s9
        refine a_callVv (as := []) (q := 42) dX4_readBehindPart_132 mvX4_172 ⟨by decide, by decide⟩ (L42 L) rfl rfl rfl (Nat.le_of_ble_eq_true rfl) ⟨rfl, rfl⟩ ⟨by decide, by decide⟩ (m_X4_takeKnot hP h42 hT ht hy.2.1 hy.1 s9) ?_
        refine a_aloadn dX4_readBehindPart_135 rfl ?_
        refine a_iloadn dX4_readBehindPart_136 rfl ?_
        refine a_callVv (as := [_]) (q := 42) dX4_readBehindPart_137 mvX4_177 ⟨by decide, by decide⟩ (L42 L) rfl rfl rfl (Nat.le_of_ble_eq_true rfl) ⟨rfl, rfl⟩ ⟨by decide, by decide⟩ (m_X4_putAside hP c3.1 ⟨by omega, by omega⟩) ?_
        refine a_aloadn dX4_readBehindPart_140 rfl ?_
        refine b_getI (j' := 6) dX4_readBehindPart_141 flX4_43 rfl rfl (L42 L) (fun hr141 => ?_)
        refine a_if_ne (tgt := 151) dX4_readBehindPart_144 (by decide) ⟨by omega, by omega⟩ (fun hb144 => ?_) (fun hb144 => ?_)
        · refine a_iconst dX4_readBehindPart_151 ?_
          have e152 : sgM9 t w M = paM (sgH M) (tcM t M1) := by rw [es, if_neg (by omega)]
          rw [e152]
          exact a_zreturn dX4_readBehindPart_152 rfl rfl rfl (by omega) (zdet_I (by rw [if_neg (by omega)]; first | (rw [if_pos (by omega)]; done) | (rw [if_neg (by omega)]; done)) rfl)
        · refine a_iconst dX4_readBehindPart_147 ?_
          refine a_goto (tgt := 152) dX4_readBehindPart_148 (by decide) ?_
          have e152 : sgM9 t w M = paM (sgH M) (tcM t M1) := by rw [es, if_neg (by omega)]
          rw [e152]
          exact a_zreturn dX4_readBehindPart_152 rfl rfl rfl (by omega) (zdet_I (by rw [if_neg (by omega)]; first | (rw [if_pos (by omega)]; done) | (rw [if_neg (by omega)]; done)) rfl)
      · refine a_aloadn dX4_readBehindPart_116 rfl ?_
        refine a_callV (as := []) (q := 42) dX4_readBehindPart_117 mvX4_186 ⟨by decide, by decide⟩ (L42 L) rfl rfl rfl (Nat.le_of_ble_eq_true rfl) ⟨rfl, rfl⟩ ⟨by decide, by decide⟩ (m_X4_rankAside hP b1 hR1) ?_
        refine a_iconst dX4_readBehindPart_120 ?_
        refine a_icmp_ne (tgt := 131) dX4_readBehindPart_121 (by decide) ⟨by omega, by omega⟩ ⟨by omega, by omega⟩ (fun hb121 => ?_) (fun hb121 => ?_)
        · refine a_aloadn dX4_readBehindPart_131 rfl ?_
          have s9 : M1 43 9 ≠ 0 := by rw [b5 43 (by decide) (by omega) (by omega)]; omega
          obtain ⟨c1, c2, c3, c4, c5, c6, c7, c8⟩ := hy.tc wf.1 (by omega) wf.2.2.1 f1 s9
          refine a_callVv (as := []) (q := 42) dX4_readBehindPart_132 mvX4_172 ⟨by decide, by decide⟩ (L42 L) rfl rfl rfl (Nat.le_of_ble_eq_true rfl) ⟨rfl, rfl⟩ ⟨by decide, by decide⟩ (m_X4_takeKnot hP h42 hT ht hy.2.1 hy.1 s9) ?_
          refine a_aloadn dX4_readBehindPart_135 rfl ?_
          refine a_iloadn dX4_readBehindPart_136 rfl ?_
          refine a_callVv (as := [_]) (q := 42) dX4_readBehindPart_137 mvX4_177 ⟨by decide, by decide⟩ (L42 L) rfl rfl rfl (Nat.le_of_ble_eq_true rfl) ⟨rfl, rfl⟩ ⟨by decide, by decide⟩ (m_X4_putAside hP c3.1 ⟨by omega, by omega⟩) ?_
          refine a_aloadn dX4_readBehindPart_140 rfl ?_
          refine b_getI (j' := 6) dX4_readBehindPart_141 flX4_43 rfl rfl (L42 L) (fun hr141 => ?_)
          refine a_if_ne (tgt := 151) dX4_readBehindPart_144 (by decide) ⟨by omega, by omega⟩ (fun hb144 => ?_) (fun hb144 => ?_)
          · refine a_iconst dX4_readBehindPart_151 ?_
            have e152 : sgM9 t w M = paM (sgH M) (tcM t M1) := by rw [es, if_neg (by omega)]
            rw [e152]
            exact a_zreturn dX4_readBehindPart_152 rfl rfl rfl (by omega) (zdet_I (by rw [if_neg (by omega)]; first | (rw [if_pos (by omega)]; done) | (rw [if_neg (by omega)]; done)) rfl)
          · refine a_iconst dX4_readBehindPart_147 ?_
            refine a_goto (tgt := 152) dX4_readBehindPart_148 (by decide) ?_
            have e152 : sgM9 t w M = paM (sgH M) (tcM t M1) := by rw [es, if_neg (by omega)]
            rw [e152]
            exact a_zreturn dX4_readBehindPart_152 rfl rfl rfl (by omega) (zdet_I (by rw [if_neg (by omega)]; first | (rw [if_pos (by omega)]; done) | (rw [if_neg (by omega)]; done)) rfl)
        · refine a_aloadn dX4_readBehindPart_124 rfl ?_
          refine a_iconst dX4_readBehindPart_125 ?_
          refine a_callVv (as := [_]) (q := 42) dX4_readBehindPart_126 mvX4_80 ⟨by decide, by decide⟩ (L42 L) rfl rfl rfl (Nat.le_of_ble_eq_true rfl) ⟨rfl, rfl⟩ ⟨by decide, by decide⟩ (m_X4_fail hP ⟨by omega, by omega⟩) ?_
          refine a_iconst dX4_readBehindPart_129 ?_
          exact a_zreturn dX4_readBehindPart_130 rfl rfl rfl (by omega) (zdet_I (by rw [if_pos (by omega)]) (by rw [es, if_pos (by omega)]))
    · refine a_iloadn dX4_readBehindPart_101 rfl ?_
      refine a_iconst dX4_readBehindPart_102 ?_
      refine a_iadd dX4_readBehindPart_103 ?_
      refine a_goto (tgt := 108) dX4_readBehindPart_104 (by decide) ?_
      obtain ⟨r9, er9⟩ : ∃ r9, r9 = (if rnk (sgH M) = 4 then rnk (sgH M) + 1 else rnk (sgH M)) := ⟨_, rfl⟩
      refine a_stk (st' := [aI r9, aR 42]) (by rw [er9]; first | (rw [if_pos (by omega)]; done) | (rw [if_neg (by omega)]; done)) ?_
      have r9i : 1 ≤ r9 ∧ r9 ≤ 7 := by rw [er9]; split <;> omega
      obtain ⟨b1, b2, b3, b4, b5, b6, b7⟩ := lyA_all (r := r9) wf.2.1 (M 42 4).toNat M v3 (by have := v3.1; omega) v4
      have hy := hv.ly (r := r9) wf.1 wf.2.1 wf.2.2 r9i.1
      obtain ⟨M1, e1⟩ : ∃ M1, M1 = lyA w r9 (M 42 4).toNat M := ⟨_, rfl⟩
      refine a_callVv (as := [_]) (q := 42) dX4_readBehindPart_108 mvX4_163 ⟨by decide, by decide⟩ (L42 L) rfl rfl rfl (Nat.le_of_ble_eq_true rfl) ⟨rfl, rfl⟩ ⟨by decide, by decide⟩ (m_X4_layAside hP h42 hT ht h2 hw hwt ⟨by omega, by omega⟩ v3 v4 hR) ?_
      rw [← e1] at b1 b2 b3 b4 b5 b6 b7 hy ⊢
      have f1 : M1 42 6 = 0 := by rw [b4 6 (by decide)]; exact h0
      have hR1 : ∀ i : Int, 0 ≤ i → i < 14 → M1 1 i = rnk i := fun i i0 i1 => by rw [b5 1 (by decide) (by omega) (by omega)]; exact hR i i0 i1
      have k1 := rkA_in b1
      have es : sgM9 t w M = if rnk (sgH M) = 4 ∧ rkA M1 = 4 then flM M1 1 else paM (sgH M) (tcM t M1) := by rw [e1, er9]; rfl
      have eb : rbT t w M = (sgM9 t w M, if rnk (sgH M) = 4 ∧ rkA M1 = 4 then 0 else if sgM9 t w M 42 6 = 0 then 1 else 0) := by rw [e1, er9]; unfold rbT; rw [if_neg (by omega)]
      rw [eb]
      refine a_iloadn dX4_readBehindPart_111 rfl ?_
      refine a_iconst dX4_readBehindPart_112 ?_
      refine a_icmp_ne (tgt := 131) dX4_readBehindPart_113 (by decide) ⟨by omega, by omega⟩ ⟨by omega, by omega⟩ (fun hb113 => ?_) (fun hb113 => ?_)
      · refine a_aloadn dX4_readBehindPart_131 rfl ?_
        have s9 : M1 43 9 ≠ 0 := by rw [b5 43 (by decide) (by omega) (by omega)]; omega
        obtain ⟨c1, c2, c3, c4, c5, c6, c7, c8⟩ := hy.tc wf.1 (by omega) wf.2.2.1 f1 s9
        refine a_callVv (as := []) (q := 42) dX4_readBehindPart_132 mvX4_172 ⟨by decide, by decide⟩ (L42 L) rfl rfl rfl (Nat.le_of_ble_eq_true rfl) ⟨rfl, rfl⟩ ⟨by decide, by decide⟩ (m_X4_takeKnot hP h42 hT ht hy.2.1 hy.1 s9) ?_
        refine a_aloadn dX4_readBehindPart_135 rfl ?_
        refine a_iloadn dX4_readBehindPart_136 rfl ?_
        refine a_callVv (as := [_]) (q := 42) dX4_readBehindPart_137 mvX4_177 ⟨by decide, by decide⟩ (L42 L) rfl rfl rfl (Nat.le_of_ble_eq_true rfl) ⟨rfl, rfl⟩ ⟨by decide, by decide⟩ (m_X4_putAside hP c3.1 ⟨by omega, by omega⟩) ?_
        refine a_aloadn dX4_readBehindPart_140 rfl ?_
        refine b_getI (j' := 6) dX4_readBehindPart_141 flX4_43 rfl rfl (L42 L) (fun hr141 => ?_)
        refine a_if_ne (tgt := 151) dX4_readBehindPart_144 (by decide) ⟨by omega, by omega⟩ (fun hb144 => ?_) (fun hb144 => ?_)
        · refine a_iconst dX4_readBehindPart_151 ?_
          have e152 : sgM9 t w M = paM (sgH M) (tcM t M1) := by rw [es, if_neg (by omega)]
          rw [e152]
          exact a_zreturn dX4_readBehindPart_152 rfl rfl rfl (by omega) (zdet_I (by rw [if_neg (by omega)]; first | (rw [if_pos (by omega)]; done) | (rw [if_neg (by omega)]; done)) rfl)
        · refine a_iconst dX4_readBehindPart_147 ?_
          refine a_goto (tgt := 152) dX4_readBehindPart_148 (by decide) ?_
          have e152 : sgM9 t w M = paM (sgH M) (tcM t M1) := by rw [es, if_neg (by omega)]
          rw [e152]
          exact a_zreturn dX4_readBehindPart_152 rfl rfl rfl (by omega) (zdet_I (by rw [if_neg (by omega)]; first | (rw [if_pos (by omega)]; done) | (rw [if_neg (by omega)]; done)) rfl)
      · refine a_aloadn dX4_readBehindPart_116 rfl ?_
        refine a_callV (as := []) (q := 42) dX4_readBehindPart_117 mvX4_186 ⟨by decide, by decide⟩ (L42 L) rfl rfl rfl (Nat.le_of_ble_eq_true rfl) ⟨rfl, rfl⟩ ⟨by decide, by decide⟩ (m_X4_rankAside hP b1 hR1) ?_
        refine a_iconst dX4_readBehindPart_120 ?_
        refine a_icmp_ne (tgt := 131) dX4_readBehindPart_121 (by decide) ⟨by omega, by omega⟩ ⟨by omega, by omega⟩ (fun hb121 => ?_) (fun hb121 => ?_)
        · refine a_aloadn dX4_readBehindPart_131 rfl ?_
          have s9 : M1 43 9 ≠ 0 := by rw [b5 43 (by decide) (by omega) (by omega)]; omega
          obtain ⟨c1, c2, c3, c4, c5, c6, c7, c8⟩ := hy.tc wf.1 (by omega) wf.2.2.1 f1 s9
          refine a_callVv (as := []) (q := 42) dX4_readBehindPart_132 mvX4_172 ⟨by decide, by decide⟩ (L42 L) rfl rfl rfl (Nat.le_of_ble_eq_true rfl) ⟨rfl, rfl⟩ ⟨by decide, by decide⟩ (m_X4_takeKnot hP h42 hT ht hy.2.1 hy.1 s9) ?_
          refine a_aloadn dX4_readBehindPart_135 rfl ?_
          refine a_iloadn dX4_readBehindPart_136 rfl ?_
          refine a_callVv (as := [_]) (q := 42) dX4_readBehindPart_137 mvX4_177 ⟨by decide, by decide⟩ (L42 L) rfl rfl rfl (Nat.le_of_ble_eq_true rfl) ⟨rfl, rfl⟩ ⟨by decide, by decide⟩ (m_X4_putAside hP c3.1 ⟨by omega, by omega⟩) ?_
          refine a_aloadn dX4_readBehindPart_140 rfl ?_
          refine b_getI (j' := 6) dX4_readBehindPart_141 flX4_43 rfl rfl (L42 L) (fun hr141 => ?_)
          refine a_if_ne (tgt := 151) dX4_readBehindPart_144 (by decide) ⟨by omega, by omega⟩ (fun hb144 => ?_) (fun hb144 => ?_)
          · refine a_iconst dX4_readBehindPart_151 ?_
            have e152 : sgM9 t w M = paM (sgH M) (tcM t M1) := by rw [es, if_neg (by omega)]
            rw [e152]
            exact a_zreturn dX4_readBehindPart_152 rfl rfl rfl (by omega) (zdet_I (by rw [if_neg (by omega)]; first | (rw [if_pos (by omega)]; done) | (rw [if_neg (by omega)]; done)) rfl)
          · refine a_iconst dX4_readBehindPart_147 ?_
            refine a_goto (tgt := 152) dX4_readBehindPart_148 (by decide) ?_
            have e152 : sgM9 t w M = paM (sgH M) (tcM t M1) := by rw [es, if_neg (by omega)]
            rw [e152]
            exact a_zreturn dX4_readBehindPart_152 rfl rfl rfl (by omega) (zdet_I (by rw [if_neg (by omega)]; first | (rw [if_pos (by omega)]; done) | (rw [if_neg (by omega)]; done)) rfl)
        · refine a_aloadn dX4_readBehindPart_124 rfl ?_
          refine a_iconst dX4_readBehindPart_125 ?_
          refine a_callVv (as := [_]) (q := 42) dX4_readBehindPart_126 mvX4_80 ⟨by decide, by decide⟩ (L42 L) rfl rfl rfl (Nat.le_of_ble_eq_true rfl) ⟨rfl, rfl⟩ ⟨by decide, by decide⟩ (m_X4_fail hP ⟨by omega, by omega⟩) ?_
          refine a_iconst dX4_readBehindPart_129 ?_
          exact a_zreturn dX4_readBehindPart_130 rfl rfl rfl (by omega) (zdet_I (by rw [if_pos (by omega)]) (by rw [es, if_pos (by omega)]))
  · refine a_aloadn dX4_readBehindPart_75 rfl ?_
    refine b_getI (j' := 5) dX4_readBehindPart_76 flX4_153 rfl rfl (L42 L) (fun hr76 => ?_)
    refine a_if_le (tgt := 87) dX4_readBehindPart_79 (by decide) ⟨by omega, by omega⟩ (fun hb79 => ?_) (fun hb79 => ?_)
    · refine a_iconst dX4_readBehindPart_87 ?_
      have e88 : rbT t w M = (if 0 < M 42 5 then flM M 1 else M, 0) := by unfold rbT; rw [if_pos (by omega)]
      rw [e88]
      exact a_zreturn dX4_readBehindPart_88 rfl rfl rfl (by omega) (zdet_I rfl (by first | (rw [if_pos (by omega)]; done) | (rw [if_neg (by omega)]; done)))
    · refine a_aloadn dX4_readBehindPart_82 rfl ?_
      refine a_iconst dX4_readBehindPart_83 ?_
      refine a_callVv (as := [_]) (q := 42) dX4_readBehindPart_84 mvX4_80 ⟨by decide, by decide⟩ (L42 L) rfl rfl rfl (Nat.le_of_ble_eq_true rfl) ⟨rfl, rfl⟩ ⟨by decide, by decide⟩ (m_X4_fail hP ⟨by omega, by omega⟩) ?_
      refine a_iconst dX4_readBehindPart_87 ?_
      have e88 : rbT t w M = (if 0 < M 42 5 then flM M 1 else M, 0) := by unfold rbT; rw [if_pos (by omega)]
      rw [e88]
      exact a_zreturn dX4_readBehindPart_88 rfl rfl rfl (by omega) (zdet_I rfl (by first | (rw [if_pos (by omega)]; done) | (rw [if_neg (by omega)]; done)))

set_option maxRecDepth 100000 in
set_option maxHeartbeats 4000000 in
theorem lpX4_rb {G : zG} {l : Launch} {L : Nat} {P : zP} {t w : Nat} (hP : PFok P) (h42 : P 42 1 = some t) (hT : ToA L P t) (ht : t = 4 ∨ t = 23) (h2 : P 42 2 = some w) (hw : LwA L P w) (hwt : w = t + 13 ∨ w = t + 15 ∨ w = t + 17) : ∀ (n : Nat) (i : Int) (M : zM) (g0 : 0 ≤ i) (g1 : i + n = 9) (hv : LvI t w M) (h0 : M 42 6 = 0) (hR : ∀ i : Int, 0 ≤ i → i < 14 → M 1 i = rnk i), AW G l mdX4_readBehindPart (zdet (some (aI (rbT t w (rbL w n M)).2)) (LAY L) P (rbT t w (rbL w n M)).1) 2 [some (aR 42), some (aI i), none] [] (LAY L) P M 0 0 := by
  intro n
  induction n with
  | zero =>
    intro i M g0 g1 hv h0 hR
    have wf : t < 41 ∧ w + 1 < 42 ∧ (w ≠ t ∧ w + 1 ≠ t) := by omega
    obtain ⟨v1, v2, v3, v4, v5⟩ := id hv
    obtain ⟨b1, b2, b3, b4, b5, b6, b7⟩ := lyA_all (r := 1) wf.2.1 (M 42 4).toNat M v3 (by have := v3.1; omega) v4
    refine a_iloadn dX4_readBehindPart_2 rfl ?_
    refine a_bipush (w := 8) dX4_readBehindPart_3 (by decide) ?_
    refine a_icmp_gt (tgt := 65) dX4_readBehindPart_5 (by decide) ⟨by omega, by omega⟩ ⟨by omega, by omega⟩ (fun hb5 => ?_) (fun hb5 => ?_)
    · refine a_forget [1] (ls' := [_, none, none]) rfl ?_
      exact tlX4_rb hP h42 hT ht h2 hw hwt hv hR h0
    · exfalso; omega
  | succ n ih =>
    intro i M g0 g1 hv h0 hR
    have wf : t < 41 ∧ w + 1 < 42 ∧ (w ≠ t ∧ w + 1 ≠ t) := by omega
    obtain ⟨v1, v2, v3, v4, v5⟩ := id hv
    obtain ⟨b1, b2, b3, b4, b5, b6, b7⟩ := lyA_all (r := 1) wf.2.1 (M 42 4).toNat M v3 (by have := v3.1; omega) v4
    refine a_iloadn dX4_readBehindPart_2 rfl ?_
    refine a_bipush (w := 8) dX4_readBehindPart_3 (by decide) ?_
    refine a_icmp_gt (tgt := 65) dX4_readBehindPart_5 (by decide) ⟨by omega, by omega⟩ ⟨by omega, by omega⟩ (fun hb5 => ?_) (fun hb5 => ?_)
    · exfalso; omega
    · refine a_aloadn dX4_readBehindPart_8 rfl ?_
      refine b_getI (j' := 5) dX4_readBehindPart_9 flX4_153 rfl rfl (L42 L) (fun hr9 => ?_)
      refine a_if_le (tgt := 65) dX4_readBehindPart_12 (by decide) ⟨by omega, by omega⟩ (fun hb12 => ?_) (fun hb12 => ?_)
      · refine a_forget [1] (ls' := [_, none, none]) rfl ?_
        rw [rbL_s, if_neg (by omega)]
        exact tlX4_rb hP h42 hT ht h2 hw hwt hv hR h0
      · refine a_aloadn dX4_readBehindPart_15 rfl ?_
        refine a_getR (j' := 0) (y := 43) dX4_readBehindPart_16 flX4_12 rfl rfl (L42 L) (p42_0 hP) ?_
        refine a_bipush (w := 14) dX4_readBehindPart_19 (by decide) ?_
        refine a_oneV (as := [_]) (q := 43) dX4_readBehindPart_21 mvX4_84 ⟨by decide, by decide⟩ (L43 L) rfl rfl rfl (Nat.le_of_ble_eq_true rfl) ⟨rfl, rfl⟩ ⟨by decide, by decide⟩ (m_X7_isSign ⟨by omega, by omega⟩) (fun x21 hx21 => ?_)
        refine a_if_eq (tgt := 65) dX4_readBehindPart_24 (by decide) (by rcases hx21 with z | z <;> exact ⟨by omega, by omega⟩) (fun hb24 => ?_) (fun hb24 => ?_)
        · refine a_forget [1] (ls' := [_, none, none]) rfl ?_
          rw [rbL_s, if_neg (by omega)]
          exact tlX4_rb hP h42 hT ht h2 hw hwt hv hR h0
        · refine a_aloadn dX4_readBehindPart_27 rfl ?_
          refine a_iconst dX4_readBehindPart_28 ?_
          refine a_callVv (as := [_]) (q := 42) dX4_readBehindPart_29 mvX4_163 ⟨by decide, by decide⟩ (L42 L) rfl rfl rfl (Nat.le_of_ble_eq_true rfl) ⟨rfl, rfl⟩ ⟨by decide, by decide⟩ (m_X4_layAside hP h42 hT ht h2 hw hwt ⟨by omega, by omega⟩ v3 v4 hR) ?_
          refine a_aloadn dX4_readBehindPart_32 rfl ?_
          refine a_dupR dX4_readBehindPart_33 ?_
          refine b_getI (j' := 4) dX4_readBehindPart_34 flX4_150 rfl rfl (L42 L) (fun hr34 => ?_)
          refine a_iconst dX4_readBehindPart_37 ?_
          refine a_isub dX4_readBehindPart_38 ?_
          refine a_putI (j' := 4) dX4_readBehindPart_39 flX4_150 rfl rfl (L42 L) (by decide) rfl ⟨by have := b1.1; omega, by have := b1.1; omega⟩ ?_
          refine a_aloadn dX4_readBehindPart_42 rfl ?_
          refine a_dupR dX4_readBehindPart_43 ?_
          refine b_getI (j' := 5) dX4_readBehindPart_44 flX4_153 rfl rfl (L42 L) (fun hr44 => ?_)
          rw [sm_k, us_n (show (5 : Int) ≠ 4 by decide)] at hr44
          have e44 : sm (lyA w 1 (M 42 4).toNat M) 42 4 (lyA w 1 (M 42 4).toNat M 42 4 - 1) 42 5 = lyA w 1 (M 42 4).toNat M 42 5 := by rw [sm_k, us_n (by decide)]
          rw [e44]
          have o5 := b4 5 (by decide)
          have a4 := b1.1
          refine a_iconst dX4_readBehindPart_47 ?_
          refine a_isub dX4_readBehindPart_48 ?_
          refine a_putI (j' := 5) dX4_readBehindPart_49 flX4_153 rfl rfl (L42 L) (by decide) rfl ⟨by have := v3.2.2; omega, by have := v3.2.2; omega⟩ ?_
          refine a_aloadn dX4_readBehindPart_52 rfl ?_
          refine a_getR (j' := 0) (y := 43) dX4_readBehindPart_53 flX4_12 rfl rfl (L42 L) (p42_0 hP) ?_
          refine a_callVv (as := []) (q := 43) dX4_readBehindPart_56 mvX4_88 ⟨by decide, by decide⟩ (L43 L) rfl rfl rfl (Nat.le_of_ble_eq_true rfl) ⟨rfl, rfl⟩ ⟨by decide, by decide⟩ (m_X7_step hP (((((hv.ly (r := 1) wf.1 wf.2.1 wf.2.2 (by decide)).1).sm (k := 42) (by omega) _ _).sm (k := 42) (by omega) _ _).lt (by rw [sm_n (by decide), sm_n (by decide), b5 43 (by decide) (by omega) (by omega)]; omega))) ?_
          refine c_iinc (ls' := [_, _, _]) dX4_readBehindPart_59 rfl (by decide) rfl rfl ?_
          refine a_goto (tgt := 2) dX4_readBehindPart_62 (by decide) ?_
          have eo : 0 < M 42 5 ∧ M 43 9 = 5 ∧ M 43 11 = 14 := by omega
          rw [rbL_s, if_pos eo]
          exact ih _ _ (by omega) (by omega) (hv.cl wf.1 wf.2.1 wf.2.2 h0 eo.1 (by omega)) (by rw [cl_f wf.2.1 v3 v4]; exact h0) (fun j j0 j1 => by rw [clM_n w M (by decide) (by decide) (by omega) (by omega)]; exact hR j j0 j1)

set_option maxRecDepth 100000 in
set_option maxHeartbeats 4000000 in
theorem m_X4_readBehindPart {G : zG} {l : Launch} {L : Nat} {P : zP} {M : zM} {t w : Nat} (hP : PFok P) (h42 : P 42 1 = some t) (hT : ToA L P t) (ht : t = 4 ∨ t = 23) (h2 : P 42 2 = some w) (hw : LwA L P w) (hwt : w = t + 13 ∨ w = t + 15 ∨ w = t + 17) (hv : LvI t w M) (hR : ∀ i : Int, 0 ≤ i → i < 14 → M 1 i = rnk i) (h0 : M 42 6 = 0) : AM G l yX4_readBehindPart mdX4_readBehindPart [aR 42] (LAY L) P M (zdet (some (aI (rbM t w M).2)) (LAY L) P (rbM t w M).1) := by
  refine AM.go [some (aR 42), none, none] rfl (Nat.le_of_ble_eq_true rfl) ?_ (by decide) rfl rfl
  refine a_iconst dX4_readBehindPart_0 ?_
  refine c_istoren (ls' := [_, _, _]) dX4_readBehindPart_1 (by decide) rfl rfl ?_
  rw [rbM_e]
  exact lpX4_rb hP h42 hT ht h2 hw hwt 9 0 M (by omega) (by omega) hv h0 hR
