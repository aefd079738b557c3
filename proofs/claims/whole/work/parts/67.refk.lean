theorem m_knb {G : zG} {l : Launch} {L : Nat} {P : zP} {M : zM} : AM G l yX11_knownBy mdX11_knownBy [aR 209] (LAY L) P M (zdet (some (aI (knb M))) (LAY L) P M) := m_X11_knownBy
theorem knb_of {M0 M : zM} (h : M 209 = M0 209) : knb M = knb M0 := by unfold knb; rw [h]
theorem nokR_eq {M0 M : zM} (h : ∀ k : Nat, k ≠ 240 → M k = M0 k) {c c' : Int → Int} {x i : Int} (hi : c i = c' i) : nokR c M x i = nokR c' M0 x i := by
  unfold nokR
  rw [hi, h 239 (by decide), h 220 (by decide), h 221 (by decide), h 222 (by decide), h 209 (by decide)]
theorem nokR01 (c : Int → Int) (M : zM) (x i : Int) : nokR c M x i = 0 ∨ nokR c M x i = 1 := by unfold nokR; split <;> simp
/-- all of them, as a loop makes it that does not stop -/
def anF (f : Int → Int) : Nat → Int → Int → Int
  | 0, _, acc => acc
  | n + 1, i, acc => anF f n (i + 1) (if f i = 0 then 0 else acc)
theorem anF_zall (f : Int → Int) : ∀ (n : Nat) (i : Int), anF f n i 1 = zall f n i ∧ anF f n i 0 = 0
  | 0, i => ⟨rfl, rfl⟩
  | n + 1, i => by
    have ih := anF_zall f n (i + 1)
    unfold anF zall
    by_cases c : f i = 0
    · rw [if_pos c, if_pos c, if_pos c]
      exact ⟨ih.2, ih.2⟩
    · rw [if_neg c, if_neg c, if_neg c]
      exact ih
theorem zsnd_inR {M : zM} (h x : Int) (hI : TxI M) : ∀ (n : Nat) (i : Int), 0 ≤ i → i + n ≤ 12 → 0 ≤ zsnd (M 220) (M 221) (M 222) h x n i ∧ zsnd (M 220) (M 221) (M 222) h x n i ≤ 9
  | 0, i, _, _ => by simp only [zsnd]; exact ⟨by omega, by omega⟩
  | n + 1, i, h0, h1 => by
    simp only [zsnd]
    split
    · have q := hI.2.2.2.2.2.2.1 i h0 (by omega)
      exact ⟨by omega, by omega⟩
    · exact zsnd_inR h x hI n (i + 1) (by omega) (by omega)

set_option maxRecDepth 100000 in
set_option maxHeartbeats 4000000 in
theorem m_X11_lays {G : zG} {l : Launch} {L : Nat} {P : zP} {M : zM} {w x y b : Int} (hP : PFok P) (hn : 0 ≤ M 209 61 ∧ M 209 61 ≤ 24) (rw9 : inR w) (rx : inR x) (ry : inR y) (rb : inR b) : AM G l yX11_lays mdX11_lays [aR 209, aI w, aI x, aI y, aI b] (LAY L) P M (zany (LAY L) P (fun r M' => (24 ≤ M 209 61 ∧ r = -1 ∧ M' = M) ∨ (M 209 61 < 24 ∧ r = M 209 61 ∧ M' = lyM M w x y b))) := by
  refine AM.go [some (aR 209), some (aI w), some (aI x), some (aI y), some (aI b), none] rfl (Nat.le_of_ble_eq_true rfl) ?_ (by decide) rfl rfl
  refine a_aloadn dX11_lays_0 rfl ?_
  refine b_getI (j' := 61) dX11_lays_1 flX11_325 rfl rfl (L209 L) (fun hr1 => ?_)
  refine a_bipush (w := 24) dX11_lays_4 (by decide) ?_
  refine a_icmp_ne (tgt := 11) dX11_lays_6 (by decide) ⟨by omega, by omega⟩ ⟨by omega, by omega⟩ (fun hb6 => ?_) (fun hb6 => ?_)
  · refine a_iconst dX11_lays_11 ?_
    refine a_aloadn dX11_lays_12 rfl ?_
    refine b_getI (j' := 61) dX11_lays_13 flX11_325 rfl rfl (L209 L) (fun hr13 => ?_)
    refine a_imul dX11_lays_16 ?_
    refine c_istore (ls' := [_, _, _, _, _, _]) dX11_lays_17 (by decide) rfl rfl ?_
    refine a_aloadn dX11_lays_19 rfl ?_
    refine a_getR (j' := 63) (y := 239) dX11_lays_20 flX11_106 rfl rfl (L209 L) (p209_63 hP) ?_
    refine a_iload dX11_lays_23 rfl ?_
    refine a_iloadn dX11_lays_25 rfl ?_
    refine a_iast (N := 96) dX11_lays_26 (L239 L) (by decide) (by decide) (by omega) (by omega) rw9 ?_
    refine a_aloadn dX11_lays_27 rfl ?_
    refine a_getR (j' := 63) (y := 239) dX11_lays_28 flX11_106 rfl rfl (L209 L) (p209_63 hP) ?_
    refine a_iload dX11_lays_31 rfl ?_
    refine a_iconst dX11_lays_33 ?_
    refine a_iadd dX11_lays_34 ?_
    refine a_iloadn dX11_lays_35 rfl ?_
    refine a_iast (N := 96) dX11_lays_36 (L239 L) (by decide) (by decide) (by omega) (by omega) rx ?_
    refine a_aloadn dX11_lays_37 rfl ?_
    refine a_getR (j' := 63) (y := 239) dX11_lays_38 flX11_106 rfl rfl (L209 L) (p209_63 hP) ?_
    refine a_iload dX11_lays_41 rfl ?_
    refine a_iconst dX11_lays_43 ?_
    refine a_iadd dX11_lays_44 ?_
    refine a_iloadn dX11_lays_45 rfl ?_
    refine a_iast (N := 96) dX11_lays_46 (L239 L) (by decide) (by decide) (by omega) (by omega) ry ?_
    refine a_aloadn dX11_lays_47 rfl ?_
    refine a_getR (j' := 63) (y := 239) dX11_lays_48 flX11_106 rfl rfl (L209 L) (p209_63 hP) ?_
    refine a_iload dX11_lays_51 rfl ?_
    refine a_iconst dX11_lays_53 ?_
    refine a_iadd dX11_lays_54 ?_
    refine a_iload dX11_lays_55 rfl ?_
    refine a_iast (N := 96) dX11_lays_57 (L239 L) (by decide) (by decide) (by omega) (by omega) rb ?_
    refine a_aloadn dX11_lays_58 rfl ?_
    refine a_dupR dX11_lays_59 ?_
    refine b_getI (j' := 61) dX11_lays_60 flX11_325 rfl rfl (L209 L) (fun hr60 => ?_)
    rw [sm_n (by decide), sm_n (by decide), sm_n (by decide), sm_n (by decide)] at hr60
    rw [sm_n (by decide), sm_n (by decide), sm_n (by decide), sm_n (by decide)]
    refine a_iconst dX11_lays_63 ?_
    refine a_iadd dX11_lays_64 ?_
    refine a_putI (j' := 61) dX11_lays_65 flX11_325 rfl rfl (L209 L) (by decide) rfl ⟨by omega, by omega⟩ ?_
    refine a_aloadn dX11_lays_68 rfl ?_
    refine b_getI (j' := 61) dX11_lays_69 flX11_325 rfl rfl (L209 L) (fun hr69 => ?_)
    rw [sm_s] at hr69
    rw [sm_s]
    refine a_iconst dX11_lays_72 ?_
    refine a_isub dX11_lays_73 ?_
    exact a_ireturn dX11_lays_74 rfl rfl rfl (zany_i (Or.inr ⟨by omega, by omega, rfl⟩))
  · refine a_iconst dX11_lays_9 ?_
    exact a_ireturn dX11_lays_10 rfl rfl rfl (zany_i (Or.inl ⟨by omega, rfl, rfl⟩))

set_option maxRecDepth 100000 in
set_option maxHeartbeats 4000000 in
theorem m_X11_note {G : zG} {l : Launch} {L : Nat} {P : zP} {M : zM} {x k b : Int} (hv : RV P M) (hn : NRI M) (rx : inR x) (rk : inR k) (rb : b = 0 ∨ b = 1) : AM G l yX11_note mdX11_note [aR 209, aI x, aI k, aI b] (LAY L) P M (zany (LAY L) P (fun r M' => ((¬ (0 ≤ x ∧ x ≤ 99 ∧ 0 ≤ k ∧ k ≤ 9)) ∧ r = -1 ∧ M' = sm M 209 2 0) ∨ (¬ (¬ (0 ≤ x ∧ x ≤ 99 ∧ 0 ≤ k ∧ k ≤ 9)) ∧ ((24 ≤ M 209 61 ∧ r = -1 ∧ M' = sm M 209 2 0) ∨ (M 209 61 < 24 ∧ r = M 209 61 ∧ M' = lyM (sm M 209 2 0) 0 x k b))))) := by
  have hP := hv.1
  have q0 := hv.2.1.1.1.1
  refine AM.go [some (aR 209), some (aI x), some (aI k), some (aI b)] rfl (Nat.le_of_ble_eq_true rfl) ?_ (by decide) rfl rfl
  refine a_aloadn dX11_note_0 rfl ?_
  refine a_iconst dX11_note_1 ?_
  refine a_putI (j' := 2) dX11_note_2 flX11_124 rfl rfl (L209 L) (by decide) rfl ⟨by omega, by omega⟩ ?_
  obtain ⟨Mt, hMt⟩ : ∃ Mt, Mt = sm M 209 2 0 := ⟨_, rfl⟩
  rw [← hMt]
  obtain ⟨hvt, hnt, e12, eT⟩ := th_all hv hMt
  have e61 : Mt 209 61 = M 209 61 := eT 209 61 (by omega)
  have qn := hn.1
  refine a_iloadn dX11_note_5 rfl ?_
  refine a_iconst dX11_note_6 ?_
  refine a_bipush (w := 99) dX11_note_7 (by decide) ?_
  refine a_oneS (as := [_, _, _]) dX11_note_9 mvX11_169 ⟨by decide, by decide⟩ rfl rfl (Nat.le_of_ble_eq_true rfl) ⟨rfl, rfl⟩ ⟨by decide, by decide⟩ (m_isIn1 ⟨by omega, by omega⟩ ⟨by omega, by omega⟩ ⟨by omega, by omega⟩) (fun x9a hx9a => ?_)
  refine a_if_eq (tgt := 44) dX11_note_12 (by decide) ⟨by omega, by omega⟩ (fun hb12 => ?_) (fun hb12 => ?_)
  · refine a_iconst dX11_note_44 ?_
    exact a_ireturn dX11_note_45 rfl rfl rfl (by first | exact zany_i (Or.inl ⟨by omega, rfl, rfl⟩) | rw [e61] at hM1; exact zany_i (Or.inr ⟨by omega, by first | (rw [show b = 1 by omega]; exact hM1) | (rw [show b = 0 by omega]; exact hM1)⟩))
  · refine a_iloadn dX11_note_15 rfl ?_
    refine a_iconst dX11_note_16 ?_
    refine a_bipush (w := 9) dX11_note_17 (by decide) ?_
    refine a_oneS (as := [_, _, _]) dX11_note_19 mvX11_169 ⟨by decide, by decide⟩ rfl rfl (Nat.le_of_ble_eq_true rfl) ⟨rfl, rfl⟩ ⟨by decide, by decide⟩ (m_isIn1 ⟨by omega, by omega⟩ ⟨by omega, by omega⟩ ⟨by omega, by omega⟩) (fun x19 hx19 => ?_)
    refine a_if_eq (tgt := 44) dX11_note_22 (by decide) ⟨by omega, by omega⟩ (fun hb22 => ?_) (fun hb22 => ?_)
    · refine a_iconst dX11_note_44 ?_
      exact a_ireturn dX11_note_45 rfl rfl rfl (by first | exact zany_i (Or.inl ⟨by omega, rfl, rfl⟩) | rw [e61] at hM1; exact zany_i (Or.inr ⟨by omega, by first | (rw [show b = 1 by omega]; exact hM1) | (rw [show b = 0 by omega]; exact hM1)⟩))
    · refine a_aloadn dX11_note_25 rfl ?_
      refine a_iconst dX11_note_26 ?_
      refine a_iloadn dX11_note_27 rfl ?_
      refine a_iloadn dX11_note_28 rfl ?_
      refine a_iloadn dX11_note_29 rfl ?_
      refine a_if_eq (tgt := 37) dX11_note_30 (by decide) (by rcases rb with z | z <;> exact ⟨by omega, by omega⟩) (fun hb30 => ?_) (fun hb30 => ?_)
      · refine a_iconst dX11_note_37 ?_
        refine a_anyV (as := [_, _, _, _]) (q := 209) dX11_note_38 mvX11_439 ⟨by decide, by decide⟩ (L209 L) rfl rfl rfl (Nat.le_of_ble_eq_true rfl) ⟨rfl, rfl⟩ ⟨by decide, by decide⟩ (m_X11_lays hP (by rw [e61]; exact qn) ⟨by omega, by omega⟩ ⟨by omega, by omega⟩ ⟨by omega, by omega⟩ ⟨by omega, by omega⟩) (fun x9 M1 hM1 => ?_)
        refine a_goto (tgt := 45) dX11_note_41 (by decide) ?_
        exact a_ireturn dX11_note_45 rfl rfl rfl (by first | exact zany_i (Or.inl ⟨by omega, rfl, rfl⟩) | rw [e61] at hM1; exact zany_i (Or.inr ⟨by omega, by first | (rw [show b = 1 by omega]; exact hM1) | (rw [show b = 0 by omega]; exact hM1)⟩))
      · refine a_iconst dX11_note_33 ?_
        refine a_goto (tgt := 38) dX11_note_34 (by decide) ?_
        refine a_anyV (as := [_, _, _, _]) (q := 209) dX11_note_38 mvX11_439 ⟨by decide, by decide⟩ (L209 L) rfl rfl rfl (Nat.le_of_ble_eq_true rfl) ⟨rfl, rfl⟩ ⟨by decide, by decide⟩ (m_X11_lays hP (by rw [e61]; exact qn) ⟨by omega, by omega⟩ ⟨by omega, by omega⟩ ⟨by omega, by omega⟩ ⟨by omega, by omega⟩) (fun x9 M1 hM1 => ?_)
        refine a_goto (tgt := 45) dX11_note_41 (by decide) ?_
        exact a_ireturn dX11_note_45 rfl rfl rfl (by first | exact zany_i (Or.inl ⟨by omega, rfl, rfl⟩) | rw [e61] at hM1; exact zany_i (Or.inr ⟨by omega, by first | (rw [show b = 1 by omega]; exact hM1) | (rw [show b = 0 by omega]; exact hM1)⟩))

set_option maxRecDepth 100000 in
set_option maxHeartbeats 4000000 in
theorem m_X11_see {G : zG} {l : Launch} {L : Nat} {P : zP} {M : zM} {x h o b : Int} (hv : RV P M) (hn : NRI M) (rx : inR x) (rh : inR h) (ro : inR o) (rb : b = 0 ∨ b = 1) : AM G l yX11_see mdX11_see [aR 209, aI x, aI h, aI o, aI b] (LAY L) P M (zany (LAY L) P (fun r M' => ((¬ (1 ≤ x ∧ x ≤ 60 ∧ two (M 209 12) h o)) ∧ r = -1 ∧ M' = sm M 209 2 0) ∨ (¬ (¬ (1 ≤ x ∧ x ≤ 60 ∧ two (M 209 12) h o)) ∧ ((24 ≤ M 209 61 ∧ r = -1 ∧ M' = sm M 209 2 0) ∨ (M 209 61 < 24 ∧ r = M 209 61 ∧ M' = lyM (sm M 209 2 0) 1 x (6 * h + o) b))))) := by
  have hP := hv.1
  have q0 := hv.2.1.1.1.1
  refine AM.go [some (aR 209), some (aI x), some (aI h), some (aI o), some (aI b)] rfl (Nat.le_of_ble_eq_true rfl) ?_ (by decide) rfl rfl
  refine a_aloadn dX11_see_0 rfl ?_
  refine a_iconst dX11_see_1 ?_
  refine a_putI (j' := 2) dX11_see_2 flX11_124 rfl rfl (L209 L) (by decide) rfl ⟨by omega, by omega⟩ ?_
  obtain ⟨Mt, hMt⟩ : ∃ Mt, Mt = sm M 209 2 0 := ⟨_, rfl⟩
  rw [← hMt]
  obtain ⟨hvt, hnt, e12, eT⟩ := th_all hv hMt
  have e61 : Mt 209 61 = M 209 61 := eT 209 61 (by omega)
  have qn := hn.1
  refine a_iloadn dX11_see_5 rfl ?_
  refine a_iconst dX11_see_6 ?_
  refine a_bipush (w := 60) dX11_see_7 (by decide) ?_
  refine a_oneS (as := [_, _, _]) dX11_see_9 mvX11_169 ⟨by decide, by decide⟩ rfl rfl (Nat.le_of_ble_eq_true rfl) ⟨rfl, rfl⟩ ⟨by decide, by decide⟩ (m_isIn1 ⟨by omega, by omega⟩ ⟨by omega, by omega⟩ ⟨by omega, by omega⟩) (fun x9a hx9a => ?_)
  refine a_if_eq (tgt := 49) dX11_see_12 (by decide) ⟨by omega, by omega⟩ (fun hb12 => ?_) (fun hb12 => ?_)
  · refine a_iconst dX11_see_49 ?_
    exact a_ireturn dX11_see_50 rfl rfl rfl (by first | exact zany_i (Or.inl ⟨by omega, rfl, rfl⟩) | rw [e61] at hM1; exact zany_i (Or.inr ⟨by omega, by first | (rw [show b = 1 by omega]; exact hM1) | (rw [show b = 0 by omega]; exact hM1)⟩))
  · refine a_aloadn dX11_see_15 rfl ?_
    refine a_iloadn dX11_see_16 rfl ?_
    refine a_iloadn dX11_see_17 rfl ?_
    refine a_oneV (as := [_, _]) (q := 209) dX11_see_18 mvX11_413 ⟨by decide, by decide⟩ (L209 L) rfl rfl rfl (Nat.le_of_ble_eq_true rfl) ⟨rfl, rfl⟩ ⟨by decide, by decide⟩ (m_areTwo1 (x := h) (y := o) rh ro) (fun x18 hx18 => ?_)
    refine a_if_eq (tgt := 49) dX11_see_21 (by decide) ⟨by omega, by omega⟩ (fun hb21 => ?_) (fun hb21 => ?_)
    · refine a_iconst dX11_see_49 ?_
      exact a_ireturn dX11_see_50 rfl rfl rfl (by first | exact zany_i (Or.inl ⟨by omega, rfl, rfl⟩) | rw [e61] at hM1; exact zany_i (Or.inr ⟨by omega, by first | (rw [show b = 1 by omega]; exact hM1) | (rw [show b = 0 by omega]; exact hM1)⟩))
    · refine a_aloadn dX11_see_24 rfl ?_
      refine a_iconst dX11_see_25 ?_
      refine a_iloadn dX11_see_26 rfl ?_
      refine a_bipush (w := 6) dX11_see_27 (by decide) ?_
      refine a_iloadn dX11_see_29 rfl ?_
      refine a_imul dX11_see_30 ?_
      refine a_iloadn dX11_see_31 rfl ?_
      refine a_iadd dX11_see_32 ?_
      refine a_iload dX11_see_33 rfl ?_
      refine a_if_eq (tgt := 42) dX11_see_35 (by decide) (by rcases rb with z | z <;> exact ⟨by omega, by omega⟩) (fun hb35 => ?_) (fun hb35 => ?_)
      · refine a_iconst dX11_see_42 ?_
        refine a_anyV (as := [_, _, _, _]) (q := 209) dX11_see_43 mvX11_439 ⟨by decide, by decide⟩ (L209 L) rfl rfl rfl (Nat.le_of_ble_eq_true rfl) ⟨rfl, rfl⟩ ⟨by decide, by decide⟩ (m_X11_lays hP (by rw [e61]; exact qn) ⟨by omega, by omega⟩ ⟨by omega, by omega⟩ ⟨by omega, by omega⟩ ⟨by omega, by omega⟩) (fun x9 M1 hM1 => ?_)
        refine a_goto (tgt := 50) dX11_see_46 (by decide) ?_
        exact a_ireturn dX11_see_50 rfl rfl rfl (by first | exact zany_i (Or.inl ⟨by omega, rfl, rfl⟩) | rw [e61] at hM1; exact zany_i (Or.inr ⟨by omega, by first | (rw [show b = 1 by omega]; exact hM1) | (rw [show b = 0 by omega]; exact hM1)⟩))
      · refine a_iconst dX11_see_38 ?_
        refine a_goto (tgt := 43) dX11_see_39 (by decide) ?_
        refine a_anyV (as := [_, _, _, _]) (q := 209) dX11_see_43 mvX11_439 ⟨by decide, by decide⟩ (L209 L) rfl rfl rfl (Nat.le_of_ble_eq_true rfl) ⟨rfl, rfl⟩ ⟨by decide, by decide⟩ (m_X11_lays hP (by rw [e61]; exact qn) ⟨by omega, by omega⟩ ⟨by omega, by omega⟩ ⟨by omega, by omega⟩ ⟨by omega, by omega⟩) (fun x9 M1 hM1 => ?_)
        refine a_goto (tgt := 50) dX11_see_46 (by decide) ?_
        exact a_ireturn dX11_see_50 rfl rfl rfl (by first | exact zany_i (Or.inl ⟨by omega, rfl, rfl⟩) | rw [e61] at hM1; exact zany_i (Or.inr ⟨by omega, by first | (rw [show b = 1 by omega]; exact hM1) | (rw [show b = 0 by omega]; exact hM1)⟩))

set_option maxRecDepth 100000 in
set_option maxHeartbeats 4000000 in
theorem m_X11_strike {G : zG} {l : Launch} {L : Nat} {P : zP} {M : zM} {x : Int} (hv : RV P M) (hn : NRI M) (rx : inR x) : AM G l yX11_strike mdX11_strike [aR 209, aI x] (LAY L) P M (zany (LAY L) P (fun r M' => ((¬ (0 ≤ x ∧ x < M 209 61)) ∧ r = -1 ∧ M' = sm M 209 2 0) ∨ (¬ (¬ (0 ≤ x ∧ x < M 209 61)) ∧ ((24 ≤ M 209 61 ∧ r = -1 ∧ M' = sm M 209 2 0) ∨ (M 209 61 < 24 ∧ r = M 209 61 ∧ M' = lyM (sm M 209 2 0) 2 x 0 0))))) := by
  have hP := hv.1
  have q0 := hv.2.1.1.1.1
  refine AM.go [some (aR 209), some (aI x)] rfl (Nat.le_of_ble_eq_true rfl) ?_ (by decide) rfl rfl
  refine a_aloadn dX11_strike_0 rfl ?_
  refine a_iconst dX11_strike_1 ?_
  refine a_putI (j' := 2) dX11_strike_2 flX11_124 rfl rfl (L209 L) (by decide) rfl ⟨by omega, by omega⟩ ?_
  obtain ⟨Mt, hMt⟩ : ∃ Mt, Mt = sm M 209 2 0 := ⟨_, rfl⟩
  rw [← hMt]
  obtain ⟨hvt, hnt, e12, eT⟩ := th_all hv hMt
  have e61 : Mt 209 61 = M 209 61 := eT 209 61 (by omega)
  have qn := hn.1
  refine a_iloadn dX11_strike_5 rfl ?_
  refine a_if_lt (tgt := 17) dX11_strike_6 (by decide) ⟨by omega, by omega⟩ (fun hb6 => ?_) (fun hb6 => ?_)
  · refine a_iconst dX11_strike_17 ?_
    refine a_goto (tgt := 29) dX11_strike_18 (by decide) ?_
    exact a_ireturn dX11_strike_29 rfl rfl rfl (by first | exact zany_i (Or.inl ⟨by omega, rfl, rfl⟩) | (rw [e61] at hM1; exact zany_i (Or.inr ⟨by omega, hM1⟩)))
  · refine a_iloadn dX11_strike_9 rfl ?_
    refine a_aloadn dX11_strike_10 rfl ?_
    refine b_getI (j' := 61) dX11_strike_11 flX11_325 rfl rfl (L209 L) (fun hr11 => ?_)
    rw [e61] at hr11
    rw [e61]
    refine a_icmp_lt (tgt := 21) dX11_strike_14 (by decide) ⟨by omega, by omega⟩ ⟨by omega, by omega⟩ (fun hb14 => ?_) (fun hb14 => ?_)
    · refine a_aloadn dX11_strike_21 rfl ?_
      refine a_iconst dX11_strike_22 ?_
      refine a_iloadn dX11_strike_23 rfl ?_
      refine a_iconst dX11_strike_24 ?_
      refine a_iconst dX11_strike_25 ?_
      refine a_anyV (as := [_, _, _, _]) (q := 209) dX11_strike_26 mvX11_439 ⟨by decide, by decide⟩ (L209 L) rfl rfl rfl (Nat.le_of_ble_eq_true rfl) ⟨rfl, rfl⟩ ⟨by decide, by decide⟩ (m_X11_lays hP (by rw [e61]; exact qn) ⟨by omega, by omega⟩ ⟨by omega, by omega⟩ ⟨by omega, by omega⟩ ⟨by omega, by omega⟩) (fun x9 M1 hM1 => ?_)
      exact a_ireturn dX11_strike_29 rfl rfl rfl (by first | exact zany_i (Or.inl ⟨by omega, rfl, rfl⟩) | (rw [e61] at hM1; exact zany_i (Or.inr ⟨by omega, hM1⟩)))
    · refine a_iconst dX11_strike_17 ?_
      refine a_goto (tgt := 29) dX11_strike_18 (by decide) ?_
      exact a_ireturn dX11_strike_29 rfl rfl rfl (by first | exact zany_i (Or.inl ⟨by omega, rfl, rfl⟩) | (rw [e61] at hM1; exact zany_i (Or.inr ⟨by omega, hM1⟩)))

set_option maxRecDepth 100000 in
set_option maxHeartbeats 4000000 in
theorem m_X11_known {G : zG} {l : Launch} {L : Nat} {P : zP} {M : zM} {x : Int} (hv : RV P M) (hn : NRI M) (rx : inR x) : AM G l yX11_known mdX11_known [aR 209, aI x] (LAY L) P M (zany (LAY L) P (fun r M' => (¬ (-1 ≤ x ∧ x ≤ M 209 61) ∧ r = 0 ∧ M' = sm M 209 2 0) ∨ ((-1 ≤ x ∧ x ≤ M 209 61) ∧ r = 1 ∧ M' = sm (sm M 209 2 0) 209 62 x))) := by
  have hP := hv.1
  have q0 := hv.2.1.1.1.1
  refine AM.go [some (aR 209), some (aI x)] rfl (Nat.le_of_ble_eq_true rfl) ?_ (by decide) rfl rfl
  refine a_aloadn dX11_known_0 rfl ?_
  refine a_iconst dX11_known_1 ?_
  refine a_putI (j' := 2) dX11_known_2 flX11_124 rfl rfl (L209 L) (by decide) rfl ⟨by omega, by omega⟩ ?_
  obtain ⟨Mt, hMt⟩ : ∃ Mt, Mt = sm M 209 2 0 := ⟨_, rfl⟩
  rw [← hMt]
  obtain ⟨hvt, hnt, e12, eT⟩ := th_all hv hMt
  have e61 : Mt 209 61 = M 209 61 := eT 209 61 (by omega)
  have qn := hn.1
  refine a_iloadn dX11_known_5 rfl ?_
  refine a_iconst dX11_known_6 ?_
  refine a_aloadn dX11_known_7 rfl ?_
  refine b_getI (j' := 61) dX11_known_8 flX11_325 rfl rfl (L209 L) (fun hr8 => ?_)
  rw [e61] at hr8
  rw [e61]
  refine a_oneS (as := [_, _, _]) dX11_known_11 mvX11_169 ⟨by decide, by decide⟩ rfl rfl (Nat.le_of_ble_eq_true rfl) ⟨rfl, rfl⟩ ⟨by decide, by decide⟩ (m_isIn1 ⟨by omega, by omega⟩ ⟨by omega, by omega⟩ ⟨by omega, by omega⟩) (fun x9 hx9 => ?_)
  refine a_if_ne (tgt := 19) dX11_known_14 (by decide) ⟨by omega, by omega⟩ (fun hb14 => ?_) (fun hb14 => ?_)
  · refine a_aloadn dX11_known_19 rfl ?_
    refine a_iloadn dX11_known_20 rfl ?_
    refine a_putI (j' := 62) dX11_known_21 flX11_103 rfl rfl (L209 L) (by decide) rfl ⟨by omega, by omega⟩ ?_
    refine a_iconst dX11_known_24 ?_
    exact a_zreturn dX11_known_25 rfl rfl rfl (by omega) (zany_i (Or.inr ⟨by omega, rfl, rfl⟩))
  · refine a_iconst dX11_known_17 ?_
    exact a_zreturn dX11_known_18 rfl rfl rfl (by omega) (zany_i (Or.inl ⟨by omega, rfl, rfl⟩))

set_option maxRecDepth 100000 in
set_option maxHeartbeats 4000000 in
theorem lpX11_layCounts1 {G : zG} {l : Launch} {L : Nat} {P : zP} {M0 : zM} {Z : zZ} (hP : PFok P) (hn : NRI M0) : ∀ (n : Nat) (i : Int) (M : zM) (g0 : 0 ≤ i) (g1 : i + n = knb M0) (hF : ∀ k : Nat, k ≠ 240 → M k = M0 k) (hj : ∀ j : Int, 0 ≤ j → j < i → M 240 j = 1) (kk : ∀ M' : zM, (∀ k : Nat, k ≠ 240 → M' k = M0 k) → (∀ j : Int, 0 ≤ j → j < knb M0 → M' 240 j = 1) → AW G l mdX11_layCounts Z 23 [some (aR 209), none] [] (LAY L) P M' 0 0), AW G l mdX11_layCounts Z 2 [some (aR 209), some (aI i)] [] (LAY L) P M 0 0 := by
  intro n
  induction n with
  | zero =>
    intro i M g0 g1 hF hj kk
    have q1 := hn.1
    have q2 := knb_in hn
    have ek : knb M = knb M0 := knb_of (hF 209 (by decide))
    refine a_iloadn dX11_layCounts_2 rfl ?_
    refine a_aloadn dX11_layCounts_3 rfl ?_
    refine a_callV (as := []) (q := 209) dX11_layCounts_4 mvX11_442 ⟨by decide, by decide⟩ (L209 L) rfl rfl rfl (Nat.le_of_ble_eq_true rfl) ⟨rfl, rfl⟩ ⟨by decide, by decide⟩ m_knb ?_
    rw [ek]
    refine a_icmp_ge (tgt := 23) dX11_layCounts_7 (by decide) ⟨by omega, by omega⟩ ⟨by omega, by omega⟩ (fun hb7 => ?_) (fun hb7 => ?_)
    · refine a_forget [1] (ls' := [_, none]) rfl (kk _ hF (fun j j0 j1 => hj j j0 (by omega)))
    · exfalso; omega
  | succ n ih =>
    intro i M g0 g1 hF hj kk
    have q1 := hn.1
    have q2 := knb_in hn
    have ek : knb M = knb M0 := knb_of (hF 209 (by decide))
    refine a_iloadn dX11_layCounts_2 rfl ?_
    refine a_aloadn dX11_layCounts_3 rfl ?_
    refine a_callV (as := []) (q := 209) dX11_layCounts_4 mvX11_442 ⟨by decide, by decide⟩ (L209 L) rfl rfl rfl (Nat.le_of_ble_eq_true rfl) ⟨rfl, rfl⟩ ⟨by decide, by decide⟩ m_knb ?_
    rw [ek]
    refine a_icmp_ge (tgt := 23) dX11_layCounts_7 (by decide) ⟨by omega, by omega⟩ ⟨by omega, by omega⟩ (fun hb7 => ?_) (fun hb7 => ?_)
    · exfalso; omega
    · refine a_aloadn dX11_layCounts_10 rfl ?_
      refine a_getR (j' := 64) (y := 240) dX11_layCounts_11 flX11_109 rfl rfl (L209 L) (p209_64 hP) ?_
      refine a_iloadn dX11_layCounts_14 rfl ?_
      refine a_iconst dX11_layCounts_15 ?_
      refine a_zast (N := 24) dX11_layCounts_16 (L240 L) (by decide) (by decide) (by omega) (by omega) (by omega) ?_
      refine c_iinc (ls' := [_, _]) dX11_layCounts_17 rfl (by decide) rfl rfl ?_
      refine a_goto (tgt := 2) dX11_layCounts_20 (by decide) ?_
      refine ih _ _ (by omega) (by omega) (fun k hk => by rw [sm_n hk]; exact hF k hk) (fun j j0 j1 => ?_) kk
      rw [sm_k]
      by_cases ej : j = i
      · subst ej; rw [us_s]
      · rw [us_n ej]; exact hj j j0 (by omega)

set_option maxRecDepth 100000 in
set_option maxHeartbeats 4000000 in
theorem lpX11_layCounts2 {G : zG} {l : Launch} {L : Nat} {P : zP} {M0 : zM} (hP : PFok P) (hn : NRI M0) : ∀ (n : Nat) (i : Int) (M : zM) (f : Int → Int) (g0 : i + 1 = n) (g1 : i < knb M0) (hF : ∀ k : Nat, k ≠ 240 → M k = M0 k) (hj : ∀ j : Int, 0 ≤ j → j < knb M0 → M 240 j = f j), AW G l mdX11_layCounts (zrel none (LAY L) P (fun M' => (∀ k : Nat, k ≠ 240 → M' k = M0 k) ∧ ∀ j : Int, 0 ≤ j → j < knb M0 → M' 240 j = stl (fun i => M0 239 (4 * i)) (fun i => M0 239 (4 * i + 1)) n f j)) 30 [some (aR 209), some (aI i)] [] (LAY L) P M 0 0 := by
  intro n
  induction n with
  | zero =>
    intro i M f g0 g1 hF hj
    have q1 := hn.1
    have q2 := knb_in hn
    have ek : knb M = knb M0 := knb_of (hF 209 (by decide))
    refine a_iloadn dX11_layCounts_30 rfl ?_
    refine a_if_lt (tgt := 77) dX11_layCounts_31 (by decide) ⟨by omega, by omega⟩ (fun hb31 => ?_) (fun hb31 => ?_)
    · exact a_return dX11_layCounts_77 rfl rfl rfl (zrel_V ⟨hF, hj⟩)
    · exfalso; omega
  | succ n ih =>
    intro i M f g0 g1 hF hj
    have q1 := hn.1
    have q2 := knb_in hn
    have ek : knb M = knb M0 := knb_of (hF 209 (by decide))
    refine a_iloadn dX11_layCounts_30 rfl ?_
    refine a_if_lt (tgt := 77) dX11_layCounts_31 (by decide) ⟨by omega, by omega⟩ (fun hb31 => ?_) (fun hb31 => ?_)
    · exfalso; omega
    · have q3 := hn.2.2 i (by omega) (by omega)
      refine a_aloadn dX11_layCounts_34 rfl ?_
      refine a_getR (j' := 64) (y := 240) dX11_layCounts_35 flX11_109 rfl rfl (L209 L) (p209_64 hP) ?_
      refine a_iloadn dX11_layCounts_38 rfl ?_
      refine b_zald (N := 24) dX11_layCounts_39 (L240 L) (by decide) (by omega) (by omega) (fun hr39 => ?_)
      rw [hj i (by omega) g1] at hr39
      rw [hj i (by omega) g1]
      refine a_if_eq (tgt := 71) dX11_layCounts_40 (by decide) (by rcases hr39 with z | z <;> exact ⟨by omega, by omega⟩) (fun hb40 => ?_) (fun hb40 => ?_)
      · refine c_iinc (ls' := [_, _]) dX11_layCounts_71 rfl (by decide) rfl rfl ?_
        refine a_goto (tgt := 30) dX11_layCounts_74 (by decide) ?_
        have ei : i = (n : Int) := by omega
        subst ei
        simp only [stl]
        first
        | (rw [if_neg (by omega)]; exact ih _ _ _ (by omega) (by omega) hF hj)
        | (rw [if_pos (by omega)]
           refine ih _ _ _ (by omega) (by omega) (fun k hk => by rw [sm_n hk]; exact hF k hk) (fun j j0 j1 => ?_)
           rw [sm_k]
           unfold us
           split
           · rfl
           · exact hj j j0 j1)
      · refine a_aloadn dX11_layCounts_43 rfl ?_
        refine a_getR (j' := 63) (y := 239) dX11_layCounts_44 flX11_106 rfl rfl (L209 L) (p209_63 hP) ?_
        refine a_iconst dX11_layCounts_47 ?_
        refine a_iloadn dX11_layCounts_48 rfl ?_
        refine a_imul dX11_layCounts_49 ?_
        refine b_iald (N := 96) dX11_layCounts_50 (L239 L) (by decide) (by omega) (by omega) (fun hr50 => ?_)
        rw [hF 239 (by decide)] at hr50
        rw [hF 239 (by decide)]
        refine a_iconst dX11_layCounts_51 ?_
        refine a_icmp_ne (tgt := 71) dX11_layCounts_52 (by decide) ⟨by omega, by omega⟩ ⟨by omega, by omega⟩ (fun hb52 => ?_) (fun hb52 => ?_)
        · refine c_iinc (ls' := [_, _]) dX11_layCounts_71 rfl (by decide) rfl rfl ?_
          refine a_goto (tgt := 30) dX11_layCounts_74 (by decide) ?_
          have ei : i = (n : Int) := by omega
          subst ei
          simp only [stl]
          first
          | (rw [if_neg (by omega)]; exact ih _ _ _ (by omega) (by omega) hF hj)
          | (rw [if_pos (by omega)]
             refine ih _ _ _ (by omega) (by omega) (fun k hk => by rw [sm_n hk]; exact hF k hk) (fun j j0 j1 => ?_)
             rw [sm_k]
             unfold us
             split
             · rfl
             · exact hj j j0 j1)
        · refine a_aloadn dX11_layCounts_55 rfl ?_
          refine a_getR (j' := 64) (y := 240) dX11_layCounts_56 flX11_109 rfl rfl (L209 L) (p209_64 hP) ?_
          refine a_aloadn dX11_layCounts_59 rfl ?_
          refine a_getR (j' := 63) (y := 239) dX11_layCounts_60 flX11_106 rfl rfl (L209 L) (p209_63 hP) ?_
          refine a_iconst dX11_layCounts_63 ?_
          refine a_iloadn dX11_layCounts_64 rfl ?_
          refine a_imul dX11_layCounts_65 ?_
          refine a_iconst dX11_layCounts_66 ?_
          refine a_iadd dX11_layCounts_67 ?_
          refine b_iald (N := 96) dX11_layCounts_68 (L239 L) (by decide) (by omega) (by omega) (fun hr68 => ?_)
          rw [hF 239 (by decide)] at hr68
          rw [hF 239 (by decide)]
          refine a_iconst dX11_layCounts_69 ?_
          refine a_zast (N := 24) dX11_layCounts_70 (L240 L) (by decide) (by decide) (by omega) (by have := q3.2.2.1 hb52; omega) (by omega) ?_
          refine c_iinc (ls' := [_, _]) dX11_layCounts_71 rfl (by decide) rfl rfl ?_
          refine a_goto (tgt := 30) dX11_layCounts_74 (by decide) ?_
          have ei : i = (n : Int) := by omega
          subst ei
          simp only [stl]
          first
          | (rw [if_neg (by omega)]; exact ih _ _ _ (by omega) (by omega) hF hj)
          | (rw [if_pos (by omega)]
             refine ih _ _ _ (by omega) (by omega) (fun k hk => by rw [sm_n hk]; exact hF k hk) (fun j j0 j1 => ?_)
             rw [sm_k]
             unfold us
             split
             · rfl
             · exact hj j j0 j1)

set_option maxRecDepth 100000 in
set_option maxHeartbeats 4000000 in
theorem tlX11_layCounts {G : zG} {l : Launch} {L : Nat} {P : zP} {M0 M : zM} (hP : PFok P) (hn : NRI M0) (hF : ∀ k : Nat, k ≠ 240 → M k = M0 k) (hj : ∀ j : Int, 0 ≤ j → j < knb M0 → M 240 j = 1) : AW G l mdX11_layCounts (zrel none (LAY L) P (fun M' => (∀ k : Nat, k ≠ 240 → M' k = M0 k) ∧ ∀ j : Int, 0 ≤ j → j < knb M0 → M' 240 j = stl (fun i => M0 239 (4 * i)) (fun i => M0 239 (4 * i + 1)) (knb M0).toNat (fun _ => 1) j)) 23 [some (aR 209), none] [] (LAY L) P M 0 0 := by
  have q1 := hn.1
  have q2 := knb_in hn
  have ek : knb M = knb M0 := knb_of (hF 209 (by decide))
  refine a_aloadn dX11_layCounts_23 rfl ?_
  refine a_callV (as := []) (q := 209) dX11_layCounts_24 mvX11_442 ⟨by decide, by decide⟩ (L209 L) rfl rfl rfl (Nat.le_of_ble_eq_true rfl) ⟨rfl, rfl⟩ ⟨by decide, by decide⟩ m_knb ?_
  rw [ek]
  refine a_iconst dX11_layCounts_27 ?_
  refine a_isub dX11_layCounts_28 ?_
  refine c_istoren (ls' := [_, _]) dX11_layCounts_29 (by decide) rfl rfl ?_
  exact lpX11_layCounts2 hP hn (knb M0).toNat _ M (fun _ => 1) (by omega) (by omega) hF hj

set_option maxRecDepth 100000 in
set_option maxHeartbeats 4000000 in
theorem m_X11_layCounts {G : zG} {l : Launch} {L : Nat} {P : zP} {M : zM}  (hP : PFok P) (hn : NRI M) : AM G l yX11_layCounts mdX11_layCounts [aR 209] (LAY L) P M (zrel none (LAY L) P (fun M' => (∀ k : Nat, k ≠ 240 → M' k = M k) ∧ ∀ j : Int, 0 ≤ j → j < knb M → M' 240 j = cntR M j)) := by
  have q2 := knb_in hn
  refine AM.go [some (aR 209), none] rfl (Nat.le_of_ble_eq_true rfl) ?_ (by decide) rfl rfl
  refine a_iconst dX11_layCounts_0 ?_
  refine c_istoren (ls' := [_, _]) dX11_layCounts_1 (by decide) rfl rfl ?_
  exact lpX11_layCounts1 hP hn (knb M).toNat 0 M (by omega) (by omega) (fun _ _ => rfl) (fun j j0 j1 => by omega) (fun M1 h1 h2 => tlX11_layCounts hP hn h1 h2)

set_option maxRecDepth 100000 in
set_option maxHeartbeats 4000000 in
theorem lpX11_whoseBits_in {G : zG} {l : Launch} {L : Nat} {P : zP} {M : zM} {acc h : Int} {Z : zZ} (hP : PFok P) (hT : TxI M) (hn : NRI M) (rh : 0 ≤ h ∧ h < 6) : ∀ (n : Nat) (k is : Int) (g0 : 0 ≤ k) (g1 : k + n = knb M) (gi : is = 0 ∨ is = 1) (kk : AW G l mdX11_whoseBits Z 133 [some (aR 209), some (aI acc), some (aI h), some (aI (anF (nokR (M 240) M h) n k is)), none, none] [] (LAY L) P M 0 0), AW G l mdX11_whoseBits Z 21 [some (aR 209), some (aI acc), some (aI h), some (aI is), some (aI k), none] [] (LAY L) P M 0 0 := by
  intro n
  induction n with
  | zero =>
    intro k is g0 g1 gi kk
    have q1 := hn.1
    have q2 := knb_in hn
    have q4 := hT.1
    have q5 := hT.2.2.1
    refine a_iload dX11_whoseBits_21 rfl ?_
    refine a_aloadn dX11_whoseBits_23 rfl ?_
    refine a_callV (as := []) (q := 209) dX11_whoseBits_24 mvX11_442 ⟨by decide, by decide⟩ (L209 L) rfl rfl rfl (Nat.le_of_ble_eq_true rfl) ⟨rfl, rfl⟩ ⟨by decide, by decide⟩ m_knb ?_
    refine a_icmp_ge (tgt := 133) dX11_whoseBits_27 (by decide) ⟨by omega, by omega⟩ ⟨by omega, by omega⟩ (fun hb27 => ?_) (fun hb27 => ?_)
    · refine a_forget [4, 5] (ls' := [_, _, _, _, none, none]) rfl kk
    · exfalso; omega
  | succ n ih =>
    intro k is g0 g1 gi kk
    have q1 := hn.1
    have q2 := knb_in hn
    have q4 := hT.1
    have q5 := hT.2.2.1
    refine a_iload dX11_whoseBits_21 rfl ?_
    refine a_aloadn dX11_whoseBits_23 rfl ?_
    refine a_callV (as := []) (q := 209) dX11_whoseBits_24 mvX11_442 ⟨by decide, by decide⟩ (L209 L) rfl rfl rfl (Nat.le_of_ble_eq_true rfl) ⟨rfl, rfl⟩ ⟨by decide, by decide⟩ m_knb ?_
    refine a_icmp_ge (tgt := 133) dX11_whoseBits_27 (by decide) ⟨by omega, by omega⟩ ⟨by omega, by omega⟩ (fun hb27 => ?_) (fun hb27 => ?_)
    · exfalso; omega
    · have q3 := hn.2.2 k (by omega) (by omega)
      have q6 := zsnd_inR h (M 239 (4 * k + 1)) hT (M 209 14).toNat 0 (by omega) (by omega)
      refine a_aloadn dX11_whoseBits_30 rfl ?_
      refine a_getR (j' := 64) (y := 240) dX11_whoseBits_31 flX11_109 rfl rfl (L209 L) (p209_64 hP) ?_
      refine a_iload dX11_whoseBits_34 rfl ?_
      refine b_zald (N := 24) dX11_whoseBits_36 (L240 L) (by decide) (by omega) (by omega) (fun hr36 => ?_)
      refine a_if_eq (tgt := 127) dX11_whoseBits_37 (by decide) (by rcases hr36 with z | z <;> exact ⟨by omega, by omega⟩) (fun hb37 => ?_) (fun hb37 => ?_)
      · refine c_iinc (ls' := [_, _, _, _, _, _]) dX11_whoseBits_127 rfl (by decide) rfl rfl ?_
        refine a_goto (tgt := 21) dX11_whoseBits_130 (by decide) ?_
        refine a_forget [5] (ls' := [_, _, _, _, _, none]) rfl ?_
        simp only [anF] at kk
        first
        | (have e9 : nokR (M 240) M h k = 0 := by unfold nokR; rw [if_pos (by omega)]
           rw [if_pos e9] at kk
           exact ih _ _ (by omega) (by omega) (by omega) kk)
        | (have e9 : nokR (M 240) M h k = 1 := by unfold nokR; rw [if_neg (by omega)]
           rw [if_neg (by rw [e9]; decide)] at kk
           first
           | exact ih _ _ (by omega) (by omega) gi kk
           | (rw [show is = 1 by omega] at kk; exact ih _ _ (by omega) (by omega) (by omega) kk)
           | (rw [show is = 0 by omega] at kk; exact ih _ _ (by omega) (by omega) (by omega) kk))
        | (rw [show is = 0 by omega] at kk
           rw [show (if nokR (M 240) M h k = 0 then (0 : Int) else 0) = 0 from by split <;> rfl] at kk
           exact ih _ _ (by omega) (by omega) (by omega) kk)
        | (exfalso; omega)
      · refine a_aloadn dX11_whoseBits_40 rfl ?_
        refine a_getR (j' := 63) (y := 239) dX11_whoseBits_41 flX11_106 rfl rfl (L209 L) (p209_63 hP) ?_
        refine a_iconst dX11_whoseBits_44 ?_
        refine a_iload dX11_whoseBits_45 rfl ?_
        refine a_imul dX11_whoseBits_47 ?_
        refine b_iald (N := 96) dX11_whoseBits_48 (L239 L) (by decide) (by omega) (by omega) (fun hr48 => ?_)
        refine a_if_eq (tgt := 55) dX11_whoseBits_49 (by decide) ⟨by omega, by omega⟩ (fun hb49 => ?_) (fun hb49 => ?_)
        · refine a_aloadn dX11_whoseBits_55 rfl ?_
          refine a_iloadn dX11_whoseBits_56 rfl ?_
          refine a_aloadn dX11_whoseBits_57 rfl ?_
          refine a_getR (j' := 63) (y := 239) dX11_whoseBits_58 flX11_106 rfl rfl (L209 L) (p209_63 hP) ?_
          refine a_iconst dX11_whoseBits_61 ?_
          refine a_iload dX11_whoseBits_62 rfl ?_
          refine a_imul dX11_whoseBits_64 ?_
          refine a_iconst dX11_whoseBits_65 ?_
          refine a_iadd dX11_whoseBits_66 ?_
          refine b_iald (N := 96) dX11_whoseBits_67 (L239 L) (by decide) (by omega) (by omega) (fun hr67 => ?_)
          refine a_callV (as := [_, _]) (q := 209) dX11_whoseBits_68 mvX11_416 ⟨by decide, by decide⟩ (L209 L) rfl rfl rfl (Nat.le_of_ble_eq_true rfl) ⟨rfl, rfl⟩ ⟨by decide, by decide⟩ (m_X11_soundAt hP hT ⟨by omega, by omega⟩ ⟨by omega, by omega⟩) ?_
          refine a_aloadn dX11_whoseBits_71 rfl ?_
          refine a_getR (j' := 63) (y := 239) dX11_whoseBits_72 flX11_106 rfl rfl (L209 L) (p209_63 hP) ?_
          refine a_iconst dX11_whoseBits_75 ?_
          refine a_iload dX11_whoseBits_76 rfl ?_
          refine a_imul dX11_whoseBits_78 ?_
          refine a_iconst dX11_whoseBits_79 ?_
          refine a_iadd dX11_whoseBits_80 ?_
          refine b_iald (N := 96) dX11_whoseBits_81 (L239 L) (by decide) (by omega) (by omega) (fun hr81 => ?_)
          refine a_icmp_ne (tgt := 89) dX11_whoseBits_82 (by decide) ⟨by omega, by omega⟩ hr81 (fun hb82 => ?_) (fun hb82 => ?_)
          · refine a_iconst dX11_whoseBits_89 ?_
            refine c_istore (ls' := [_, _, _, _, _, _]) dX11_whoseBits_90 (by decide) rfl rfl ?_
            refine a_iloadn dX11_whoseBits_92 rfl ?_
            refine a_if_eq (tgt := 125) dX11_whoseBits_93 (by decide) (by rcases gi with z | z <;> exact ⟨by omega, by omega⟩) (fun hb93 => ?_) (fun hb93 => ?_)
            · refine a_iconst dX11_whoseBits_125 ?_
              refine c_istoren (ls' := [_, _, _, _, _, _]) dX11_whoseBits_126 (by decide) rfl rfl ?_
              refine c_iinc (ls' := [_, _, _, _, _, _]) dX11_whoseBits_127 rfl (by decide) rfl rfl ?_
              refine a_goto (tgt := 21) dX11_whoseBits_130 (by decide) ?_
              refine a_forget [5] (ls' := [_, _, _, _, _, none]) rfl ?_
              simp only [anF] at kk
              first
              | (have e9 : nokR (M 240) M h k = 0 := by unfold nokR; rw [if_pos (by omega)]
                 rw [if_pos e9] at kk
                 exact ih _ _ (by omega) (by omega) (by omega) kk)
              | (have e9 : nokR (M 240) M h k = 1 := by unfold nokR; rw [if_neg (by omega)]
                 rw [if_neg (by rw [e9]; decide)] at kk
                 first
                 | exact ih _ _ (by omega) (by omega) gi kk
                 | (rw [show is = 1 by omega] at kk; exact ih _ _ (by omega) (by omega) (by omega) kk)
                 | (rw [show is = 0 by omega] at kk; exact ih _ _ (by omega) (by omega) (by omega) kk))
              | (rw [show is = 0 by omega] at kk
                 rw [show (if nokR (M 240) M h k = 0 then (0 : Int) else 0) = 0 from by split <;> rfl] at kk
                 exact ih _ _ (by omega) (by omega) (by omega) kk)
              | (exfalso; omega)
            · refine a_iload dX11_whoseBits_96 rfl ?_
              refine a_aloadn dX11_whoseBits_98 rfl ?_
              refine a_getR (j' := 63) (y := 239) dX11_whoseBits_99 flX11_106 rfl rfl (L209 L) (p209_63 hP) ?_
              refine a_iconst dX11_whoseBits_102 ?_
              refine a_iload dX11_whoseBits_103 rfl ?_
              refine a_imul dX11_whoseBits_105 ?_
              refine a_iconst dX11_whoseBits_106 ?_
              refine a_iadd dX11_whoseBits_107 ?_
              refine b_iald (N := 96) dX11_whoseBits_108 (L239 L) (by decide) (by omega) (by omega) (fun hr108 => ?_)
              refine a_iconst dX11_whoseBits_109 ?_
              refine a_icmp_ne (tgt := 117) dX11_whoseBits_110 (by decide) hr108 ⟨by omega, by omega⟩ (fun hb110 => ?_) (fun hb110 => ?_)
              · refine a_iconst dX11_whoseBits_117 ?_
                refine a_icmp_ne (tgt := 125) dX11_whoseBits_118 (by decide) ⟨by omega, by omega⟩ ⟨by omega, by omega⟩ (fun hb118 => ?_) (fun hb118 => ?_)
                · refine a_iconst dX11_whoseBits_125 ?_
                  refine c_istoren (ls' := [_, _, _, _, _, _]) dX11_whoseBits_126 (by decide) rfl rfl ?_
                  refine c_iinc (ls' := [_, _, _, _, _, _]) dX11_whoseBits_127 rfl (by decide) rfl rfl ?_
                  refine a_goto (tgt := 21) dX11_whoseBits_130 (by decide) ?_
                  refine a_forget [5] (ls' := [_, _, _, _, _, none]) rfl ?_
                  simp only [anF] at kk
                  first
                  | (have e9 : nokR (M 240) M h k = 0 := by unfold nokR; rw [if_pos (by omega)]
                     rw [if_pos e9] at kk
                     exact ih _ _ (by omega) (by omega) (by omega) kk)
                  | (have e9 : nokR (M 240) M h k = 1 := by unfold nokR; rw [if_neg (by omega)]
                     rw [if_neg (by rw [e9]; decide)] at kk
                     first
                     | exact ih _ _ (by omega) (by omega) gi kk
                     | (rw [show is = 1 by omega] at kk; exact ih _ _ (by omega) (by omega) (by omega) kk)
                     | (rw [show is = 0 by omega] at kk; exact ih _ _ (by omega) (by omega) (by omega) kk))
                  | (rw [show is = 0 by omega] at kk
                     rw [show (if nokR (M 240) M h k = 0 then (0 : Int) else 0) = 0 from by split <;> rfl] at kk
                     exact ih _ _ (by omega) (by omega) (by omega) kk)
                  | (exfalso; omega)
                · refine a_iconst dX11_whoseBits_121 ?_
                  refine a_goto (tgt := 126) dX11_whoseBits_122 (by decide) ?_
                  refine c_istoren (ls' := [_, _, _, _, _, _]) dX11_whoseBits_126 (by decide) rfl rfl ?_
                  refine c_iinc (ls' := [_, _, _, _, _, _]) dX11_whoseBits_127 rfl (by decide) rfl rfl ?_
                  refine a_goto (tgt := 21) dX11_whoseBits_130 (by decide) ?_
                  refine a_forget [5] (ls' := [_, _, _, _, _, none]) rfl ?_
                  simp only [anF] at kk
                  first
                  | (have e9 : nokR (M 240) M h k = 0 := by unfold nokR; rw [if_pos (by omega)]
                     rw [if_pos e9] at kk
                     exact ih _ _ (by omega) (by omega) (by omega) kk)
                  | (have e9 : nokR (M 240) M h k = 1 := by unfold nokR; rw [if_neg (by omega)]
                     rw [if_neg (by rw [e9]; decide)] at kk
                     first
                     | exact ih _ _ (by omega) (by omega) gi kk
                     | (rw [show is = 1 by omega] at kk; exact ih _ _ (by omega) (by omega) (by omega) kk)
                     | (rw [show is = 0 by omega] at kk; exact ih _ _ (by omega) (by omega) (by omega) kk))
                  | (rw [show is = 0 by omega] at kk
                     rw [show (if nokR (M 240) M h k = 0 then (0 : Int) else 0) = 0 from by split <;> rfl] at kk
                     exact ih _ _ (by omega) (by omega) (by omega) kk)
                  | (exfalso; omega)
              · refine a_iconst dX11_whoseBits_113 ?_
                refine a_goto (tgt := 118) dX11_whoseBits_114 (by decide) ?_
                refine a_icmp_ne (tgt := 125) dX11_whoseBits_118 (by decide) ⟨by omega, by omega⟩ ⟨by omega, by omega⟩ (fun hb118 => ?_) (fun hb118 => ?_)
                · refine a_iconst dX11_whoseBits_125 ?_
                  refine c_istoren (ls' := [_, _, _, _, _, _]) dX11_whoseBits_126 (by decide) rfl rfl ?_
                  refine c_iinc (ls' := [_, _, _, _, _, _]) dX11_whoseBits_127 rfl (by decide) rfl rfl ?_
                  refine a_goto (tgt := 21) dX11_whoseBits_130 (by decide) ?_
                  refine a_forget [5] (ls' := [_, _, _, _, _, none]) rfl ?_
                  simp only [anF] at kk
                  first
                  | (have e9 : nokR (M 240) M h k = 0 := by unfold nokR; rw [if_pos (by omega)]
                     rw [if_pos e9] at kk
                     exact ih _ _ (by omega) (by omega) (by omega) kk)
                  | (have e9 : nokR (M 240) M h k = 1 := by unfold nokR; rw [if_neg (by omega)]
                     rw [if_neg (by rw [e9]; decide)] at kk
                     first
                     | exact ih _ _ (by omega) (by omega) gi kk
                     | (rw [show is = 1 by omega] at kk; exact ih _ _ (by omega) (by omega) (by omega) kk)
                     | (rw [show is = 0 by omega] at kk; exact ih _ _ (by omega) (by omega) (by omega) kk))
                  | (rw [show is = 0 by omega] at kk
                     rw [show (if nokR (M 240) M h k = 0 then (0 : Int) else 0) = 0 from by split <;> rfl] at kk
                     exact ih _ _ (by omega) (by omega) (by omega) kk)
                  | (exfalso; omega)
                · refine a_iconst dX11_whoseBits_121 ?_
                  refine a_goto (tgt := 126) dX11_whoseBits_122 (by decide) ?_
                  refine c_istoren (ls' := [_, _, _, _, _, _]) dX11_whoseBits_126 (by decide) rfl rfl ?_
                  refine c_iinc (ls' := [_, _, _, _, _, _]) dX11_whoseBits_127 rfl (by decide) rfl rfl ?_
                  refine a_goto (tgt := 21) dX11_whoseBits_130 (by decide) ?_
                  refine a_forget [5] (ls' := [_, _, _, _, _, none]) rfl ?_
                  simp only [anF] at kk
                  first
                  | (have e9 : nokR (M 240) M h k = 0 := by unfold nokR; rw [if_pos (by omega)]
                     rw [if_pos e9] at kk
                     exact ih _ _ (by omega) (by omega) (by omega) kk)
                  | (have e9 : nokR (M 240) M h k = 1 := by unfold nokR; rw [if_neg (by omega)]
                     rw [if_neg (by rw [e9]; decide)] at kk
                     first
                     | exact ih _ _ (by omega) (by omega) gi kk
                     | (rw [show is = 1 by omega] at kk; exact ih _ _ (by omega) (by omega) (by omega) kk)
                     | (rw [show is = 0 by omega] at kk; exact ih _ _ (by omega) (by omega) (by omega) kk))
                  | (rw [show is = 0 by omega] at kk
                     rw [show (if nokR (M 240) M h k = 0 then (0 : Int) else 0) = 0 from by split <;> rfl] at kk
                     exact ih _ _ (by omega) (by omega) (by omega) kk)
                  | (exfalso; omega)
          · refine a_iconst dX11_whoseBits_85 ?_
            refine a_goto (tgt := 90) dX11_whoseBits_86 (by decide) ?_
            refine c_istore (ls' := [_, _, _, _, _, _]) dX11_whoseBits_90 (by decide) rfl rfl ?_
            refine a_iloadn dX11_whoseBits_92 rfl ?_
            refine a_if_eq (tgt := 125) dX11_whoseBits_93 (by decide) (by rcases gi with z | z <;> exact ⟨by omega, by omega⟩) (fun hb93 => ?_) (fun hb93 => ?_)
            · refine a_iconst dX11_whoseBits_125 ?_
              refine c_istoren (ls' := [_, _, _, _, _, _]) dX11_whoseBits_126 (by decide) rfl rfl ?_
              refine c_iinc (ls' := [_, _, _, _, _, _]) dX11_whoseBits_127 rfl (by decide) rfl rfl ?_
              refine a_goto (tgt := 21) dX11_whoseBits_130 (by decide) ?_
              refine a_forget [5] (ls' := [_, _, _, _, _, none]) rfl ?_
              simp only [anF] at kk
              first
              | (have e9 : nokR (M 240) M h k = 0 := by unfold nokR; rw [if_pos (by omega)]
                 rw [if_pos e9] at kk
                 exact ih _ _ (by omega) (by omega) (by omega) kk)
              | (have e9 : nokR (M 240) M h k = 1 := by unfold nokR; rw [if_neg (by omega)]
                 rw [if_neg (by rw [e9]; decide)] at kk
                 first
                 | exact ih _ _ (by omega) (by omega) gi kk
                 | (rw [show is = 1 by omega] at kk; exact ih _ _ (by omega) (by omega) (by omega) kk)
                 | (rw [show is = 0 by omega] at kk; exact ih _ _ (by omega) (by omega) (by omega) kk))
              | (rw [show is = 0 by omega] at kk
                 rw [show (if nokR (M 240) M h k = 0 then (0 : Int) else 0) = 0 from by split <;> rfl] at kk
                 exact ih _ _ (by omega) (by omega) (by omega) kk)
              | (exfalso; omega)
            · refine a_iload dX11_whoseBits_96 rfl ?_
              refine a_aloadn dX11_whoseBits_98 rfl ?_
              refine a_getR (j' := 63) (y := 239) dX11_whoseBits_99 flX11_106 rfl rfl (L209 L) (p209_63 hP) ?_
              refine a_iconst dX11_whoseBits_102 ?_
              refine a_iload dX11_whoseBits_103 rfl ?_
              refine a_imul dX11_whoseBits_105 ?_
              refine a_iconst dX11_whoseBits_106 ?_
              refine a_iadd dX11_whoseBits_107 ?_
              refine b_iald (N := 96) dX11_whoseBits_108 (L239 L) (by decide) (by omega) (by omega) (fun hr108 => ?_)
              refine a_iconst dX11_whoseBits_109 ?_
              refine a_icmp_ne (tgt := 117) dX11_whoseBits_110 (by decide) hr108 ⟨by omega, by omega⟩ (fun hb110 => ?_) (fun hb110 => ?_)
              · refine a_iconst dX11_whoseBits_117 ?_
                refine a_icmp_ne (tgt := 125) dX11_whoseBits_118 (by decide) ⟨by omega, by omega⟩ ⟨by omega, by omega⟩ (fun hb118 => ?_) (fun hb118 => ?_)
                · refine a_iconst dX11_whoseBits_125 ?_
                  refine c_istoren (ls' := [_, _, _, _, _, _]) dX11_whoseBits_126 (by decide) rfl rfl ?_
                  refine c_iinc (ls' := [_, _, _, _, _, _]) dX11_whoseBits_127 rfl (by decide) rfl rfl ?_
                  refine a_goto (tgt := 21) dX11_whoseBits_130 (by decide) ?_
                  refine a_forget [5] (ls' := [_, _, _, _, _, none]) rfl ?_
                  simp only [anF] at kk
                  first
                  | (have e9 : nokR (M 240) M h k = 0 := by unfold nokR; rw [if_pos (by omega)]
                     rw [if_pos e9] at kk
                     exact ih _ _ (by omega) (by omega) (by omega) kk)
                  | (have e9 : nokR (M 240) M h k = 1 := by unfold nokR; rw [if_neg (by omega)]
                     rw [if_neg (by rw [e9]; decide)] at kk
                     first
                     | exact ih _ _ (by omega) (by omega) gi kk
                     | (rw [show is = 1 by omega] at kk; exact ih _ _ (by omega) (by omega) (by omega) kk)
                     | (rw [show is = 0 by omega] at kk; exact ih _ _ (by omega) (by omega) (by omega) kk))
                  | (rw [show is = 0 by omega] at kk
                     rw [show (if nokR (M 240) M h k = 0 then (0 : Int) else 0) = 0 from by split <;> rfl] at kk
                     exact ih _ _ (by omega) (by omega) (by omega) kk)
                  | (exfalso; omega)
                · refine a_iconst dX11_whoseBits_121 ?_
                  refine a_goto (tgt := 126) dX11_whoseBits_122 (by decide) ?_
                  refine c_istoren (ls' := [_, _, _, _, _, _]) dX11_whoseBits_126 (by decide) rfl rfl ?_
                  refine c_iinc (ls' := [_, _, _, _, _, _]) dX11_whoseBits_127 rfl (by decide) rfl rfl ?_
                  refine a_goto (tgt := 21) dX11_whoseBits_130 (by decide) ?_
                  refine a_forget [5] (ls' := [_, _, _, _, _, none]) rfl ?_
                  simp only [anF] at kk
                  first
                  | (have e9 : nokR (M 240) M h k = 0 := by unfold nokR; rw [if_pos (by omega)]
                     rw [if_pos e9] at kk
                     exact ih _ _ (by omega) (by omega) (by omega) kk)
                  | (have e9 : nokR (M 240) M h k = 1 := by unfold nokR; rw [if_neg (by omega)]
                     rw [if_neg (by rw [e9]; decide)] at kk
                     first
                     | exact ih _ _ (by omega) (by omega) gi kk
                     | (rw [show is = 1 by omega] at kk; exact ih _ _ (by omega) (by omega) (by omega) kk)
                     | (rw [show is = 0 by omega] at kk; exact ih _ _ (by omega) (by omega) (by omega) kk))
                  | (rw [show is = 0 by omega] at kk
                     rw [show (if nokR (M 240) M h k = 0 then (0 : Int) else 0) = 0 from by split <;> rfl] at kk
                     exact ih _ _ (by omega) (by omega) (by omega) kk)
                  | (exfalso; omega)
              · refine a_iconst dX11_whoseBits_113 ?_
                refine a_goto (tgt := 118) dX11_whoseBits_114 (by decide) ?_
                refine a_icmp_ne (tgt := 125) dX11_whoseBits_118 (by decide) ⟨by omega, by omega⟩ ⟨by omega, by omega⟩ (fun hb118 => ?_) (fun hb118 => ?_)
                · refine a_iconst dX11_whoseBits_125 ?_
                  refine c_istoren (ls' := [_, _, _, _, _, _]) dX11_whoseBits_126 (by decide) rfl rfl ?_
                  refine c_iinc (ls' := [_, _, _, _, _, _]) dX11_whoseBits_127 rfl (by decide) rfl rfl ?_
                  refine a_goto (tgt := 21) dX11_whoseBits_130 (by decide) ?_
                  refine a_forget [5] (ls' := [_, _, _, _, _, none]) rfl ?_
                  simp only [anF] at kk
                  first
                  | (have e9 : nokR (M 240) M h k = 0 := by unfold nokR; rw [if_pos (by omega)]
                     rw [if_pos e9] at kk
                     exact ih _ _ (by omega) (by omega) (by omega) kk)
                  | (have e9 : nokR (M 240) M h k = 1 := by unfold nokR; rw [if_neg (by omega)]
                     rw [if_neg (by rw [e9]; decide)] at kk
                     first
                     | exact ih _ _ (by omega) (by omega) gi kk
                     | (rw [show is = 1 by omega] at kk; exact ih _ _ (by omega) (by omega) (by omega) kk)
                     | (rw [show is = 0 by omega] at kk; exact ih _ _ (by omega) (by omega) (by omega) kk))
                  | (rw [show is = 0 by omega] at kk
                     rw [show (if nokR (M 240) M h k = 0 then (0 : Int) else 0) = 0 from by split <;> rfl] at kk
                     exact ih _ _ (by omega) (by omega) (by omega) kk)
                  | (exfalso; omega)
                · refine a_iconst dX11_whoseBits_121 ?_
                  refine a_goto (tgt := 126) dX11_whoseBits_122 (by decide) ?_
                  refine c_istoren (ls' := [_, _, _, _, _, _]) dX11_whoseBits_126 (by decide) rfl rfl ?_
                  refine c_iinc (ls' := [_, _, _, _, _, _]) dX11_whoseBits_127 rfl (by decide) rfl rfl ?_
                  refine a_goto (tgt := 21) dX11_whoseBits_130 (by decide) ?_
                  refine a_forget [5] (ls' := [_, _, _, _, _, none]) rfl ?_
                  simp only [anF] at kk
                  first
                  | (have e9 : nokR (M 240) M h k = 0 := by unfold nokR; rw [if_pos (by omega)]
                     rw [if_pos e9] at kk
                     exact ih _ _ (by omega) (by omega) (by omega) kk)
                  | (have e9 : nokR (M 240) M h k = 1 := by unfold nokR; rw [if_neg (by omega)]
                     rw [if_neg (by rw [e9]; decide)] at kk
                     first
                     | exact ih _ _ (by omega) (by omega) gi kk
                     | (rw [show is = 1 by omega] at kk; exact ih _ _ (by omega) (by omega) (by omega) kk)
                     | (rw [show is = 0 by omega] at kk; exact ih _ _ (by omega) (by omega) (by omega) kk))
                  | (rw [show is = 0 by omega] at kk
                     rw [show (if nokR (M 240) M h k = 0 then (0 : Int) else 0) = 0 from by split <;> rfl] at kk
                     exact ih _ _ (by omega) (by omega) (by omega) kk)
                  | (exfalso; omega)
        · refine a_goto (tgt := 127) dX11_whoseBits_52 (by decide) ?_
          refine c_iinc (ls' := [_, _, _, _, _, _]) dX11_whoseBits_127 rfl (by decide) rfl rfl ?_
          refine a_goto (tgt := 21) dX11_whoseBits_130 (by decide) ?_
          refine a_forget [5] (ls' := [_, _, _, _, _, none]) rfl ?_
          simp only [anF] at kk
          first
          | (have e9 : nokR (M 240) M h k = 0 := by unfold nokR; rw [if_pos (by omega)]
             rw [if_pos e9] at kk
             exact ih _ _ (by omega) (by omega) (by omega) kk)
          | (have e9 : nokR (M 240) M h k = 1 := by unfold nokR; rw [if_neg (by omega)]
             rw [if_neg (by rw [e9]; decide)] at kk
             first
             | exact ih _ _ (by omega) (by omega) gi kk
             | (rw [show is = 1 by omega] at kk; exact ih _ _ (by omega) (by omega) (by omega) kk)
             | (rw [show is = 0 by omega] at kk; exact ih _ _ (by omega) (by omega) (by omega) kk))
          | (rw [show is = 0 by omega] at kk
             rw [show (if nokR (M 240) M h k = 0 then (0 : Int) else 0) = 0 from by split <;> rfl] at kk
             exact ih _ _ (by omega) (by omega) (by omega) kk)
          | (exfalso; omega)

set_option maxRecDepth 100000 in
set_option maxHeartbeats 4000000 in
theorem tlX11_whoseBits {G : zG} {l : Launch} {L : Nat} {P : zP} {M : zM} {acc h is : Int} {Z : zZ} (hP : PFok P) (gi : is = 0 ∨ is = 1) (ga : inR acc) (kk : AW G l mdX11_whoseBits Z 8 [some (aR 209), some (aI (if is = 0 then acc else kset acc h)), some (aI (h + 1)), none, none, none] [] (LAY L) P M 0 0) : AW G l mdX11_whoseBits Z 133 [some (aR 209), some (aI acc), some (aI h), some (aI is), none, none] [] (LAY L) P M 0 0 := by
  refine a_iloadn dX11_whoseBits_133 rfl ?_
  refine a_iloadn dX11_whoseBits_134 rfl ?_
  refine a_if_eq (tgt := 144) dX11_whoseBits_135 (by decide) (by rcases gi with z | z <;> exact ⟨by omega, by omega⟩) (fun hb135 => ?_) (fun hb135 => ?_)
  · refine a_iconst dX11_whoseBits_144 ?_
    refine a_ior dX11_whoseBits_145 ?_
    refine c_istoren (ls' := [_, _, _, _, _, _]) dX11_whoseBits_146 (by decide) rfl rfl ?_
    refine c_iinc (ls' := [_, _, _, _, _, _]) dX11_whoseBits_147 rfl (by decide) rfl rfl ?_
    refine a_goto (tgt := 8) dX11_whoseBits_150 (by decide) ?_
    refine a_forget [3] (ls' := [_, _, _, none, none, none]) rfl ?_
    first
    | (rw [if_pos (by omega)] at kk; rw [show b_ior acc 0 = acc from ior0 ga]; exact kk)
    | (rw [if_neg (by omega)] at kk; exact kk)
  · refine a_iconst dX11_whoseBits_138 ?_
    refine a_iloadn dX11_whoseBits_139 rfl ?_
    refine a_ishl dX11_whoseBits_140 ?_
    refine a_goto (tgt := 145) dX11_whoseBits_141 (by decide) ?_
    refine a_ior dX11_whoseBits_145 ?_
    refine c_istoren (ls' := [_, _, _, _, _, _]) dX11_whoseBits_146 (by decide) rfl rfl ?_
    refine c_iinc (ls' := [_, _, _, _, _, _]) dX11_whoseBits_147 rfl (by decide) rfl rfl ?_
    refine a_goto (tgt := 8) dX11_whoseBits_150 (by decide) ?_
    refine a_forget [3] (ls' := [_, _, _, none, none, none]) rfl ?_
    first
    | (rw [if_pos (by omega)] at kk; rw [show b_ior acc 0 = acc from ior0 ga]; exact kk)
    | (rw [if_neg (by omega)] at kk; exact kk)

set_option maxRecDepth 100000 in
set_option maxHeartbeats 4000000 in
theorem lpX11_whoseBits {G : zG} {l : Launch} {L : Nat} {P : zP} {M : zM} (hP : PFok P) (hT : TxI M) (hn : NRI M) : ∀ (n : Nat) (h acc : Int) (g0 : 0 ≤ h) (g1 : h + n = M 209 12) (ga : inR acc), AW G l mdX11_whoseBits (zone (LAY L) P M (fun r => r = zbits (fun h => zall (nokR (M 240) M h) (knb M).toNat 0) n h acc)) 8 [some (aR 209), some (aI acc), some (aI h), none, none, none] [] (LAY L) P M 0 0 := by
  intro n
  induction n with
  | zero =>
    intro h acc g0 g1 ga
    have q1 := hn.1
    have q2 := knb_in hn
    have q4 := hT.1
    have q5 := hT.2.2.1
    refine a_iloadn dX11_whoseBits_8 rfl ?_
    refine a_aloadn dX11_whoseBits_9 rfl ?_
    refine b_getI (j' := 12) dX11_whoseBits_10 flX11_201 rfl rfl (L209 L) (fun hr10 => ?_)
    refine a_icmp_ge (tgt := 153) dX11_whoseBits_13 (by decide) ⟨by omega, by omega⟩ ⟨by omega, by omega⟩ (fun hb13 => ?_) (fun hb13 => ?_)
    · refine a_iloadn dX11_whoseBits_153 rfl ?_
      exact a_ireturn dX11_whoseBits_154 rfl rfl rfl (zone_i rfl)
    · exfalso; omega
  | succ n ih =>
    intro h acc g0 g1 ga
    have q1 := hn.1
    have q2 := knb_in hn
    have q4 := hT.1
    have q5 := hT.2.2.1
    refine a_iloadn dX11_whoseBits_8 rfl ?_
    refine a_aloadn dX11_whoseBits_9 rfl ?_
    refine b_getI (j' := 12) dX11_whoseBits_10 flX11_201 rfl rfl (L209 L) (fun hr10 => ?_)
    refine a_icmp_ge (tgt := 153) dX11_whoseBits_13 (by decide) ⟨by omega, by omega⟩ ⟨by omega, by omega⟩ (fun hb13 => ?_) (fun hb13 => ?_)
    · exfalso; omega
    · refine a_iconst dX11_whoseBits_16 ?_
      refine c_istoren (ls' := [_, _, _, _, _, _]) dX11_whoseBits_17 (by decide) rfl rfl ?_
      refine a_iconst dX11_whoseBits_18 ?_
      refine c_istore (ls' := [_, _, _, _, _, _]) dX11_whoseBits_19 (by decide) rfl rfl ?_
      refine lpX11_whoseBits_in hP hT hn ⟨by omega, by omega⟩ (knb M).toNat 0 1 (by omega) (by omega) (Or.inr rfl) ?_
      rw [(anF_zall _ _ _).1]
      have z01 := zall01 (nokR (M 240) M h) (knb M).toNat 0
      refine tlX11_whoseBits hP z01 ga ?_
      simp only [zbits]
      exact ih _ _ (by omega) (by omega) (by split; exact ga; exact ir _)

set_option maxRecDepth 100000 in
set_option maxHeartbeats 4000000 in
theorem m_X11_whoseBits {G : zG} {l : Launch} {L : Nat} {P : zP} {M : zM}  (hP : PFok P) (hT : TxI M) (hn : NRI M) : AM G l yX11_whoseBits mdX11_whoseBits [aR 209] (LAY L) P M (zany (LAY L) P (fun r M' => (∀ k : Nat, k ≠ 240 → M' k = M k) ∧ r = whR M)) := by
  have q1 := hn.1
  have q2 := knb_in hn
  have q4 := hT.1
  have q5 := hT.2.2.1
  refine AM.go [some (aR 209), none, none, none, none, none] rfl (Nat.le_of_ble_eq_true rfl) ?_ (by decide) rfl rfl
  refine a_aloadn dX11_whoseBits_0 rfl ?_
  refine a_relVv (as := []) (q := 209) dX11_whoseBits_1 mvX11_445 ⟨by decide, by decide⟩ (L209 L) rfl rfl rfl (Nat.le_of_ble_eq_true rfl) ⟨rfl, rfl⟩ ⟨by decide, by decide⟩ (m_X11_layCounts hP hn) (fun M1 hM1 => ?_)
  refine a_iconst dX11_whoseBits_4 ?_
  refine c_istoren (ls' := [_, _, _, _, _, _]) dX11_whoseBits_5 (by decide) rfl rfl ?_
  refine a_iconst dX11_whoseBits_6 ?_
  refine c_istoren (ls' := [_, _, _, _, _, _]) dX11_whoseBits_7 (by decide) rfl rfl ?_
  have e209 : M1 209 = M 209 := hM1.1 209 (by decide)
  have hn1 : NRI M1 := NRI_of (by rw [e209]) (by rw [e209]) (hM1.1 239 (by decide)) hn
  have hT1 : TxI M1 := by
    unfold TxI at hT ⊢
    rw [e209, hM1.1 213 (by decide), hM1.1 215 (by decide), hM1.1 216 (by decide), hM1.1 217 (by decide), hM1.1 218 (by decide), hM1.1 219 (by decide), hM1.1 220 (by decide), hM1.1 221 (by decide), hM1.1 222 (by decide)]
    exact hT
  refine AW.mono2 (lpX11_whoseBits hP hT1 hn1 (M 209 12).toNat 0 0 (by omega) (by rw [e209]; omega) ⟨by omega, by omega⟩) ?_
  rintro r lay P' M' ⟨z1, z2, rfl, x, z3, z4⟩
  refine ⟨z1, z2, x, z3, hM1.1, ?_⟩
  rw [z4]
  unfold whR
  rw [knb_of e209]
  refine zbits_cong _ _ _ (fun j j0 j1 => ?_)
  rw [zall_cong (f := nokR (M' 240) M' j) (g := nokR (cntR M) M j) (knb M).toNat 0 (fun q q0 q1 => by rw [nokR_eq (c' := cntR M) hM1.1 (hM1.2 q q0 (by omega))])]

theorem q240_rn {P : zP} {M M' : zM} (hv : RV P M) (h : ∀ k : Nat, k ≠ 240 → M' k = M k) : Rn M M' := ⟨fun k i hk => by rw [h k (by omega)], by rw [h 209 (by decide)]; exact hv.2.1.1.2.2.2⟩
theorem Rq.nri {M0 M : zM} (h : Rq M0 M) (hn : NRI M0) : NRI M := NRI_of (h 209 61 (by omega)) (h 209 62 (by omega)) (h.row (by omega)) hn
theorem cntR_of {M0 M : zM} (h1 : knb M = knb M0) (h3 : M 239 = M0 239) : cntR M = cntR M0 := by unfold cntR; rw [h1, h3]
theorem Rq.kb {M0 M : zM} (h : Rq M0 M) : knb M = knb M0 := by unfold knb; rw [h 209 61 (by omega), h 209 62 (by omega)]
theorem Rq.nok {M0 M : zM} (h : Rq M0 M) (c : Int → Int) (x i : Int) : nokR c M x i = nokR c M0 x i := by
  unfold nokR
  rw [h.row (k := 239) (by omega), h.row (k := 220) (by omega), h.row (k := 221) (by omega), h.row (k := 222) (by omega), h 209 14 (by omega)]
theorem Rq.wh {M0 M : zM} (h : Rq M0 M) : whR M = whR M0 := by
  unfold whR
  rw [h.kb, cntR_of h.kb (h.row (by omega)), h 209 12 (by omega)]
  exact zbits_cong _ _ _ (fun j j0 j1 => by rw [zall_cong (f := nokR (cntR M0) M j) (g := nokR (cntR M0) M0 j) _ _ (fun q q0 q1 => by rw [h.nok])])
theorem Rq.ma {M0 M : zM} (h : Rq M0 M) : maR M = maR M0 := by
  unfold maR
  rw [h.row (k := 220) (by omega), h.row (k := 221) (by omega), h.row (k := 222) (by omega), h 209 14 (by omega), h 209 12 (by omega)]

set_option maxRecDepth 100000 in
set_option maxHeartbeats 4000000 in
theorem m_X11_whose {G : zG} {l : Launch} {L : Nat} {P : zP} {M : zM}  (hv : RV P M) (hn : NRI M)  : AM G l yX11_whose mdX11_whose [aR 209] (LAY L) P M (zany (LAY L) P (fun r M' => Rn M M' ∧ r = whR M)) := by
  have hP := hv.1
  have q0 := hv.2.1.1.1.1
  refine AM.go [some (aR 209)] rfl (Nat.le_of_ble_eq_true rfl) ?_ (by decide) rfl rfl
  refine a_aloadn dX11_whose_0 rfl ?_
  refine a_iconst dX11_whose_1 ?_
  refine a_putI (j' := 2) dX11_whose_2 flX11_124 rfl rfl (L209 L) (by decide) rfl ⟨by omega, by omega⟩ ?_
  obtain ⟨Mt, hMt⟩ : ∃ Mt, Mt = sm M 209 2 0 := ⟨_, rfl⟩
  rw [← hMt]
  obtain ⟨hvt, hnt, e12, eT⟩ := th_all hv hMt
  refine a_aloadn dX11_whose_5 rfl ?_
  refine a_anyV (as := []) (q := 209) dX11_whose_6 mvX11_448 ⟨by decide, by decide⟩ (L209 L) rfl rfl rfl (Nat.le_of_ble_eq_true rfl) ⟨rfl, rfl⟩ ⟨by decide, by decide⟩ (m_X11_whoseBits hP hvt.2.1.1.1 (hnt.1.nri hn)) (fun x9 M1 hM1 => ?_)
  have hr1 := q240_rn hvt hM1.1
  exact a_ireturn dX11_whose_9 rfl rfl rfl (zany_i ⟨hnt.tr hr1, by rw [hM1.2, hnt.1.wh]⟩)

set_option maxRecDepth 100000 in
set_option maxHeartbeats 4000000 in
theorem lpX11_worstAt_in {G : zG} {l : Launch} {L : Nat} {P : zP} {M : zM} {st9 x kd mx : Int} {Z : zZ} (hP : PFok P) (hT : TxI M) (hx : inR x) (hk : 0 ≤ kd ∧ kd ≤ 9) : ∀ (n : Nat) (i acc : Int) (h0 : 0 ≤ i) (h1 : i + n = M 209 12) (kk : AW G l mdX11_worstAt Z 64 [some (aR 209), some (aI st9), some (aI x), some (aI mx), some (aI kd), some (aI (zsm (fun j => if kbit st9 j = 1 ∧ zsnd (M 220) (M 221) (M 222) j x (M 209 14).toNat 0 = kd then 1 else 0) n i acc)), none] [] (LAY L) P M 0 0), AW G l mdX11_worstAt Z 18 [some (aR 209), some (aI st9), some (aI x), some (aI mx), some (aI kd), some (aI acc), some (aI i)] [] (LAY L) P M 0 0 := by
  intro n
  induction n with
  | zero =>
    intro i acc h0 h1 kk
    have q4 := hT.1
    have q5 := hT.2.2.1
    have q6 := zsnd_inR i x hT (M 209 14).toNat 0 (by omega) (by omega)
    have q7 := kbit01 st9 i
    refine a_iload dX11_worstAt_18 rfl ?_
    refine a_aloadn dX11_worstAt_20 rfl ?_
    refine b_getI (j' := 12) dX11_worstAt_21 flX11_201 rfl rfl (L209 L) (fun hr21 => ?_)
    refine a_icmp_ge (tgt := 64) dX11_worstAt_24 (by decide) ⟨by omega, by omega⟩ ⟨by omega, by omega⟩ (fun hb24 => ?_) (fun hb24 => ?_)
    · refine a_forget [6] (ls' := [_, _, _, _, _, _, none]) rfl kk
    · exfalso; omega
  | succ n ih =>
    intro i acc h0 h1 kk
    have q4 := hT.1
    have q5 := hT.2.2.1
    have q6 := zsnd_inR i x hT (M 209 14).toNat 0 (by omega) (by omega)
    have q7 := kbit01 st9 i
    refine a_iload dX11_worstAt_18 rfl ?_
    refine a_aloadn dX11_worstAt_20 rfl ?_
    refine b_getI (j' := 12) dX11_worstAt_21 flX11_201 rfl rfl (L209 L) (fun hr21 => ?_)
    refine a_icmp_ge (tgt := 64) dX11_worstAt_24 (by decide) ⟨by omega, by omega⟩ ⟨by omega, by omega⟩ (fun hb24 => ?_) (fun hb24 => ?_)
    · exfalso; omega
    · refine a_iload dX11_worstAt_27 rfl ?_
      refine a_iloadn dX11_worstAt_29 rfl ?_
      refine a_iload dX11_worstAt_30 rfl ?_
      refine a_callS (as := [_, _]) dX11_worstAt_32 mvX11_451 ⟨by decide, by decide⟩ rfl rfl (Nat.le_of_ble_eq_true rfl) ⟨rfl, rfl⟩ ⟨by decide, by decide⟩ m_X11_isOf ?_
      refine a_if_eq (tgt := 54) dX11_worstAt_35 (by decide) (by rcases q7 with z | z <;> exact ⟨by omega, by omega⟩) (fun hb35 => ?_) (fun hb35 => ?_)
      · refine a_iconst dX11_worstAt_54 ?_
        refine a_iadd dX11_worstAt_55 ?_
        refine c_istore (ls' := [_, _, _, _, _, _, _]) dX11_worstAt_56 (by decide) rfl rfl ?_
        refine c_iinc (ls' := [_, _, _, _, _, _, _]) dX11_worstAt_58 rfl (by decide) rfl rfl ?_
        refine a_goto (tgt := 18) dX11_worstAt_61 (by decide) ?_
        simp only [zsm] at kk
        first
        | (rw [if_pos (by omega)] at kk; exact ih _ _ (by omega) (by omega) kk)
        | (rw [if_neg (by omega)] at kk; exact ih _ _ (by omega) (by omega) kk)
      · refine a_aloadn dX11_worstAt_38 rfl ?_
        refine a_iload dX11_worstAt_39 rfl ?_
        refine a_iloadn dX11_worstAt_41 rfl ?_
        refine a_callV (as := [_, _]) (q := 209) dX11_worstAt_42 mvX11_416 ⟨by decide, by decide⟩ (L209 L) rfl rfl rfl (Nat.le_of_ble_eq_true rfl) ⟨rfl, rfl⟩ ⟨by decide, by decide⟩ (m_X11_soundAt hP hT ⟨by omega, by omega⟩ hx) ?_
        refine a_iload dX11_worstAt_45 rfl ?_
        refine a_icmp_ne (tgt := 54) dX11_worstAt_47 (by decide) ⟨by omega, by omega⟩ ⟨by omega, by omega⟩ (fun hb47 => ?_) (fun hb47 => ?_)
        · refine a_iconst dX11_worstAt_54 ?_
          refine a_iadd dX11_worstAt_55 ?_
          refine c_istore (ls' := [_, _, _, _, _, _, _]) dX11_worstAt_56 (by decide) rfl rfl ?_
          refine c_iinc (ls' := [_, _, _, _, _, _, _]) dX11_worstAt_58 rfl (by decide) rfl rfl ?_
          refine a_goto (tgt := 18) dX11_worstAt_61 (by decide) ?_
          simp only [zsm] at kk
          first
          | (rw [if_pos (by omega)] at kk; exact ih _ _ (by omega) (by omega) kk)
          | (rw [if_neg (by omega)] at kk; exact ih _ _ (by omega) (by omega) kk)
        · refine a_iconst dX11_worstAt_50 ?_
          refine a_goto (tgt := 55) dX11_worstAt_51 (by decide) ?_
          refine a_iadd dX11_worstAt_55 ?_
          refine c_istore (ls' := [_, _, _, _, _, _, _]) dX11_worstAt_56 (by decide) rfl rfl ?_
          refine c_iinc (ls' := [_, _, _, _, _, _, _]) dX11_worstAt_58 rfl (by decide) rfl rfl ?_
          refine a_goto (tgt := 18) dX11_worstAt_61 (by decide) ?_
          simp only [zsm] at kk
          first
          | (rw [if_pos (by omega)] at kk; exact ih _ _ (by omega) (by omega) kk)
          | (rw [if_neg (by omega)] at kk; exact ih _ _ (by omega) (by omega) kk)

set_option maxRecDepth 100000 in
set_option maxHeartbeats 4000000 in
theorem tlX11_worstAt {G : zG} {l : Launch} {L : Nat} {P : zP} {st9 x kd mx v : Int} {M : zM} {Z : zZ} (hP : PFok P) (rv : 0 ≤ v ∧ v ≤ 6) (rm : 0 ≤ mx ∧ mx ≤ 6) (kk : AW G l mdX11_worstAt Z 5 [some (aR 209), some (aI st9), some (aI x), some (aI (if mx < v then v else mx)), some (aI (kd + 1)), none, none] [] (LAY L) P M 0 0) : AW G l mdX11_worstAt Z 64 [some (aR 209), some (aI st9), some (aI x), some (aI mx), some (aI kd), some (aI v), none] [] (LAY L) P M 0 0 := by
  refine a_iload dX11_worstAt_64 rfl ?_
  refine a_iloadn dX11_worstAt_66 rfl ?_
  refine a_icmp_le (tgt := 75) dX11_worstAt_67 (by decide) ⟨by omega, by omega⟩ ⟨by omega, by omega⟩ (fun hb67 => ?_) (fun hb67 => ?_)
  · refine a_iloadn dX11_worstAt_75 rfl ?_
    refine c_istoren (ls' := [_, _, _, _, _, _, _]) dX11_worstAt_76 (by decide) rfl rfl ?_
    refine c_iinc (ls' := [_, _, _, _, _, _, _]) dX11_worstAt_77 rfl (by decide) rfl rfl ?_
    refine a_goto (tgt := 5) dX11_worstAt_80 (by decide) ?_
    refine a_forget [5] (ls' := [_, _, _, _, _, none, none]) rfl ?_
    first
    | (rw [if_pos (by omega)] at kk; exact kk)
    | (rw [if_neg (by omega)] at kk; exact kk)
  · refine a_iload dX11_worstAt_70 rfl ?_
    refine a_goto (tgt := 76) dX11_worstAt_72 (by decide) ?_
    refine c_istoren (ls' := [_, _, _, _, _, _, _]) dX11_worstAt_76 (by decide) rfl rfl ?_
    refine c_iinc (ls' := [_, _, _, _, _, _, _]) dX11_worstAt_77 rfl (by decide) rfl rfl ?_
    refine a_goto (tgt := 5) dX11_worstAt_80 (by decide) ?_
    refine a_forget [5] (ls' := [_, _, _, _, _, none, none]) rfl ?_
    first
    | (rw [if_pos (by omega)] at kk; exact kk)
    | (rw [if_neg (by omega)] at kk; exact kk)

set_option maxRecDepth 100000 in
set_option maxHeartbeats 4000000 in
theorem lpX11_worstAt {G : zG} {l : Launch} {L : Nat} {P : zP} {M : zM} {st9 x : Int} (hP : PFok P) (hT : TxI M) (hx : inR x) : ∀ (n : Nat) (kd acc : Int) (h0 : 0 ≤ kd) (h1 : kd + n = 10) (ha : 0 ≤ acc ∧ acc ≤ 6), AW G l mdX11_worstAt (zdet (some (aI (zmx (fun kd => zsm (fun j => if kbit st9 j = 1 ∧ zsnd (M 220) (M 221) (M 222) j x (M 209 14).toNat 0 = kd then 1 else 0) (M 209 12).toNat 0 0) n kd acc))) (LAY L) P M) 5 [some (aR 209), some (aI st9), some (aI x), some (aI acc), some (aI kd), none, none] [] (LAY L) P M 0 0 := by
  intro n
  induction n with
  | zero =>
    intro kd acc h0 h1 ha
    refine a_iload dX11_worstAt_5 rfl ?_
    refine a_bipush (w := 10) dX11_worstAt_7 (by decide) ?_
    refine a_icmp_ge (tgt := 83) dX11_worstAt_9 (by decide) ⟨by omega, by omega⟩ ⟨by omega, by omega⟩ (fun hb9 => ?_) (fun hb9 => ?_)
    · refine a_iloadn dX11_worstAt_83 rfl ?_
      exact a_ireturn dX11_worstAt_84 rfl rfl rfl (zdet_I (by first | rfl | omega) rfl)
    · exfalso; omega
  | succ n ih =>
    intro kd acc h0 h1 ha
    refine a_iload dX11_worstAt_5 rfl ?_
    refine a_bipush (w := 10) dX11_worstAt_7 (by decide) ?_
    refine a_icmp_ge (tgt := 83) dX11_worstAt_9 (by decide) ⟨by omega, by omega⟩ ⟨by omega, by omega⟩ (fun hb9 => ?_) (fun hb9 => ?_)
    · exfalso; omega
    · refine a_iconst dX11_worstAt_12 ?_
      refine c_istore (ls' := [_, _, _, _, _, _, _]) dX11_worstAt_13 (by decide) rfl rfl ?_
      refine a_iconst dX11_worstAt_15 ?_
      refine c_istore (ls' := [_, _, _, _, _, _, _]) dX11_worstAt_16 (by decide) rfl rfl ?_
      have q4 := hT.1
      refine lpX11_worstAt_in hP hT hx ⟨by omega, by omega⟩ (M 209 12).toNat 0 0 (by omega) (by omega) ?_
      have q3 := zsm01 (fun j => kbit st9 j = 1 ∧ zsnd (M 220) (M 221) (M 222) j x (M 209 14).toNat 0 = kd) (M 209 12).toNat 0 0
      refine tlX11_worstAt hP (by omega) ha ?_
      simp only [zmx]
      exact ih _ _ (by omega) (by omega) (by split <;> omega)

set_option maxRecDepth 100000 in
set_option maxHeartbeats 4000000 in
theorem m_X11_worstAt {G : zG} {l : Launch} {L : Nat} {P : zP} {M : zM} {st9 x : Int} (hP : PFok P) (hT : TxI M) (hx : inR x) : AM G l yX11_worstAt mdX11_worstAt [aR 209, aI st9, aI x] (LAY L) P M (zdet (some (aI (maR M st9 x))) (LAY L) P M) := by
  refine AM.go [some (aR 209), some (aI st9), some (aI x), none, none, none, none] rfl (Nat.le_of_ble_eq_true rfl) ?_ (by decide) rfl rfl
  refine a_iconst dX11_worstAt_0 ?_
  refine c_istoren (ls' := [_, _, _, _, _, _, _]) dX11_worstAt_1 (by decide) rfl rfl ?_
  refine a_iconst dX11_worstAt_2 ?_
  refine c_istore (ls' := [_, _, _, _, _, _, _]) dX11_worstAt_3 (by decide) rfl rfl ?_
  exact lpX11_worstAt hP hT hx 10 0 0 (by omega) (by omega) (by omega)

set_option maxRecDepth 100000 in
set_option maxHeartbeats 4000000 in
theorem lpX11_ask {G : zG} {l : Launch} {L : Nat} {P : zP} {M : zM} {w wh : Int} (hP : PFok P) (hT : TxI M) (rw9 : inR w) : ∀ (n : Nat) (x best : Int) (g0 : 1 ≤ x) (g1 : x + n = 24) (gb : 0 ≤ best ∧ best ≤ 24), AW G l mdX11_ask (zone (LAY L) P M (fun r => r = if w = 0 then akR (maR M wh) n x best else maR M wh (akR (maR M wh) n x best))) 26 [some (aR 209), some (aI w), some (aI wh), some (aI best), some (aI x)] [] (LAY L) P M 0 0 := by
  intro n
  induction n with
  | zero =>
    intro x best g0 g1 gb
    have b1 := maR_in hT wh x
    have b2 := maR_in hT wh best
    refine a_iload dX11_ask_26 rfl ?_
    refine a_bipush (w := 24) dX11_ask_28 (by decide) ?_
    refine a_icmp_ge (tgt := 62) dX11_ask_30 (by decide) ⟨by omega, by omega⟩ ⟨by omega, by omega⟩ (fun hb30 => ?_) (fun hb30 => ?_)
    · refine a_iloadn dX11_ask_62 rfl ?_
      refine a_if_ne (tgt := 70) dX11_ask_63 (by decide) ⟨by omega, by omega⟩ (fun hb63 => ?_) (fun hb63 => ?_)
      · refine a_aloadn dX11_ask_70 rfl ?_
        refine a_iloadn dX11_ask_71 rfl ?_
        refine a_iloadn dX11_ask_72 rfl ?_
        refine a_callV (as := [_, _]) (q := 209) dX11_ask_73 mvX11_454 ⟨by decide, by decide⟩ (L209 L) rfl rfl rfl (Nat.le_of_ble_eq_true rfl) ⟨rfl, rfl⟩ ⟨by decide, by decide⟩ (m_X11_worstAt hP hT ⟨by omega, by omega⟩) ?_
        exact a_ireturn dX11_ask_76 rfl rfl rfl (zone_i (by simp only [akR]; first | (rw [if_pos (by omega)]; done) | (rw [if_neg (by omega)]; done)))
      · refine a_iloadn dX11_ask_66 rfl ?_
        refine a_goto (tgt := 76) dX11_ask_67 (by decide) ?_
        exact a_ireturn dX11_ask_76 rfl rfl rfl (zone_i (by simp only [akR]; first | (rw [if_pos (by omega)]; done) | (rw [if_neg (by omega)]; done)))
    · exfalso; omega
  | succ n ih =>
    intro x best g0 g1 gb
    have b1 := maR_in hT wh x
    have b2 := maR_in hT wh best
    refine a_iload dX11_ask_26 rfl ?_
    refine a_bipush (w := 24) dX11_ask_28 (by decide) ?_
    refine a_icmp_ge (tgt := 62) dX11_ask_30 (by decide) ⟨by omega, by omega⟩ ⟨by omega, by omega⟩ (fun hb30 => ?_) (fun hb30 => ?_)
    · exfalso; omega
    · refine a_aloadn dX11_ask_33 rfl ?_
      refine a_iloadn dX11_ask_34 rfl ?_
      refine a_iload dX11_ask_35 rfl ?_
      refine a_callV (as := [_, _]) (q := 209) dX11_ask_37 mvX11_454 ⟨by decide, by decide⟩ (L209 L) rfl rfl rfl (Nat.le_of_ble_eq_true rfl) ⟨rfl, rfl⟩ ⟨by decide, by decide⟩ (m_X11_worstAt hP hT ⟨by omega, by omega⟩) ?_
      refine a_aloadn dX11_ask_40 rfl ?_
      refine a_iloadn dX11_ask_41 rfl ?_
      refine a_iloadn dX11_ask_42 rfl ?_
      refine a_callV (as := [_, _]) (q := 209) dX11_ask_43 mvX11_454 ⟨by decide, by decide⟩ (L209 L) rfl rfl rfl (Nat.le_of_ble_eq_true rfl) ⟨rfl, rfl⟩ ⟨by decide, by decide⟩ (m_X11_worstAt hP hT ⟨by omega, by omega⟩) ?_
      refine a_icmp_ge (tgt := 54) dX11_ask_46 (by decide) ⟨by omega, by omega⟩ ⟨by omega, by omega⟩ (fun hb46 => ?_) (fun hb46 => ?_)
      · refine a_iloadn dX11_ask_54 rfl ?_
        refine c_istoren (ls' := [_, _, _, _, _]) dX11_ask_55 (by decide) rfl rfl ?_
        refine c_iinc (ls' := [_, _, _, _, _]) dX11_ask_56 rfl (by decide) rfl rfl ?_
        refine a_goto (tgt := 26) dX11_ask_59 (by decide) ?_
        first
        | (have eb : akR (maR M wh) (n + 1) x best = akR (maR M wh) n (x + 1) x := by simp only [akR]; rw [if_pos (by omega)]
           rw [eb]; exact ih _ _ (by omega) (by omega) (by omega))
        | (have eb : akR (maR M wh) (n + 1) x best = akR (maR M wh) n (x + 1) best := by simp only [akR]; rw [if_neg (by omega)]
           rw [eb]; exact ih _ _ (by omega) (by omega) (by omega))
      · refine a_iload dX11_ask_49 rfl ?_
        refine a_goto (tgt := 55) dX11_ask_51 (by decide) ?_
        refine c_istoren (ls' := [_, _, _, _, _]) dX11_ask_55 (by decide) rfl rfl ?_
        refine c_iinc (ls' := [_, _, _, _, _]) dX11_ask_56 rfl (by decide) rfl rfl ?_
        refine a_goto (tgt := 26) dX11_ask_59 (by decide) ?_
        first
        | (have eb : akR (maR M wh) (n + 1) x best = akR (maR M wh) n (x + 1) x := by simp only [akR]; rw [if_pos (by omega)]
           rw [eb]; exact ih _ _ (by omega) (by omega) (by omega))
        | (have eb : akR (maR M wh) (n + 1) x best = akR (maR M wh) n (x + 1) best := by simp only [akR]; rw [if_neg (by omega)]
           rw [eb]; exact ih _ _ (by omega) (by omega) (by omega))

set_option maxRecDepth 100000 in
set_option maxHeartbeats 4000000 in
theorem m_X11_ask {G : zG} {l : Launch} {L : Nat} {P : zP} {M : zM} {w : Int} (hv : RV P M) (hn : NRI M) (rw : inR w) : AM G l yX11_ask mdX11_ask [aR 209, aI w] (LAY L) P M (zany (LAY L) P (fun r M' => Rn M M' ∧ ((¬ (0 ≤ w ∧ w ≤ 1)) ∧ r = -1 ∨ ¬ (¬ (0 ≤ w ∧ w ≤ 1)) ∧ r = if w = 0 then akR (maR M (whR M)) 23 1 0 else maR M (whR M) (akR (maR M (whR M)) 23 1 0)))) := by
  have hP := hv.1
  have q0 := hv.2.1.1.1.1
  refine AM.go [some (aR 209), some (aI w), none, none, none] rfl (Nat.le_of_ble_eq_true rfl) ?_ (by decide) rfl rfl
  refine a_aloadn dX11_ask_0 rfl ?_
  refine a_iconst dX11_ask_1 ?_
  refine a_putI (j' := 2) dX11_ask_2 flX11_124 rfl rfl (L209 L) (by decide) rfl ⟨by omega, by omega⟩ ?_
  obtain ⟨Mt, hMt⟩ : ∃ Mt, Mt = sm M 209 2 0 := ⟨_, rfl⟩
  rw [← hMt]
  obtain ⟨hvt, hnt, e12, eT⟩ := th_all hv hMt
  refine a_iloadn dX11_ask_5 rfl ?_
  refine a_iconst dX11_ask_6 ?_
  refine a_iconst dX11_ask_7 ?_
  refine a_oneS (as := [_, _, _]) dX11_ask_8 mvX11_169 ⟨by decide, by decide⟩ rfl rfl (Nat.le_of_ble_eq_true rfl) ⟨rfl, rfl⟩ ⟨by decide, by decide⟩ (m_isIn1 ⟨by omega, by omega⟩ ⟨by omega, by omega⟩ ⟨by omega, by omega⟩) (fun x8 hx8 => ?_)
  refine a_if_ne (tgt := 16) dX11_ask_11 (by decide) ⟨by omega, by omega⟩ (fun hb11 => ?_) (fun hb11 => ?_)
  · refine a_aloadn dX11_ask_16 rfl ?_
    refine a_anyV (as := []) (q := 209) dX11_ask_17 mvX11_448 ⟨by decide, by decide⟩ (L209 L) rfl rfl rfl (Nat.le_of_ble_eq_true rfl) ⟨rfl, rfl⟩ ⟨by decide, by decide⟩ (m_X11_whoseBits hP hvt.2.1.1.1 (hnt.1.nri hn)) (fun x9 M1 hM1 => ?_)
    have hr1 := hnt.tr (q240_rn hvt hM1.1)
    have hv1 := hr1.rv hv
    refine c_istoren (ls' := [_, _, _, _, _]) dX11_ask_20 (by decide) rfl rfl ?_
    refine a_iconst dX11_ask_21 ?_
    refine c_istoren (ls' := [_, _, _, _, _]) dX11_ask_22 (by decide) rfl rfl ?_
    refine a_iconst dX11_ask_23 ?_
    refine c_istore (ls' := [_, _, _, _, _]) dX11_ask_24 (by decide) rfl rfl ?_
    refine AW.mono2 (lpX11_ask hP hv1.2.1.1.1 (w := w) (wh := x9) rw 23 1 0 (by omega) (by omega) (by omega)) ?_
    rintro r lay P' M' ⟨z1, z2, rfl, x, z3, z4⟩
    refine ⟨z1, z2, x, z3, hr1, Or.inr ⟨by omega, ?_⟩⟩
    rw [z4, hr1.1.ma, hM1.2, hnt.1.wh]
  · refine a_iconst dX11_ask_14 ?_
    exact a_ireturn dX11_ask_15 rfl rfl rfl (zany_i ⟨hnt, Or.inl ⟨by omega, rfl⟩⟩)
