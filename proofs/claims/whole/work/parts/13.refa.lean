/-- the reference's text: its numbers are within their ranges -/
def TxI (M : zM) : Prop := (0 ≤ M 209 12 ∧ M 209 12 ≤ 6) ∧ (0 ≤ M 209 13 ∧ M 209 13 ≤ 10) ∧ (0 ≤ M 209 14 ∧ M 209 14 ≤ 12) ∧
  (∀ i : Int, 0 ≤ i → i < 6 → 0 ≤ M 215 i ∧ M 215 i ≤ 99) ∧ (∀ i : Int, 0 ≤ i → i < 6 → 0 ≤ M 216 i ∧ M 216 i ≤ 9) ∧
  (∀ i : Int, 0 ≤ i → i < 10 → (0 ≤ M 217 i ∧ M 217 i ≤ 5) ∧ (0 ≤ M 218 i ∧ M 218 i ≤ 99) ∧ (0 ≤ M 219 i ∧ M 219 i ≤ 99)) ∧
  (∀ i : Int, 0 ≤ i → i < 12 → (0 ≤ M 220 i ∧ M 220 i ≤ 5) ∧ (0 ≤ M 221 i ∧ M 221 i ≤ 99) ∧ (0 ≤ M 222 i ∧ M 222 i ≤ 9)) ∧
  (0 ≤ M 213 0 ∧ M 213 0 ≤ 20) ∧ (1 ≤ M 213 1 ∧ M 213 1 ≤ 9) ∧ (0 ≤ M 213 2 ∧ M 213 2 ≤ 100) ∧ (0 ≤ M 213 3 ∧ M 213 3 ≤ 99999)
/-- the reference's state b: its numbers are within their ranges -/
def SmI (M : zM) (b : Int) : Prop := (∀ i : Int, 0 ≤ i → i < 6 → 0 ≤ M 233 (6 * b + i) ∧ M 233 (6 * b + i) ≤ 99) ∧ (∀ i : Int, 0 ≤ i → i < 6 → 0 ≤ M 234 (6 * b + i) ∧ M 234 (6 * b + i) ≤ 9) ∧ (∀ i : Int, 0 ≤ i → i < 36 → 0 ≤ M 236 (36 * b + i) ∧ M 236 (36 * b + i) ≤ 999) ∧ (0 ≤ M 238 b ∧ M 238 b ≤ 9999)
theorem zsnd_inr {M : zM} (h x : Int) (hI : TxI M) : ∀ (n : Nat) (i : Int), 0 ≤ i → i + n ≤ 12 → 0 ≤ zsnd (M 220) (M 221) (M 222) h x n i ∧ zsnd (M 220) (M 221) (M 222) h x n i ≤ 9
  | 0, i, _, _ => by simp only [zsnd]; omega
  | n + 1, i, h0, h1 => by
    simp only [zsnd]
    split
    · have q := hI.2.2.2.2.2.2.1 i h0 (by omega)
      omega
    · exact zsnd_inr h x hI n (i + 1) (by omega) (by omega)

set_option maxRecDepth 100000 in
set_option maxHeartbeats 4000000 in
theorem m_X11_isIn {G : zG} {l : Launch} {L : Nat} {P : zP} {M : zM} {x lo hi : Int} (hx : inR x) (hlo : inR lo) (hhi : inR hi) : AM G l yX11_isIn mdX11_isIn [aI x, aI lo, aI hi] (LAY L) P M (zdet (some (aI (if lo ≤ x ∧ x ≤ hi then 1 else 0))) (LAY L) P M) := by
  refine AM.go [some (aI x), some (aI lo), some (aI hi)] rfl (Nat.le_of_ble_eq_true rfl) ?_ (by decide) rfl rfl
  refine a_iloadn dX11_isIn_0 rfl ?_
  refine a_iloadn dX11_isIn_1 rfl ?_
  refine a_icmp_lt (tgt := 14) dX11_isIn_2 (by decide) ⟨by omega, by omega⟩ ⟨by omega, by omega⟩ (fun hb2 => ?_) (fun hb2 => ?_)
  · refine a_iconst dX11_isIn_14 ?_
    exact a_zreturn dX11_isIn_15 rfl rfl rfl (by omega) (zdet_I (by first | (rw [if_pos (by omega)]; done) | (rw [if_neg (by omega)]; done)) rfl)
  · refine a_iloadn dX11_isIn_5 rfl ?_
    refine a_iloadn dX11_isIn_6 rfl ?_
    refine a_icmp_gt (tgt := 14) dX11_isIn_7 (by decide) ⟨by omega, by omega⟩ ⟨by omega, by omega⟩ (fun hb7 => ?_) (fun hb7 => ?_)
    · refine a_iconst dX11_isIn_14 ?_
      exact a_zreturn dX11_isIn_15 rfl rfl rfl (by omega) (zdet_I (by first | (rw [if_pos (by omega)]; done) | (rw [if_neg (by omega)]; done)) rfl)
    · refine a_iconst dX11_isIn_10 ?_
      refine a_goto (tgt := 15) dX11_isIn_11 (by decide) ?_
      exact a_zreturn dX11_isIn_15 rfl rfl rfl (by omega) (zdet_I (by first | (rw [if_pos (by omega)]; done) | (rw [if_neg (by omega)]; done)) rfl)

set_option maxRecDepth 100000 in
set_option maxHeartbeats 4000000 in
theorem m_X11_isOf {G : zG} {l : Launch} {L : Nat} {P : zP} {M : zM} {x h : Int}  : AM G l yX11_isOf mdX11_isOf [aI x, aI h] (LAY L) P M (zdet (some (aI (kbit x h))) (LAY L) P M) := by
  refine AM.go [some (aI x), some (aI h)] rfl (Nat.le_of_ble_eq_true rfl) ?_ (by decide) rfl rfl
  refine a_iloadn dX11_isOf_0 rfl ?_
  refine a_iloadn dX11_isOf_1 rfl ?_
  refine a_ishr dX11_isOf_2 ?_
  refine a_iconst dX11_isOf_3 ?_
  refine a_iand dX11_isOf_4 ?_
  refine a_iconst dX11_isOf_5 ?_
  refine a_icmp_ne (tgt := 13) dX11_isOf_6 (by decide) (ir _) ⟨by omega, by omega⟩ (fun hb6 => ?_) (fun hb6 => ?_)
  · refine a_iconst dX11_isOf_13 ?_
    exact a_zreturn dX11_isOf_14 rfl rfl rfl (by omega) (zdet_I (by unfold kbit; first | (rw [if_pos hb6]; done) | (rw [if_neg hb6]; done)) rfl)
  · refine a_iconst dX11_isOf_9 ?_
    refine a_goto (tgt := 14) dX11_isOf_10 (by decide) ?_
    exact a_zreturn dX11_isOf_14 rfl rfl rfl (by omega) (zdet_I (by unfold kbit; first | (rw [if_pos hb6]; done) | (rw [if_neg hb6]; done)) rfl)

set_option maxRecDepth 100000 in
set_option maxHeartbeats 4000000 in
theorem m_X11_wrong {G : zG} {l : Launch} {L : Nat} {P : zP} {M : zM} {x : Int} (hx : inR x) : AM G l yX11_wrong mdX11_wrong [aR 209, aI x] (LAY L) P M (zdet (some (aI 0)) (LAY L) P (sm (sm M 209 4 x) 209 5 (M 209 10))) := by
  refine AM.go [some (aR 209), some (aI x)] rfl (Nat.le_of_ble_eq_true rfl) ?_ (by decide) rfl rfl
  refine a_aloadn dX11_wrong_0 rfl ?_
  refine a_iloadn dX11_wrong_1 rfl ?_
  refine a_putI (j' := 4) dX11_wrong_2 flX11_130 rfl rfl (L209 L) (by decide) rfl ⟨by omega, by omega⟩ ?_
  refine a_aloadn dX11_wrong_5 rfl ?_
  refine a_aloadn dX11_wrong_6 rfl ?_
  refine b_getI (j' := 10) dX11_wrong_7 flX11_133 rfl rfl (L209 L) (fun hr7 => ?_)
  refine a_putI (j' := 5) dX11_wrong_10 flX11_16 rfl rfl (L209 L) (by decide) rfl (by rw [sm_k, us_n (by decide)] at hr7; rw [sm_k, us_n (by decide)]; exact hr7) ?_
  refine a_iconst dX11_wrong_13 ?_
  exact a_zreturn dX11_wrong_14 rfl rfl rfl (by omega) (zdet_I rfl (by rw [show sm M 209 4 x 209 10 = M 209 10 from by rw [sm_k, us_n (by decide)]]))

set_option maxRecDepth 100000 in
set_option maxHeartbeats 4000000 in
theorem m_X11_isKey {G : zG} {l : Launch} {L : Nat} {P : zP} {M : zM} {x : Int} (hx : inR x) : AM G l yX11_isKey mdX11_isKey [aR 209, aI x] (LAY L) P M (zdet (some (aI (if M 209 8 = 1 ∧ M 209 9 = x then 1 else 0))) (LAY L) P M) := by
  refine AM.go [some (aR 209), some (aI x)] rfl (Nat.le_of_ble_eq_true rfl) ?_ (by decide) rfl rfl
  refine a_aloadn dX11_isKey_0 rfl ?_
  refine b_getI (j' := 8) dX11_isKey_1 flX11_142 rfl rfl (L209 L) (fun hr1 => ?_)
  refine a_iconst dX11_isKey_4 ?_
  refine a_icmp_ne (tgt := 20) dX11_isKey_5 (by decide) ⟨by omega, by omega⟩ ⟨by omega, by omega⟩ (fun hb5 => ?_) (fun hb5 => ?_)
  · refine a_iconst dX11_isKey_20 ?_
    exact a_zreturn dX11_isKey_21 rfl rfl rfl (by omega) (zdet_I (by first | (rw [if_pos (by omega)]; done) | (rw [if_neg (by omega)]; done)) rfl)
  · refine a_aloadn dX11_isKey_8 rfl ?_
    refine b_getI (j' := 9) dX11_isKey_9 flX11_153 rfl rfl (L209 L) (fun hr9 => ?_)
    refine a_iloadn dX11_isKey_12 rfl ?_
    refine a_icmp_ne (tgt := 20) dX11_isKey_13 (by decide) ⟨by omega, by omega⟩ ⟨by omega, by omega⟩ (fun hb13 => ?_) (fun hb13 => ?_)
    · refine a_iconst dX11_isKey_20 ?_
      exact a_zreturn dX11_isKey_21 rfl rfl rfl (by omega) (zdet_I (by first | (rw [if_pos (by omega)]; done) | (rw [if_neg (by omega)]; done)) rfl)
    · refine a_iconst dX11_isKey_16 ?_
      refine a_goto (tgt := 21) dX11_isKey_17 (by decide) ?_
      exact a_zreturn dX11_isKey_21 rfl rfl rfl (by omega) (zdet_I (by first | (rw [if_pos (by omega)]; done) | (rw [if_neg (by omega)]; done)) rfl)

set_option maxRecDepth 100000 in
set_option maxHeartbeats 4000000 in
theorem m_X11_isSign {G : zG} {l : Launch} {L : Nat} {P : zP} {M : zM} {x : Int} (hx : inR x) : AM G l yX11_isSign mdX11_isSign [aR 209, aI x] (LAY L) P M (zdet (some (aI (if M 209 8 = 4 ∧ M 209 9 = x then 1 else 0))) (LAY L) P M) := by
  refine AM.go [some (aR 209), some (aI x)] rfl (Nat.le_of_ble_eq_true rfl) ?_ (by decide) rfl rfl
  refine a_aloadn dX11_isSign_0 rfl ?_
  refine b_getI (j' := 8) dX11_isSign_1 flX11_142 rfl rfl (L209 L) (fun hr1 => ?_)
  refine a_iconst dX11_isSign_4 ?_
  refine a_icmp_ne (tgt := 20) dX11_isSign_5 (by decide) ⟨by omega, by omega⟩ ⟨by omega, by omega⟩ (fun hb5 => ?_) (fun hb5 => ?_)
  · refine a_iconst dX11_isSign_20 ?_
    exact a_zreturn dX11_isSign_21 rfl rfl rfl (by omega) (zdet_I (by first | (rw [if_pos (by omega)]; done) | (rw [if_neg (by omega)]; done)) rfl)
  · refine a_aloadn dX11_isSign_8 rfl ?_
    refine b_getI (j' := 9) dX11_isSign_9 flX11_153 rfl rfl (L209 L) (fun hr9 => ?_)
    refine a_iloadn dX11_isSign_12 rfl ?_
    refine a_icmp_ne (tgt := 20) dX11_isSign_13 (by decide) ⟨by omega, by omega⟩ ⟨by omega, by omega⟩ (fun hb13 => ?_) (fun hb13 => ?_)
    · refine a_iconst dX11_isSign_20 ?_
      exact a_zreturn dX11_isSign_21 rfl rfl rfl (by omega) (zdet_I (by first | (rw [if_pos (by omega)]; done) | (rw [if_neg (by omega)]; done)) rfl)
    · refine a_iconst dX11_isSign_16 ?_
      refine a_goto (tgt := 21) dX11_isSign_17 (by decide) ?_
      exact a_zreturn dX11_isSign_21 rfl rfl rfl (by omega) (zdet_I (by first | (rw [if_pos (by omega)]; done) | (rw [if_neg (by omega)]; done)) rfl)

set_option maxRecDepth 100000 in
set_option maxHeartbeats 4000000 in
theorem m_X11_isHouse {G : zG} {l : Launch} {L : Nat} {P : zP} {M : zM} {x : Int} (hx : inR x) : AM G l yX11_isHouse mdX11_isHouse [aR 209, aI x] (LAY L) P M (zdet (some (aI (if 0 ≤ x ∧ x < M 209 12 then 1 else 0))) (LAY L) P M) := by
  refine AM.go [some (aR 209), some (aI x)] rfl (Nat.le_of_ble_eq_true rfl) ?_ (by decide) rfl rfl
  refine a_iloadn dX11_isHouse_0 rfl ?_
  refine a_if_lt (tgt := 16) dX11_isHouse_1 (by decide) ⟨by omega, by omega⟩ (fun hb1 => ?_) (fun hb1 => ?_)
  · refine a_iconst dX11_isHouse_16 ?_
    exact a_zreturn dX11_isHouse_17 rfl rfl rfl (by omega) (zdet_I (by first | (rw [if_pos (by omega)]; done) | (rw [if_neg (by omega)]; done)) rfl)
  · refine a_iloadn dX11_isHouse_4 rfl ?_
    refine a_aloadn dX11_isHouse_5 rfl ?_
    refine b_getI (j' := 12) dX11_isHouse_6 flX11_201 rfl rfl (L209 L) (fun hr6 => ?_)
    refine a_icmp_ge (tgt := 16) dX11_isHouse_9 (by decide) ⟨by omega, by omega⟩ ⟨by omega, by omega⟩ (fun hb9 => ?_) (fun hb9 => ?_)
    · refine a_iconst dX11_isHouse_16 ?_
      exact a_zreturn dX11_isHouse_17 rfl rfl rfl (by omega) (zdet_I (by first | (rw [if_pos (by omega)]; done) | (rw [if_neg (by omega)]; done)) rfl)
    · refine a_iconst dX11_isHouse_12 ?_
      refine a_goto (tgt := 17) dX11_isHouse_13 (by decide) ?_
      exact a_zreturn dX11_isHouse_17 rfl rfl rfl (by omega) (zdet_I (by first | (rw [if_pos (by omega)]; done) | (rw [if_neg (by omega)]; done)) rfl)

set_option maxRecDepth 100000 in
set_option maxHeartbeats 4000000 in
theorem m_X11_areTwo {G : zG} {l : Launch} {L : Nat} {P : zP} {M : zM} {x y : Int} (hx : inR x) (hy : inR y) : AM G l yX11_areTwo mdX11_areTwo [aR 209, aI x, aI y] (LAY L) P M (zdet (some (aI (if (0 ≤ x ∧ x < M 209 12) ∧ (0 ≤ y ∧ y < M 209 12) ∧ x ≠ y then 1 else 0))) (LAY L) P M) := by
  refine AM.go [some (aR 209), some (aI x), some (aI y)] rfl (Nat.le_of_ble_eq_true rfl) ?_ (by decide) rfl rfl
  refine a_aloadn dX11_areTwo_0 rfl ?_
  refine a_iloadn dX11_areTwo_1 rfl ?_
  refine a_callV (as := [_]) (q := 209) dX11_areTwo_2 mvX11_352 ⟨by decide, by decide⟩ (L209 L) rfl rfl rfl (Nat.le_of_ble_eq_true rfl) ⟨rfl, rfl⟩ ⟨by decide, by decide⟩ (m_X11_isHouse hx) ?_
  refine a_if_eq (tgt := 25) dX11_areTwo_5 (by decide) (by split <;> exact ⟨by omega, by omega⟩) (fun hb5 => ?_) (fun hb5 => ?_)
  · refine a_iconst dX11_areTwo_25 ?_
    exact a_zreturn dX11_areTwo_26 rfl rfl rfl (by omega) (zdet_I (by first | (rw [if_pos ⟨by split at hb5 <;> omega, by split at hb13 <;> omega, hb18⟩]; done) | (rw [if_neg (by rintro ⟨g1, g2, g3⟩; first | (exact g3 hb18) | (rw [if_pos g2] at hb13; omega) | (rw [if_pos g1] at hb5; omega))]; done)) rfl)
  · refine a_aloadn dX11_areTwo_8 rfl ?_
    refine a_iloadn dX11_areTwo_9 rfl ?_
    refine a_callV (as := [_]) (q := 209) dX11_areTwo_10 mvX11_352 ⟨by decide, by decide⟩ (L209 L) rfl rfl rfl (Nat.le_of_ble_eq_true rfl) ⟨rfl, rfl⟩ ⟨by decide, by decide⟩ (m_X11_isHouse hy) ?_
    refine a_if_eq (tgt := 25) dX11_areTwo_13 (by decide) (by split <;> exact ⟨by omega, by omega⟩) (fun hb13 => ?_) (fun hb13 => ?_)
    · refine a_iconst dX11_areTwo_25 ?_
      exact a_zreturn dX11_areTwo_26 rfl rfl rfl (by omega) (zdet_I (by first | (rw [if_pos ⟨by split at hb5 <;> omega, by split at hb13 <;> omega, hb18⟩]; done) | (rw [if_neg (by rintro ⟨g1, g2, g3⟩; first | (exact g3 hb18) | (rw [if_pos g2] at hb13; omega) | (rw [if_pos g1] at hb5; omega))]; done)) rfl)
    · refine a_iloadn dX11_areTwo_16 rfl ?_
      refine a_iloadn dX11_areTwo_17 rfl ?_
      refine a_icmp_eq (tgt := 25) dX11_areTwo_18 (by decide) ⟨by omega, by omega⟩ ⟨by omega, by omega⟩ (fun hb18 => ?_) (fun hb18 => ?_)
      · refine a_iconst dX11_areTwo_25 ?_
        exact a_zreturn dX11_areTwo_26 rfl rfl rfl (by omega) (zdet_I (by first | (rw [if_pos ⟨by split at hb5 <;> omega, by split at hb13 <;> omega, hb18⟩]; done) | (rw [if_neg (by rintro ⟨g1, g2, g3⟩; first | (exact g3 hb18) | (rw [if_pos g2] at hb13; omega) | (rw [if_pos g1] at hb5; omega))]; done)) rfl)
      · refine a_iconst dX11_areTwo_21 ?_
        refine a_goto (tgt := 26) dX11_areTwo_22 (by decide) ?_
        exact a_zreturn dX11_areTwo_26 rfl rfl rfl (by omega) (zdet_I (by first | (rw [if_pos ⟨by split at hb5 <;> omega, by split at hb13 <;> omega, hb18⟩]; done) | (rw [if_neg (by rintro ⟨g1, g2, g3⟩; first | (exact g3 hb18) | (rw [if_pos g2] at hb13; omega) | (rw [if_pos g1] at hb5; omega))]; done)) rfl)

set_option maxRecDepth 100000 in
set_option maxHeartbeats 4000000 in
theorem m_X11_apart {G : zG} {l : Launch} {L : Nat} {P : zP} {M : zM} {x y : Int} (hx : inR x) (hy : inR y) : AM G l yX11_apart mdX11_apart [aI x, aI y] (LAY L) P M (zdet (some (aI (iabs (x - y)))) (LAY L) P M) := by
  refine AM.go [some (aI x), some (aI y)] rfl (Nat.le_of_ble_eq_true rfl) ?_ (by decide) rfl rfl
  refine a_iloadn dX11_apart_0 rfl ?_
  refine a_iloadn dX11_apart_1 rfl ?_
  refine a_icmp_le (tgt := 11) dX11_apart_2 (by decide) ⟨by omega, by omega⟩ ⟨by omega, by omega⟩ (fun hb2 => ?_) (fun hb2 => ?_)
  · refine a_iloadn dX11_apart_11 rfl ?_
    refine a_iloadn dX11_apart_12 rfl ?_
    refine a_isub dX11_apart_13 ?_
    exact a_ireturn dX11_apart_14 rfl rfl rfl (zdet_I (by unfold iabs; split <;> omega) rfl)
  · refine a_iloadn dX11_apart_5 rfl ?_
    refine a_iloadn dX11_apart_6 rfl ?_
    refine a_isub dX11_apart_7 ?_
    refine a_goto (tgt := 14) dX11_apart_8 (by decide) ?_
    exact a_ireturn dX11_apart_14 rfl rfl rfl (zdet_I (by unfold iabs; split <;> omega) rfl)

set_option maxRecDepth 100000 in
set_option maxHeartbeats 4000000 in
theorem lpX11_find {G : zG} {l : Launch} {L : Nat} {P : zP} {M : zM} {q N : Nat} {f nn x : Int} (hq : (LAY L)[q]? = some (.inl (0, N))) (hN : N < 2147483648) (hf : 0 ≤ f ∧ f + nn ≤ N ∧ f ≤ 1000) (hnn : nn ≤ 1000) (hx : inR x) : ∀ (n : Nat) (i : Int) (h0 : 0 ≤ i) (h1 : i + n = nn), AW G l mdX11_find (zdet (some (aI (zfind (fun j => M q (f + j)) x n i))) (LAY L) P M) 3 [some (aR q), some (aI f), some (aI nn), some (aI x), some (aI i)] [] (LAY L) P M 0 0 := by
  intro n
  induction n with
  | zero =>
    intro i h0 h1 
    refine a_iload dX11_find_3 rfl ?_
    refine a_iloadn dX11_find_5 rfl ?_
    refine a_icmp_ge (tgt := 28) dX11_find_6 (by decide) ⟨by omega, by omega⟩ ⟨by omega, by omega⟩ (fun hb6 => ?_) (fun hb6 => ?_)
    · refine a_iconst dX11_find_28 ?_
      exact a_ireturn dX11_find_29 rfl rfl rfl (zdet_I (by first | rfl | omega) rfl)
    · exfalso; omega
  | succ n ih =>
    intro i h0 h1 
    refine a_iload dX11_find_3 rfl ?_
    refine a_iloadn dX11_find_5 rfl ?_
    refine a_icmp_ge (tgt := 28) dX11_find_6 (by decide) ⟨by omega, by omega⟩ ⟨by omega, by omega⟩ (fun hb6 => ?_) (fun hb6 => ?_)
    · exfalso; omega
    · refine a_aloadn dX11_find_9 rfl ?_
      refine a_iloadn dX11_find_10 rfl ?_
      refine a_iload dX11_find_11 rfl ?_
      refine a_iadd dX11_find_13 ?_
      refine b_iald (N := N) dX11_find_14 hq hN (by omega) (by omega) (fun hr14 => ?_)
      refine a_iloadn dX11_find_15 rfl ?_
      refine a_icmp_ne (tgt := 22) dX11_find_16 (by decide) hr14 hx (fun hb16 => ?_) (fun hb16 => ?_)
      · refine c_iinc (ls' := [_, _, _, _, _]) dX11_find_22 rfl (by decide) rfl rfl ?_
        refine a_goto (tgt := 3) dX11_find_25 (by decide) ?_
        simp only [zfind]
        rw [if_neg (by omega)]
        exact ih _ (by omega) (by omega)
      · refine a_iload dX11_find_19 rfl ?_
        exact a_ireturn dX11_find_21 rfl rfl rfl (zdet_I (by simp only [zfind]; rw [if_pos (by omega)]) rfl)

set_option maxRecDepth 100000 in
set_option maxHeartbeats 4000000 in
theorem m_X11_find {G : zG} {l : Launch} {L : Nat} {P : zP} {M : zM} {q N : Nat} {f nn x : Int} (hq : (LAY L)[q]? = some (.inl (0, N))) (hN : N < 2147483648) (hf : 0 ≤ f ∧ f + nn ≤ N ∧ f ≤ 1000) (hnn : 0 ≤ nn ∧ nn ≤ 1000) (hx : inR x) : AM G l yX11_find mdX11_find [aR q, aI f, aI nn, aI x] (LAY L) P M (zdet (some (aI (zfind (fun j => M q (f + j)) x nn.toNat 0))) (LAY L) P M) := by
  refine AM.go [some (aR q), some (aI f), some (aI nn), some (aI x), none] rfl (Nat.le_of_ble_eq_true rfl) ?_ (by decide) rfl rfl
  refine a_iconst dX11_find_0 ?_
  refine c_istore (ls' := [_, _, _, _, _]) dX11_find_1 (by decide) rfl rfl ?_
  exact lpX11_find hq hN hf hnn.2 hx _ 0 (by omega) (by omega)

set_option maxRecDepth 100000 in
set_option maxHeartbeats 4000000 in
theorem lpX11_soundAt {G : zG} {l : Launch} {L : Nat} {P : zP} {M : zM} {h x : Int} (hP : PFok P) (hI : TxI M) (hh : inR h) (hx : inR x) : ∀ (n : Nat) (i : Int) (h0 : 0 ≤ i) (h1 : i + n = M 209 14), AW G l mdX11_soundAt (zdet (some (aI (zsnd (M 220) (M 221) (M 222) h x n i))) (LAY L) P M) 2 [some (aR 209), some (aI h), some (aI x), some (aI i)] [] (LAY L) P M 0 0 := by
  intro n
  induction n with
  | zero =>
    intro i h0 h1 
    refine a_iloadn dX11_soundAt_2 rfl ?_
    refine a_aloadn dX11_soundAt_3 rfl ?_
    refine b_getI (j' := 14) dX11_soundAt_4 flX11_207 rfl rfl (L209 L) (fun hr4 => ?_)
    have q1 := hI.2.2.1
    refine a_icmp_ge (tgt := 43) dX11_soundAt_7 (by decide) ⟨by omega, by omega⟩ hr4 (fun hb7 => ?_) (fun hb7 => ?_)
    · refine a_iconst dX11_soundAt_43 ?_
      exact a_ireturn dX11_soundAt_44 rfl rfl rfl (zdet_I (by first | rfl | omega) rfl)
    · exfalso; omega
  | succ n ih =>
    intro i h0 h1 
    refine a_iloadn dX11_soundAt_2 rfl ?_
    refine a_aloadn dX11_soundAt_3 rfl ?_
    refine b_getI (j' := 14) dX11_soundAt_4 flX11_207 rfl rfl (L209 L) (fun hr4 => ?_)
    have q1 := hI.2.2.1
    refine a_icmp_ge (tgt := 43) dX11_soundAt_7 (by decide) ⟨by omega, by omega⟩ hr4 (fun hb7 => ?_) (fun hb7 => ?_)
    · exfalso; omega
    · refine a_aloadn dX11_soundAt_10 rfl ?_
      refine a_getR (j' := 28) (y := 220) dX11_soundAt_11 flX11_45 rfl rfl (L209 L) (p209_28 hP) ?_
      refine a_iloadn dX11_soundAt_14 rfl ?_
      refine b_iald (N := 24) dX11_soundAt_15 (L220 L) (by decide) (by omega) (by omega) (fun hr15 => ?_)
      refine a_iloadn dX11_soundAt_16 rfl ?_
      refine a_icmp_ne (tgt := 37) dX11_soundAt_17 (by decide) hr15 hh (fun hb17 => ?_) (fun hb17 => ?_)
      · refine c_iinc (ls' := [_, _, _, _]) dX11_soundAt_37 rfl (by decide) rfl rfl ?_
        refine a_goto (tgt := 2) dX11_soundAt_40 (by decide) ?_
        simp only [zsnd]
        rw [if_neg (by omega)]
        exact ih _ (by omega) (by omega)
      · refine a_aloadn dX11_soundAt_20 rfl ?_
        refine a_getR (j' := 29) (y := 221) dX11_soundAt_21 flX11_48 rfl rfl (L209 L) (p209_29 hP) ?_
        refine a_iloadn dX11_soundAt_24 rfl ?_
        refine b_iald (N := 24) dX11_soundAt_25 (L221 L) (by decide) (by omega) (by omega) (fun hr25 => ?_)
        refine a_iloadn dX11_soundAt_26 rfl ?_
        refine a_icmp_ne (tgt := 37) dX11_soundAt_27 (by decide) hr25 hx (fun hb27 => ?_) (fun hb27 => ?_)
        · refine c_iinc (ls' := [_, _, _, _]) dX11_soundAt_37 rfl (by decide) rfl rfl ?_
          refine a_goto (tgt := 2) dX11_soundAt_40 (by decide) ?_
          simp only [zsnd]
          rw [if_neg (by omega)]
          exact ih _ (by omega) (by omega)
        · refine a_aloadn dX11_soundAt_30 rfl ?_
          refine a_getR (j' := 30) (y := 222) dX11_soundAt_31 flX11_51 rfl rfl (L209 L) (p209_30 hP) ?_
          refine a_iloadn dX11_soundAt_34 rfl ?_
          refine b_iald (N := 24) dX11_soundAt_35 (L222 L) (by decide) (by omega) (by omega) (fun hr35 => ?_)
          exact a_ireturn dX11_soundAt_36 rfl rfl rfl (zdet_I (by simp only [zsnd]; rw [if_pos (by omega)]) rfl)

set_option maxRecDepth 100000 in
set_option maxHeartbeats 4000000 in
theorem m_X11_soundAt {G : zG} {l : Launch} {L : Nat} {P : zP} {M : zM} {h x : Int} (hP : PFok P) (hI : TxI M) (hh : inR h) (hx : inR x) : AM G l yX11_soundAt mdX11_soundAt [aR 209, aI h, aI x] (LAY L) P M (zdet (some (aI (zsnd (M 220) (M 221) (M 222) h x (M 209 14).toNat 0))) (LAY L) P M) := by
  have q1 := hI.2.2.1
  refine AM.go [some (aR 209), some (aI h), some (aI x), none] rfl (Nat.le_of_ble_eq_true rfl) ?_ (by decide) rfl rfl
  refine a_iconst dX11_soundAt_0 ?_
  refine c_istoren (ls' := [_, _, _, _]) dX11_soundAt_1 (by decide) rfl rfl ?_
  exact lpX11_soundAt hP hI hh hx _ 0 (by omega) (by omega)

set_option maxRecDepth 100000 in
set_option maxHeartbeats 4000000 in
theorem lpX11_knowsMany {G : zG} {l : Launch} {L : Nat} {P : zP} {M : zM} {b h : Int} (hP : PFok P) (hI : TxI M) (hb : b = 0 ∨ b = 1) (hh : 0 ≤ h ∧ h < 6) : ∀ (n : Nat) (i acc : Int) (h0 : 0 ≤ i) (h1 : i + n = M 209 12), AW G l mdX11_knowsMany (zdet (some (aI (zsm (fun j => if M 237 (36 * b + 6 * h + j) = 0 then 0 else 1) n i acc))) (LAY L) P M) 5 [some (aR 209), some (aI b), some (aI h), some (aI acc), some (aI i)] [] (LAY L) P M 0 0 := by
  intro n
  induction n with
  | zero =>
    intro i acc h0 h1 
    refine a_iload dX11_knowsMany_5 rfl ?_
    refine a_aloadn dX11_knowsMany_7 rfl ?_
    refine b_getI (j' := 12) dX11_knowsMany_8 flX11_201 rfl rfl (L209 L) (fun hr8 => ?_)
    have q1 := hI.1
    refine a_icmp_ge (tgt := 48) dX11_knowsMany_11 (by decide) ⟨by omega, by omega⟩ hr8 (fun hb11 => ?_) (fun hb11 => ?_)
    · refine a_iloadn dX11_knowsMany_48 rfl ?_
      exact a_ireturn dX11_knowsMany_49 rfl rfl rfl (zdet_I (by first | rfl | omega) rfl)
    · exfalso; omega
  | succ n ih =>
    intro i acc h0 h1 
    refine a_iload dX11_knowsMany_5 rfl ?_
    refine a_aloadn dX11_knowsMany_7 rfl ?_
    refine b_getI (j' := 12) dX11_knowsMany_8 flX11_201 rfl rfl (L209 L) (fun hr8 => ?_)
    have q1 := hI.1
    refine a_icmp_ge (tgt := 48) dX11_knowsMany_11 (by decide) ⟨by omega, by omega⟩ hr8 (fun hb11 => ?_) (fun hb11 => ?_)
    · exfalso; omega
    · refine a_iloadn dX11_knowsMany_14 rfl ?_
      refine a_aloadn dX11_knowsMany_15 rfl ?_
      refine a_getR (j' := 52) (y := 237) dX11_knowsMany_16 flX11_97 rfl rfl (L209 L) (p209_52 hP) ?_
      refine a_bipush (w := 36) dX11_knowsMany_19 (by decide) ?_
      refine a_iloadn dX11_knowsMany_21 rfl ?_
      refine a_imul dX11_knowsMany_22 ?_
      refine a_bipush (w := 6) dX11_knowsMany_23 (by decide) ?_
      refine a_iloadn dX11_knowsMany_25 rfl ?_
      refine a_imul dX11_knowsMany_26 ?_
      refine a_iadd dX11_knowsMany_27 ?_
      refine a_iload dX11_knowsMany_28 rfl ?_
      refine a_iadd dX11_knowsMany_30 ?_
      refine b_zald (N := 72) dX11_knowsMany_31 (L237 L) (by decide) (by omega) (by omega) (fun hr31 => ?_)
      refine a_if_eq (tgt := 39) dX11_knowsMany_32 (by decide) ⟨by omega, by omega⟩ (fun hb32 => ?_) (fun hb32 => ?_)
      · refine a_iconst dX11_knowsMany_39 ?_
        refine a_iadd dX11_knowsMany_40 ?_
        refine c_istoren (ls' := [_, _, _, _, _]) dX11_knowsMany_41 (by decide) rfl rfl ?_
        refine c_iinc (ls' := [_, _, _, _, _]) dX11_knowsMany_42 rfl (by decide) rfl rfl ?_
        refine a_goto (tgt := 5) dX11_knowsMany_45 (by decide) ?_
        simp only [zsm]
        first
        | (rw [if_pos (by omega)]; exact ih _ _ (by omega) (by omega))
        | (rw [if_neg (by omega)]; exact ih _ _ (by omega) (by omega))
      · refine a_iconst dX11_knowsMany_35 ?_
        refine a_goto (tgt := 40) dX11_knowsMany_36 (by decide) ?_
        refine a_iadd dX11_knowsMany_40 ?_
        refine c_istoren (ls' := [_, _, _, _, _]) dX11_knowsMany_41 (by decide) rfl rfl ?_
        refine c_iinc (ls' := [_, _, _, _, _]) dX11_knowsMany_42 rfl (by decide) rfl rfl ?_
        refine a_goto (tgt := 5) dX11_knowsMany_45 (by decide) ?_
        simp only [zsm]
        first
        | (rw [if_pos (by omega)]; exact ih _ _ (by omega) (by omega))
        | (rw [if_neg (by omega)]; exact ih _ _ (by omega) (by omega))

set_option maxRecDepth 100000 in
set_option maxHeartbeats 4000000 in
theorem m_X11_knowsMany {G : zG} {l : Launch} {L : Nat} {P : zP} {M : zM} {b h : Int} (hP : PFok P) (hI : TxI M) (hb : b = 0 ∨ b = 1) (hh : 0 ≤ h ∧ h < 6) : AM G l yX11_knowsMany mdX11_knowsMany [aR 209, aI b, aI h] (LAY L) P M (zdet (some (aI (zsm (fun j => if M 237 (36 * b + 6 * h + j) = 0 then 0 else 1) (M 209 12).toNat 0 0))) (LAY L) P M) := by
  have q1 := hI.1
  refine AM.go [some (aR 209), some (aI b), some (aI h), none, none] rfl (Nat.le_of_ble_eq_true rfl) ?_ (by decide) rfl rfl
  refine a_iconst dX11_knowsMany_0 ?_
  refine c_istoren (ls' := [_, _, _, _, _]) dX11_knowsMany_1 (by decide) rfl rfl ?_
  refine a_iconst dX11_knowsMany_2 ?_
  refine c_istore (ls' := [_, _, _, _, _]) dX11_knowsMany_3 (by decide) rfl rfl ?_
  exact lpX11_knowsMany hP hI hb hh _ 0 0 (by omega) (by omega)

set_option maxRecDepth 100000 in
set_option maxHeartbeats 4000000 in
theorem lpX11_pairs {G : zG} {l : Launch} {L : Nat} {P : zP} {M : zM} {b : Int} (hP : PFok P) (hI : TxI M) (hb : b = 0 ∨ b = 1) : ∀ (n : Nat) (i acc : Int) (h0 : 0 ≤ i) (h1 : i + n = M 209 12), AW G l mdX11_pairs (zdet (some (aI (zsm (fun h => zsm (fun j => if M 237 (36 * b + 6 * h + j) = 0 then 0 else 1) (M 209 12).toNat 0 0) n i acc))) (LAY L) P M) 4 [some (aR 209), some (aI b), some (aI acc), some (aI i)] [] (LAY L) P M 0 0 := by
  intro n
  induction n with
  | zero =>
    intro i acc h0 h1 
    refine a_iloadn dX11_pairs_4 rfl ?_
    refine a_aloadn dX11_pairs_5 rfl ?_
    refine b_getI (j' := 12) dX11_pairs_6 flX11_201 rfl rfl (L209 L) (fun hr6 => ?_)
    have q1 := hI.1
    refine a_icmp_ge (tgt := 27) dX11_pairs_9 (by decide) ⟨by omega, by omega⟩ hr6 (fun hb9 => ?_) (fun hb9 => ?_)
    · refine a_iloadn dX11_pairs_27 rfl ?_
      exact a_ireturn dX11_pairs_28 rfl rfl rfl (zdet_I (by first | rfl | omega) rfl)
    · exfalso; omega
  | succ n ih =>
    intro i acc h0 h1 
    refine a_iloadn dX11_pairs_4 rfl ?_
    refine a_aloadn dX11_pairs_5 rfl ?_
    refine b_getI (j' := 12) dX11_pairs_6 flX11_201 rfl rfl (L209 L) (fun hr6 => ?_)
    have q1 := hI.1
    refine a_icmp_ge (tgt := 27) dX11_pairs_9 (by decide) ⟨by omega, by omega⟩ hr6 (fun hb9 => ?_) (fun hb9 => ?_)
    · exfalso; omega
    · refine a_iloadn dX11_pairs_12 rfl ?_
      refine a_aloadn dX11_pairs_13 rfl ?_
      refine a_iloadn dX11_pairs_14 rfl ?_
      refine a_iloadn dX11_pairs_15 rfl ?_
      refine a_callV (as := [_, _]) (q := 209) dX11_pairs_16 mvX11_358 ⟨by decide, by decide⟩ (L209 L) rfl rfl rfl (Nat.le_of_ble_eq_true rfl) ⟨rfl, rfl⟩ ⟨by decide, by decide⟩ (m_X11_knowsMany hP hI hb ⟨by omega, by omega⟩) ?_
      refine a_iadd dX11_pairs_19 ?_
      refine c_istoren (ls' := [_, _, _, _]) dX11_pairs_20 (by decide) rfl rfl ?_
      refine c_iinc (ls' := [_, _, _, _]) dX11_pairs_21 rfl (by decide) rfl rfl ?_
      refine a_goto (tgt := 4) dX11_pairs_24 (by decide) ?_
      exact ih _ _ (by omega) (by omega)

set_option maxRecDepth 100000 in
set_option maxHeartbeats 4000000 in
theorem m_X11_pairs {G : zG} {l : Launch} {L : Nat} {P : zP} {M : zM} {b : Int} (hP : PFok P) (hI : TxI M) (hb : b = 0 ∨ b = 1) : AM G l yX11_pairs mdX11_pairs [aR 209, aI b] (LAY L) P M (zdet (some (aI (zsm (fun h => zsm (fun j => if M 237 (36 * b + 6 * h + j) = 0 then 0 else 1) (M 209 12).toNat 0 0) (M 209 12).toNat 0 0))) (LAY L) P M) := by
  have q1 := hI.1
  refine AM.go [some (aR 209), some (aI b), none, none] rfl (Nat.le_of_ble_eq_true rfl) ?_ (by decide) rfl rfl
  refine a_iconst dX11_pairs_0 ?_
  refine c_istoren (ls' := [_, _, _, _]) dX11_pairs_1 (by decide) rfl rfl ?_
  refine a_iconst dX11_pairs_2 ?_
  refine c_istoren (ls' := [_, _, _, _]) dX11_pairs_3 (by decide) rfl rfl ?_
  exact lpX11_pairs hP hI hb _ 0 0 (by omega) (by omega)

set_option maxRecDepth 100000 in
set_option maxHeartbeats 4000000 in
theorem lpX11_heardAll {G : zG} {l : Launch} {L : Nat} {P : zP} {M : zM} {b : Int} (hP : PFok P) (hb : b = 0 ∨ b = 1) : ∀ (n : Nat) (i acc : Int) (h0 : 0 ≤ i) (h1 : i + n = 36), AW G l mdX11_heardAll (zdet (some (aI (zsm (fun j => M 236 (36 * b + j)) n i acc))) (LAY L) P M) 4 [some (aR 209), some (aI b), some (aI acc), some (aI i)] [] (LAY L) P M 0 0 := by
  intro n
  induction n with
  | zero =>
    intro i acc h0 h1 
    refine a_iloadn dX11_heardAll_4 rfl ?_
    refine a_bipush (w := 36) dX11_heardAll_5 (by decide) ?_
    refine a_icmp_ge (tgt := 30) dX11_heardAll_7 (by decide) ⟨by omega, by omega⟩ ⟨by omega, by omega⟩ (fun hb7 => ?_) (fun hb7 => ?_)
    · refine a_iloadn dX11_heardAll_30 rfl ?_
      exact a_ireturn dX11_heardAll_31 rfl rfl rfl (zdet_I (by first | rfl | omega) rfl)
    · exfalso; omega
  | succ n ih =>
    intro i acc h0 h1 
    refine a_iloadn dX11_heardAll_4 rfl ?_
    refine a_bipush (w := 36) dX11_heardAll_5 (by decide) ?_
    refine a_icmp_ge (tgt := 30) dX11_heardAll_7 (by decide) ⟨by omega, by omega⟩ ⟨by omega, by omega⟩ (fun hb7 => ?_) (fun hb7 => ?_)
    · exfalso; omega
    · refine a_iloadn dX11_heardAll_10 rfl ?_
      refine a_aloadn dX11_heardAll_11 rfl ?_
      refine a_getR (j' := 51) (y := 236) dX11_heardAll_12 flX11_94 rfl rfl (L209 L) (p209_51 hP) ?_
      refine a_bipush (w := 36) dX11_heardAll_15 (by decide) ?_
      refine a_iloadn dX11_heardAll_17 rfl ?_
      refine a_imul dX11_heardAll_18 ?_
      refine a_iloadn dX11_heardAll_19 rfl ?_
      refine a_iadd dX11_heardAll_20 ?_
      refine b_iald (N := 72) dX11_heardAll_21 (L236 L) (by decide) (by omega) (by omega) (fun hr21 => ?_)
      refine a_iadd dX11_heardAll_22 ?_
      refine c_istoren (ls' := [_, _, _, _]) dX11_heardAll_23 (by decide) rfl rfl ?_
      refine c_iinc (ls' := [_, _, _, _]) dX11_heardAll_24 rfl (by decide) rfl rfl ?_
      refine a_goto (tgt := 4) dX11_heardAll_27 (by decide) ?_
      exact ih _ _ (by omega) (by omega)

set_option maxRecDepth 100000 in
set_option maxHeartbeats 4000000 in
theorem m_X11_heardAll {G : zG} {l : Launch} {L : Nat} {P : zP} {M : zM} {b : Int} (hP : PFok P) (hb : b = 0 ∨ b = 1) : AM G l yX11_heardAll mdX11_heardAll [aR 209, aI b] (LAY L) P M (zdet (some (aI (zsm (fun j => M 236 (36 * b + j)) 36 0 0))) (LAY L) P M) := by
  refine AM.go [some (aR 209), some (aI b), none, none] rfl (Nat.le_of_ble_eq_true rfl) ?_ (by decide) rfl rfl
  refine a_iconst dX11_heardAll_0 ?_
  refine c_istoren (ls' := [_, _, _, _]) dX11_heardAll_1 (by decide) rfl rfl ?_
  refine a_iconst dX11_heardAll_2 ?_
  refine c_istoren (ls' := [_, _, _, _]) dX11_heardAll_3 (by decide) rfl rfl ?_
  exact lpX11_heardAll hP hb 36 0 0 (by omega) (by omega)

set_option maxRecDepth 100000 in
set_option maxHeartbeats 4000000 in
theorem lpX11_manyOf {G : zG} {l : Launch} {L : Nat} {P : zP} {M : zM} {x : Int}  : ∀ (n : Nat) (acc i : Int) (h0 : 0 ≤ i) (h1 : i + n = 6), AW G l mdX11_manyOf (zdet (some (aI (zsm (fun j => b_iand (b_ishr x j) 1) n i acc))) (LAY L) P M) 4 [some (aI x), some (aI acc), some (aI i)] [] (LAY L) P M 0 0 := by
  intro n
  induction n with
  | zero =>
    intro acc i h0 h1 
    refine a_iloadn dX11_manyOf_4 rfl ?_
    refine a_bipush (w := 6) dX11_manyOf_5 (by decide) ?_
    refine a_icmp_ge (tgt := 24) dX11_manyOf_7 (by decide) ⟨by omega, by omega⟩ ⟨by omega, by omega⟩ (fun hb7 => ?_) (fun hb7 => ?_)
    · refine a_iloadn dX11_manyOf_24 rfl ?_
      exact a_ireturn dX11_manyOf_25 rfl rfl rfl (zdet_I (by first | rfl | omega) rfl)
    · exfalso; omega
  | succ n ih =>
    intro acc i h0 h1 
    refine a_iloadn dX11_manyOf_4 rfl ?_
    refine a_bipush (w := 6) dX11_manyOf_5 (by decide) ?_
    refine a_icmp_ge (tgt := 24) dX11_manyOf_7 (by decide) ⟨by omega, by omega⟩ ⟨by omega, by omega⟩ (fun hb7 => ?_) (fun hb7 => ?_)
    · exfalso; omega
    · refine a_iloadn dX11_manyOf_10 rfl ?_
      refine a_iloadn dX11_manyOf_11 rfl ?_
      refine a_iloadn dX11_manyOf_12 rfl ?_
      refine a_ishr dX11_manyOf_13 ?_
      refine a_iconst dX11_manyOf_14 ?_
      refine a_iand dX11_manyOf_15 ?_
      refine a_iadd dX11_manyOf_16 ?_
      refine c_istoren (ls' := [_, _, _]) dX11_manyOf_17 (by decide) rfl rfl ?_
      refine c_iinc (ls' := [_, _, _]) dX11_manyOf_18 rfl (by decide) rfl rfl ?_
      refine a_goto (tgt := 4) dX11_manyOf_21 (by decide) ?_
      exact ih _ _ (by omega) (by omega)

set_option maxRecDepth 100000 in
set_option maxHeartbeats 4000000 in
theorem m_X11_manyOf {G : zG} {l : Launch} {L : Nat} {P : zP} {M : zM} {x : Int}  : AM G l yX11_manyOf mdX11_manyOf [aI x] (LAY L) P M (zdet (some (aI (zsm (fun j => b_iand (b_ishr x j) 1) 6 0 0))) (LAY L) P M) := by
  refine AM.go [some (aI x), none, none] rfl (Nat.le_of_ble_eq_true rfl) ?_ (by decide) rfl rfl
  refine a_iconst dX11_manyOf_0 ?_
  refine c_istoren (ls' := [_, _, _]) dX11_manyOf_1 (by decide) rfl rfl ?_
  refine a_iconst dX11_manyOf_2 ?_
  refine c_istoren (ls' := [_, _, _]) dX11_manyOf_3 (by decide) rfl rfl ?_
  exact lpX11_manyOf 6 0 0 (by omega) (by omega)

set_option maxRecDepth 100000 in
set_option maxHeartbeats 4000000 in
theorem m_X11_knownBy {G : zG} {l : Launch} {L : Nat} {P : zP} {M : zM}   : AM G l yX11_knownBy mdX11_knownBy [aR 209] (LAY L) P M (zdet (some (aI (if M 209 62 < 0 then M 209 61 else M 209 62))) (LAY L) P M) := by
  refine AM.go [some (aR 209)] rfl (Nat.le_of_ble_eq_true rfl) ?_ (by decide) rfl rfl
  refine a_aloadn dX11_knownBy_0 rfl ?_
  refine b_getI (j' := 62) dX11_knownBy_1 flX11_103 rfl rfl (L209 L) (fun hr1 => ?_)
  refine a_if_ge (tgt := 14) dX11_knownBy_4 (by decide) ⟨by omega, by omega⟩ (fun hb4 => ?_) (fun hb4 => ?_)
  · refine a_aloadn dX11_knownBy_14 rfl ?_
    refine b_getI (j' := 62) dX11_knownBy_15 flX11_103 rfl rfl (L209 L) (fun hr15 => ?_)
    exact a_ireturn dX11_knownBy_18 rfl rfl rfl (zdet_I (by first | (rw [if_pos (by omega)]; done) | (rw [if_neg (by omega)]; done)) rfl)
  · refine a_aloadn dX11_knownBy_7 rfl ?_
    refine b_getI (j' := 61) dX11_knownBy_8 flX11_325 rfl rfl (L209 L) (fun hr8 => ?_)
    refine a_goto (tgt := 18) dX11_knownBy_11 (by decide) ?_
    exact a_ireturn dX11_knownBy_18 rfl rfl rfl (zdet_I (by first | (rw [if_pos (by omega)]; done) | (rw [if_neg (by omega)]; done)) rfl)
