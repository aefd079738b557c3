set_option maxRecDepth 100000 in
set_option maxHeartbeats 4000000 in
theorem m_X3_pairAt {G : zG} {l : Launch} {L : Nat} {P : zP} {M : zM} {a i b k : Int}  : AM G l yX3_pairAt mdX3_pairAt [aI a, aI i, aI b, aI k] (LAY L) P M (zdet (some (aI ((a * 10 + i) * 40 + b * 10 + k))) (LAY L) P M) := by
  refine AM.go [some (aI a), some (aI i), some (aI b), some (aI k)] rfl (Nat.le_of_ble_eq_true rfl) ?_ (by decide) rfl rfl
  refine a_iloadn dX3_pairAt_0 rfl ?_
  refine a_bipush (w := 10) dX3_pairAt_1 (by decide) ?_
  refine a_imul dX3_pairAt_3 ?_
  refine a_iloadn dX3_pairAt_4 rfl ?_
  refine a_iadd dX3_pairAt_5 ?_
  refine a_bipush (w := 40) dX3_pairAt_6 (by decide) ?_
  refine a_imul dX3_pairAt_8 ?_
  refine a_iloadn dX3_pairAt_9 rfl ?_
  refine a_bipush (w := 10) dX3_pairAt_10 (by decide) ?_
  refine a_imul dX3_pairAt_12 ?_
  refine a_iadd dX3_pairAt_13 ?_
  refine a_iloadn dX3_pairAt_14 rfl ?_
  refine a_iadd dX3_pairAt_15 ?_
  exact a_ireturn dX3_pairAt_16 rfl rfl rfl (zdet_I (by first | rfl | omega) rfl)

set_option maxRecDepth 100000 in
set_option maxHeartbeats 4000000 in
theorem lpX3_markApart_in {G : zG} {l : Launch} {L : Nat} {P : zP} {M0 Mi : zM} {t : Nat} {a b i : Int} {Z : zZ} (hc : CS L P t 67) (hI : CI M0 t 67) (a0 : 0 ≤ a) (a1 : a < b) (b1 : b < 4) (i0 : 0 ≤ i) (i1 : i < 10) : ∀ (n : Nat) (k : Int) (M : zM) (g0 : 0 ≤ k) (g1 : k + n = 10) (hp : Pq M0 M) (hdk : Dk M) (hkp : (∀ z : Int, (∀ i' k' : Int, 0 ≤ i' → i' < 10 → 0 ≤ k' → k' < 10 → z ≠ (a * 10 + i') * 40 + b * 10 + k') → M 57 z = Mi 57 z)) (hf : (∀ q : Nat, ¬ (51 ≤ q ∧ q ≤ 53) → q ≠ 57 → q ≠ 68 → M q = Mi q)) (hj : ∀ i' k' : Int, 0 ≤ i' → 0 ≤ k' → k' < 10 → (i' < i ∨ (i' = i ∧ k' < k)) → M 57 ((a * 10 + i') * 40 + b * 10 + k') = apV M0 t a b i' k') (kk : ∀ M' : zM, Pq M0 M' → Dk M' → (∀ z : Int, (∀ i' k' : Int, 0 ≤ i' → i' < 10 → 0 ≤ k' → k' < 10 → z ≠ (a * 10 + i') * 40 + b * 10 + k') → M' 57 z = Mi 57 z) → (∀ q : Nat, ¬ (51 ≤ q ∧ q ≤ 53) → q ≠ 57 → q ≠ 68 → M' q = Mi q) → (∀ i' k' : Int, 0 ≤ i' → 0 ≤ k' → k' < 10 → i' < i + 1 → M' 57 ((a * 10 + i') * 40 + b * 10 + k') = apV M0 t a b i' k') → AW G l mdX3_markApart Z 93 [some (aR 54), some (aR 67), some (aI a), some (aI b), some (aI i), none] [] (LAY L) P M' 0 0), AW G l mdX3_markApart Z 13 [some (aR 54), some (aR 67), some (aI a), some (aI b), some (aI i), some (aI k)] [] (LAY L) P M 0 0 := by
  intro n
  induction n with
  | zero =>
    intro k M g0 g1 hp hdk hkp hf hj kk
    obtain ⟨hP, hTp, hT, ht, hS, ha⟩ := id hc
    have q1 := hI.1.1
    refine a_iload dX3_markApart_13 rfl ?_
    refine a_bipush (w := 10) dX3_markApart_15 (by decide) ?_
    refine a_icmp_ge (tgt := 93) dX3_markApart_17 (by decide) ⟨by omega, by omega⟩ ⟨by omega, by omega⟩ (fun hb17 => ?_) (fun hb17 => ?_)
    · refine a_forget [5] (ls' := [_, _, _, _, _, none]) rfl (kk M hp hdk hkp hf (fun i' k' a9 b9 c9 d9 => hj i' k' a9 b9 c9 (by omega)))
    · exfalso; omega
  | succ n ih =>
    intro k M g0 g1 hp hdk hkp hf hj kk
    obtain ⟨hP, hTp, hT, ht, hS, ha⟩ := id hc
    have q1 := hI.1.1
    refine a_iload dX3_markApart_13 rfl ?_
    refine a_bipush (w := 10) dX3_markApart_15 (by decide) ?_
    refine a_icmp_ge (tgt := 93) dX3_markApart_17 (by decide) ⟨by omega, by omega⟩ ⟨by omega, by omega⟩ (fun hb17 => ?_) (fun hb17 => ?_)
    · exfalso; omega
    · refine a_aloadn dX3_markApart_20 rfl ?_
      refine a_getR (j' := 0) (y := 68) dX3_markApart_21 flX3_35 rfl rfl (L67 L) (p67_0 hP) ?_
      refine a_iloadn dX3_markApart_24 rfl ?_
      refine a_iload dX3_markApart_25 rfl ?_
      refine a_bipush (w := 11) dX3_markApart_27 (by decide) ?_
      refine a_imul dX3_markApart_29 ?_
      refine a_iast (N := 6) dX3_markApart_30 (L68 L) (by decide) (by decide) (by omega) (by omega) ⟨by omega, by omega⟩ ?_
      refine a_aloadn dX3_markApart_31 rfl ?_
      refine a_getR (j' := 0) (y := 68) dX3_markApart_32 flX3_35 rfl rfl (L67 L) (p67_0 hP) ?_
      refine a_iloadn dX3_markApart_35 rfl ?_
      refine a_iload dX3_markApart_36 rfl ?_
      refine a_bipush (w := 11) dX3_markApart_38 (by decide) ?_
      refine a_imul dX3_markApart_40 ?_
      refine a_iast (N := 6) dX3_markApart_41 (L68 L) (by decide) (by decide) (by omega) (by omega) ⟨by omega, by omega⟩ ?_
      refine a_aloadn dX3_markApart_42 rfl ?_
      refine a_getR (j' := 3) (y := 57) dX3_markApart_43 flX3_18 rfl rfl (L54 L) (p54_3 hP) ?_
      refine a_iloadn dX3_markApart_46 rfl ?_
      refine a_iload dX3_markApart_47 rfl ?_
      refine a_iloadn dX3_markApart_49 rfl ?_
      refine a_iload dX3_markApart_50 rfl ?_
      refine a_callS (as := [_, _, _, _]) dX3_markApart_52 mvX3_99 ⟨by decide, by decide⟩ rfl rfl (Nat.le_of_ble_eq_true rfl) ⟨rfl, rfl⟩ ⟨by decide, by decide⟩ m_X3_pairAt ?_
      refine a_aloadn dX3_markApart_55 rfl ?_
      refine a_getR (j' := 0) (y := 50) dX3_markApart_56 flX3_31 rfl rfl (L54 L) (p54_0 hP) ?_
      refine a_aloadn dX3_markApart_59 rfl ?_
      refine a_iloadn dX3_markApart_60 rfl ?_
      refine a_iloadn dX3_markApart_61 rfl ?_
      have hp2 : Pq M0 (sm (sm M 68 a (i * 11)) 68 b (k * 11)) := (hp.sm (by omega) _ _).sm (by omega) _ _
      have hdk2 : Dk (sm (sm M 68 a (i * 11)) 68 b (k * 11)) := (hdk.d (by omega)).d (by omega)
      have hci62 := hp2.ci hI (by omega) hdk2
      refine a_anyV (as := [_, _, _]) (q := 50) dX3_markApart_62 mvX3_80 ⟨by decide, by decide⟩ (L50 L) rfl rfl rfl (Nat.le_of_ble_eq_true rfl) ⟨rfl, rfl⟩ ⟨by decide, by decide⟩ (m_doesHear hc hci62 (by omega) (by omega) (by omega) (by omega)) (fun x62 M62 hM62 => ?_)
      have hx62 := hM62.2
      rw [hp2.hr (by omega), sm_s, sm_k, us_n (by omega), sm_s] at hx62
      have z62 := hd01 M0 t a b (i * 11) (k * 11)
      have hci75 := (hp2.ec hM62.1).ci hI (by omega) (hdk2.ec hM62.1)
      have hpE := hp2.ec hM62.1
      have hdE := hdk2.ec hM62.1
      have hrE : ∀ q : Nat, ¬ (51 ≤ q ∧ q ≤ 53) → q ≠ 68 → M62 q = M q := fun q q0 q1 => by rw [hM62.1.row (by omega) (by omega) (by omega), sm_n q1, sm_n q1]
      refine a_if_ne (tgt := 85) dX3_markApart_65 (by decide) ⟨by omega, by omega⟩ (fun hb65 => ?_) (fun hb65 => ?_)
      · refine a_iconst dX3_markApart_85 ?_
        refine a_zast (N := 1600) dX3_markApart_86 (L57 L) (by decide) (by decide) (by omega) (by omega) (by omega) ?_
        refine c_iinc (ls' := [_, _, _, _, _, _]) dX3_markApart_87 rfl (by decide) rfl rfl ?_
        refine a_goto (tgt := 13) dX3_markApart_90 (by decide) ?_
        refine ih _ _ (by omega) (by omega) ((hpE).sm (by omega) _ _) ((hdE).o (by decide) _ _) (fun z hz => ?_) (fun q q0 q1 q2 => ?_) (fun i' k' i0 k0 k1 hik => ?_) kk
        · rw [sm_k, us_n (hz i k (by omega) (by omega) (by omega) (by omega)), hrE 57 (by decide) (by decide)]; exact hkp z hz
        · rw [sm_n q1, hrE q q0 q2]; exact hf q q0 q1 q2
        · rw [sm_k]
          by_cases e9 : i' = i ∧ k' = k
          · obtain ⟨rfl, rfl⟩ := e9
            rw [us_s]
            unfold apV
            first
            | (rw [if_pos (by omega)]; done)
            | (rw [if_neg (by omega)]; done)
          · rw [us_n (by omega), hrE 57 (by decide) (by decide)]; exact hj i' k' i0 k0 k1 (by omega)
      · refine a_aloadn dX3_markApart_68 rfl ?_
        refine a_getR (j' := 0) (y := 50) dX3_markApart_69 flX3_31 rfl rfl (L54 L) (p54_0 hP) ?_
        refine a_aloadn dX3_markApart_72 rfl ?_
        refine a_iloadn dX3_markApart_73 rfl ?_
        refine a_iloadn dX3_markApart_74 rfl ?_
        refine a_anyV (as := [_, _, _]) (q := 50) dX3_markApart_75 mvX3_80 ⟨by decide, by decide⟩ (L50 L) rfl rfl rfl (Nat.le_of_ble_eq_true rfl) ⟨rfl, rfl⟩ ⟨by decide, by decide⟩ (m_doesHear hc hci75 (by omega) (by omega) (by omega) (by omega)) (fun x75 M75 hM75 => ?_)
        have hx75 := hM75.2
        rw [hM62.1.hr (by omega) (by omega), hp2.hr (by omega), sm_s, sm_k, us_n (by omega), sm_s] at hx75
        have z75 := hd01 M0 t b a (k * 11) (i * 11)
        have hE75 := hM62.1.tr hM75.1
        have hpE := hp2.ec hE75
        have hdE := hdk2.ec hE75
        have hrE : ∀ q : Nat, ¬ (51 ≤ q ∧ q ≤ 53) → q ≠ 68 → M75 q = M q := fun q q0 q1 => by rw [hE75.row (by omega) (by omega) (by omega), sm_n q1, sm_n q1]
        refine a_if_ne (tgt := 85) dX3_markApart_78 (by decide) ⟨by omega, by omega⟩ (fun hb78 => ?_) (fun hb78 => ?_)
        · refine a_iconst dX3_markApart_85 ?_
          refine a_zast (N := 1600) dX3_markApart_86 (L57 L) (by decide) (by decide) (by omega) (by omega) (by omega) ?_
          refine c_iinc (ls' := [_, _, _, _, _, _]) dX3_markApart_87 rfl (by decide) rfl rfl ?_
          refine a_goto (tgt := 13) dX3_markApart_90 (by decide) ?_
          refine ih _ _ (by omega) (by omega) ((hpE).sm (by omega) _ _) ((hdE).o (by decide) _ _) (fun z hz => ?_) (fun q q0 q1 q2 => ?_) (fun i' k' i0 k0 k1 hik => ?_) kk
          · rw [sm_k, us_n (hz i k (by omega) (by omega) (by omega) (by omega)), hrE 57 (by decide) (by decide)]; exact hkp z hz
          · rw [sm_n q1, hrE q q0 q2]; exact hf q q0 q1 q2
          · rw [sm_k]
            by_cases e9 : i' = i ∧ k' = k
            · obtain ⟨rfl, rfl⟩ := e9
              rw [us_s]
              unfold apV
              first
              | (rw [if_pos (by omega)]; done)
              | (rw [if_neg (by omega)]; done)
            · rw [us_n (by omega), hrE 57 (by decide) (by decide)]; exact hj i' k' i0 k0 k1 (by omega)
        · refine a_iconst dX3_markApart_81 ?_
          refine a_goto (tgt := 86) dX3_markApart_82 (by decide) ?_
          refine a_zast (N := 1600) dX3_markApart_86 (L57 L) (by decide) (by decide) (by omega) (by omega) (by omega) ?_
          refine c_iinc (ls' := [_, _, _, _, _, _]) dX3_markApart_87 rfl (by decide) rfl rfl ?_
          refine a_goto (tgt := 13) dX3_markApart_90 (by decide) ?_
          refine ih _ _ (by omega) (by omega) ((hpE).sm (by omega) _ _) ((hdE).o (by decide) _ _) (fun z hz => ?_) (fun q q0 q1 q2 => ?_) (fun i' k' i0 k0 k1 hik => ?_) kk
          · rw [sm_k, us_n (hz i k (by omega) (by omega) (by omega) (by omega)), hrE 57 (by decide) (by decide)]; exact hkp z hz
          · rw [sm_n q1, hrE q q0 q2]; exact hf q q0 q1 q2
          · rw [sm_k]
            by_cases e9 : i' = i ∧ k' = k
            · obtain ⟨rfl, rfl⟩ := e9
              rw [us_s]
              unfold apV
              first
              | (rw [if_pos (by omega)]; done)
              | (rw [if_neg (by omega)]; done)
            · rw [us_n (by omega), hrE 57 (by decide) (by decide)]; exact hj i' k' i0 k0 k1 (by omega)

set_option maxRecDepth 100000 in
set_option maxHeartbeats 4000000 in
theorem lpX3_markApart {G : zG} {l : Launch} {L : Nat} {P : zP} {M0 Mi : zM} {t : Nat} {a b : Int} (hc : CS L P t 67) (hI : CI M0 t 67) (a0 : 0 ≤ a) (a1 : a < b) (b1 : b < 4) : ∀ (n : Nat) (i : Int) (M : zM) (g0 : 0 ≤ i) (g1 : i + n = 10) (hp : Pq M0 M) (hdk : Dk M) (hkp : (∀ z : Int, (∀ i' k' : Int, 0 ≤ i' → i' < 10 → 0 ≤ k' → k' < 10 → z ≠ (a * 10 + i') * 40 + b * 10 + k') → M 57 z = Mi 57 z)) (hf : (∀ q : Nat, ¬ (51 ≤ q ∧ q ≤ 53) → q ≠ 57 → q ≠ 68 → M q = Mi q)) (hj : ∀ i' k' : Int, 0 ≤ i' → 0 ≤ k' → k' < 10 → i' < i → M 57 ((a * 10 + i') * 40 + b * 10 + k') = apV M0 t a b i' k'), AW G l mdX3_markApart (zrel none (LAY L) P (fun M' => Pq M0 M' ∧ Dk M' ∧ (∀ z : Int, (∀ i' k' : Int, 0 ≤ i' → i' < 10 → 0 ≤ k' → k' < 10 → z ≠ (a * 10 + i') * 40 + b * 10 + k') → M' 57 z = Mi 57 z) ∧ (∀ q : Nat, ¬ (51 ≤ q ∧ q ≤ 53) → q ≠ 57 → q ≠ 68 → M' q = Mi q) ∧ Ap M0 M' t a b)) 3 [some (aR 54), some (aR 67), some (aI a), some (aI b), some (aI i), none] [] (LAY L) P M 0 0 := by
  intro n
  induction n with
  | zero =>
    intro i M g0 g1 hp hdk hkp hf hj
    obtain ⟨hP, hTp, hT, ht, hS, ha⟩ := id hc
    have q1 := hI.1.1
    refine a_iload dX3_markApart_3 rfl ?_
    refine a_bipush (w := 10) dX3_markApart_5 (by decide) ?_
    refine a_icmp_ge (tgt := 99) dX3_markApart_7 (by decide) ⟨by omega, by omega⟩ ⟨by omega, by omega⟩ (fun hb7 => ?_) (fun hb7 => ?_)
    · exact a_return dX3_markApart_99 rfl rfl rfl (zrel_V ⟨hp, hdk, hkp, hf, fun i' k' a9 b9 c9 d9 => hj i' k' a9 c9 d9 (by omega)⟩)
    · exfalso; omega
  | succ n ih =>
    intro i M g0 g1 hp hdk hkp hf hj
    obtain ⟨hP, hTp, hT, ht, hS, ha⟩ := id hc
    have q1 := hI.1.1
    refine a_iload dX3_markApart_3 rfl ?_
    refine a_bipush (w := 10) dX3_markApart_5 (by decide) ?_
    refine a_icmp_ge (tgt := 99) dX3_markApart_7 (by decide) ⟨by omega, by omega⟩ ⟨by omega, by omega⟩ (fun hb7 => ?_) (fun hb7 => ?_)
    · exfalso; omega
    · refine a_iconst dX3_markApart_10 ?_
      refine c_istore (ls' := [_, _, _, _, _, _]) dX3_markApart_11 (by decide) rfl rfl ?_
      refine lpX3_markApart_in hc hI a0 a1 b1 (by omega) (by omega) 10 0 M (by omega) (by omega) hp hdk hkp hf (fun i' k' a9 b9 c9 d9 => hj i' k' a9 b9 c9 (by omega)) (fun M' c1 c2 c3 c4 c5 => ?_)
      refine c_iinc (ls' := [_, _, _, _, _, _]) dX3_markApart_93 rfl (by decide) rfl rfl ?_
      refine a_goto (tgt := 3) dX3_markApart_96 (by decide) ?_
      exact ih _ _ (by omega) (by omega) c1 c2 c3 c4 c5

set_option maxRecDepth 100000 in
set_option maxHeartbeats 4000000 in
theorem m_X3_markApart {G : zG} {l : Launch} {L : Nat} {P : zP} {M : zM} {M0 : zM} {t : Nat} {a b : Int} (hc : CS L P t 67) (hI : CI M0 t 67) (hp : Pq M0 M) (hdk : Dk M) (a0 : 0 ≤ a) (a1 : a < b) (b1 : b < 4) : AM G l yX3_markApart mdX3_markApart [aR 54, aR 67, aI a, aI b] (LAY L) P M (zrel none (LAY L) P (fun M' => Pq M0 M' ∧ Dk M' ∧ (∀ z : Int, (∀ i' k' : Int, 0 ≤ i' → i' < 10 → 0 ≤ k' → k' < 10 → z ≠ (a * 10 + i') * 40 + b * 10 + k') → M' 57 z = M 57 z) ∧ (∀ q : Nat, ¬ (51 ≤ q ∧ q ≤ 53) → q ≠ 57 → q ≠ 68 → M' q = M q) ∧ Ap M0 M' t a b)) := by
  obtain ⟨hP, hTp, hT, ht, hS, ha⟩ := id hc
  have q1 := hI.1.1
  refine AM.go [some (aR 54), some (aR 67), some (aI a), some (aI b), none, none] rfl (Nat.le_of_ble_eq_true rfl) ?_ (by decide) rfl rfl
  refine a_iconst dX3_markApart_0 ?_
  refine c_istore (ls' := [_, _, _, _, _, _]) dX3_markApart_1 (by decide) rfl rfl ?_
  exact lpX3_markApart hc hI a0 a1 b1 10 0 M (by omega) (by omega) hp hdk (fun _ _ => rfl) (fun _ _ _ _ => rfl) (fun i' k' a9 b9 c9 d9 => by omega)

set_option maxRecDepth 100000 in
set_option maxHeartbeats 4000000 in
theorem lpX3_isApart {G : zG} {l : Launch} {L : Nat} {P : zP} {M : zM} {h : Int} (hP : PFok P) (h0 : 0 ≤ h) (h1 : h < 4) (ht9 : ∀ j : Int, 0 ≤ j → j ≤ h → 0 ≤ M 59 j ∧ M 59 j ≤ 9) : ∀ (n : Nat) (i : Int) (g0 : 0 ≤ i) (g1 : i + n = h), AW G l mdX3_isApartFromThoseBefore (zone (LAY L) P M (fun r => r = zall (fun j => M 57 ((j * 10 + M 59 j) * 40 + h * 10 + M 59 h)) n i)) 2 [some (aR 54), some (aI h), some (aI i)] [] (LAY L) P M 0 0 := by
  intro n
  induction n with
  | zero =>
    intro i g0 g1
    refine a_iloadn dX3_isApartFromThoseBefore_2 rfl ?_
    refine a_iloadn dX3_isApartFromThoseBefore_3 rfl ?_
    refine a_icmp_ge (tgt := 40) dX3_isApartFromThoseBefore_4 (by decide) ⟨by omega, by omega⟩ ⟨by omega, by omega⟩ (fun hb4 => ?_) (fun hb4 => ?_)
    · refine a_iconst dX3_isApartFromThoseBefore_40 ?_
      exact a_zreturn dX3_isApartFromThoseBefore_41 rfl rfl rfl (by omega) (zone_i rfl)
    · exfalso; omega
  | succ n ih =>
    intro i g0 g1
    refine a_iloadn dX3_isApartFromThoseBefore_2 rfl ?_
    refine a_iloadn dX3_isApartFromThoseBefore_3 rfl ?_
    refine a_icmp_ge (tgt := 40) dX3_isApartFromThoseBefore_4 (by decide) ⟨by omega, by omega⟩ ⟨by omega, by omega⟩ (fun hb4 => ?_) (fun hb4 => ?_)
    · exfalso; omega
    · have q1 := ht9 i (by omega) (by omega)
      have q2 := ht9 h (by omega) (by omega)
      refine a_aloadn dX3_isApartFromThoseBefore_7 rfl ?_
      refine a_getR (j' := 3) (y := 57) dX3_isApartFromThoseBefore_8 flX3_18 rfl rfl (L54 L) (p54_3 hP) ?_
      refine a_iloadn dX3_isApartFromThoseBefore_11 rfl ?_
      refine a_aloadn dX3_isApartFromThoseBefore_12 rfl ?_
      refine a_getR (j' := 5) (y := 59) dX3_isApartFromThoseBefore_13 flX3_25 rfl rfl (L54 L) (p54_5 hP) ?_
      refine a_iloadn dX3_isApartFromThoseBefore_16 rfl ?_
      refine b_iald (N := 4) dX3_isApartFromThoseBefore_17 (L59 L) (by decide) (by omega) (by omega) (fun hr17 => ?_)
      refine a_iloadn dX3_isApartFromThoseBefore_18 rfl ?_
      refine a_aloadn dX3_isApartFromThoseBefore_19 rfl ?_
      refine a_getR (j' := 5) (y := 59) dX3_isApartFromThoseBefore_20 flX3_25 rfl rfl (L54 L) (p54_5 hP) ?_
      refine a_iloadn dX3_isApartFromThoseBefore_23 rfl ?_
      refine b_iald (N := 4) dX3_isApartFromThoseBefore_24 (L59 L) (by decide) (by omega) (by omega) (fun hr24 => ?_)
      refine a_callS (as := [_, _, _, _]) dX3_isApartFromThoseBefore_25 mvX3_99 ⟨by decide, by decide⟩ rfl rfl (Nat.le_of_ble_eq_true rfl) ⟨rfl, rfl⟩ ⟨by decide, by decide⟩ m_X3_pairAt ?_
      refine b_zald (N := 1600) dX3_isApartFromThoseBefore_28 (L57 L) (by decide) (by omega) (by omega) (fun hr28 => ?_)
      refine a_if_ne (tgt := 34) dX3_isApartFromThoseBefore_29 (by decide) (by rcases hr28 with z | z <;> exact ⟨by omega, by omega⟩) (fun hb29 => ?_) (fun hb29 => ?_)
      · refine c_iinc (ls' := [_, _, _]) dX3_isApartFromThoseBefore_34 rfl (by decide) rfl rfl ?_
        refine a_goto (tgt := 2) dX3_isApartFromThoseBefore_37 (by decide) ?_
        simp only [zall]
        rw [if_neg hb29]
        exact ih _ (by omega) (by omega)
      · refine a_iconst dX3_isApartFromThoseBefore_32 ?_
        exact a_zreturn dX3_isApartFromThoseBefore_33 rfl rfl rfl (by omega) (zone_i (by simp only [zall]; rw [if_pos (by omega)]))

set_option maxRecDepth 100000 in
set_option maxHeartbeats 4000000 in
theorem m_X3_isApartFromThoseBefore {G : zG} {l : Launch} {L : Nat} {P : zP} {M : zM} {h : Int} (hP : PFok P) (h0 : 0 ≤ h) (h1 : h < 4) (ht9 : ∀ j : Int, 0 ≤ j → j ≤ h → 0 ≤ M 59 j ∧ M 59 j ≤ 9) : AM G l yX3_isApartFromThoseBefore mdX3_isApartFromThoseBefore [aR 54, aI h] (LAY L) P M (zone (LAY L) P M (fun r => r = zall (fun j => M 57 ((j * 10 + M 59 j) * 40 + h * 10 + M 59 h)) h.toNat 0)) := by
  refine AM.go [some (aR 54), some (aI h), none] rfl (Nat.le_of_ble_eq_true rfl) ?_ (by decide) rfl rfl
  refine a_iconst dX3_isApartFromThoseBefore_0 ?_
  refine c_istoren (ls' := [_, _, _]) dX3_isApartFromThoseBefore_1 (by decide) rfl rfl ?_
  exact lpX3_isApart hP h0 h1 ht9 h.toNat 0 (by omega) (by omega)

set_option maxRecDepth 100000 in
set_option maxHeartbeats 4000000 in
theorem lpP0 {G : zG} {l : Launch} {L : Nat} {P : zP} {Mb : zM} {hs h stp : Int} (hP : PFok P) (hh : 0 ≤ hs ∧ hs ≤ 4) (hhs : Mb 54 6 = hs) : ∀ (n : Nat) (i : Int) (S : PS) (g0 : 0 ≤ i) (g1 : i + n = hs) (hT : ∀ j : Int, 0 ≤ j → j < hs → 0 ≤ S.2.1 j ∧ S.2.1 j ≤ 9), AW G l mdP0 (zdet none (LAY L) P (putS Mb (S.1, S.2.1, chL S.2.1 n i S.2.2))) 24 [some (aR 54), some (aI h), some (aI stp), some (aI i)] [] (LAY L) P (putS Mb S) 0 0 := by
  intro n
  induction n with
  | zero =>
    intro i S g0 g1 hT
    refine a_iloadn dX3_place_24 rfl ?_
    refine a_aloadn dX3_place_25 rfl ?_
    refine b_getI (j' := 6) dX3_place_26 flX3_87 rfl rfl (L54 L) (fun hr26 => ?_)
    try simp (disch := omega) only [sm_n, sm_k, us_s, us_n, putS_f, putS_6, putS_t, putS_c, putS_n, hhs] at hr26 ⊢
    refine a_icmp_ge (tgt := 53) dX3_place_29 (by decide) ⟨by omega, by omega⟩ ⟨by omega, by omega⟩ (fun hb29 => ?_) (fun hb29 => ?_)
    · exact a_return dX3_place_53 rfl rfl rfl (zdet_V rfl)
    · exfalso; omega
  | succ n ih =>
    intro i S g0 g1 hT
    refine a_iloadn dX3_place_24 rfl ?_
    refine a_aloadn dX3_place_25 rfl ?_
    refine b_getI (j' := 6) dX3_place_26 flX3_87 rfl rfl (L54 L) (fun hr26 => ?_)
    try simp (disch := omega) only [sm_n, sm_k, us_s, us_n, putS_f, putS_6, putS_t, putS_c, putS_n, hhs] at hr26 ⊢
    refine a_icmp_ge (tgt := 53) dX3_place_29 (by decide) ⟨by omega, by omega⟩ ⟨by omega, by omega⟩ (fun hb29 => ?_) (fun hb29 => ?_)
    · exfalso; omega
    · refine a_aloadn dX3_place_32 rfl ?_
      refine a_getR (j' := 7) (y := 60) dX3_place_33 flX3_28 rfl rfl (L54 L) (p54_7 hP) ?_
      refine a_iloadn dX3_place_36 rfl ?_
      refine a_aloadn dX3_place_37 rfl ?_
      refine a_getR (j' := 5) (y := 59) dX3_place_38 flX3_25 rfl rfl (L54 L) (p54_5 hP) ?_
      have q3 := hT i (by omega) (by omega)
      refine a_iloadn dX3_place_41 rfl ?_
      refine b_iald (N := 4) dX3_place_42 (L59 L) (by decide) (by omega) (by omega) (fun hr42 => ?_)
      try simp (disch := omega) only [sm_n, sm_k, us_s, us_n, putS_f, putS_6, putS_t, putS_c, putS_n, hhs] at hr42 ⊢
      refine a_bipush (w := 11) dX3_place_43 (by decide) ?_
      refine a_imul dX3_place_45 ?_
      refine a_iast (N := 4) dX3_place_46 (L60 L) (by decide) (by decide) (by omega) (by omega) ⟨by omega, by omega⟩ ?_
      refine c_iinc (ls' := [_, _, _, _]) dX3_place_47 rfl (by decide) rfl rfl ?_
      refine a_goto (tgt := 24) dX3_place_50 (by decide) ?_
      rw [putS_sc]
      simp only [chL]
      exact ih _ (S.1, S.2.1, us S.2.2 i (S.2.1 i * 11)) (by omega) (by omega) hT

set_option maxRecDepth 100000 in
set_option maxHeartbeats 4000000 in
theorem m_place0 {G : zG} {l : Launch} {L : Nat} {P : zP} {Mb : zM} {hs h stp : Int} {S : PS} (hP : PFok P) (hh : 0 ≤ hs ∧ hs ≤ 4) (hhs : Mb 54 6 = hs) (e0 : h = hs) (rs : 0 ≤ stp ∧ stp ≤ 1000000) (rF : inR S.1) (hT : ∀ j : Int, 0 ≤ j → j < hs → 0 ≤ S.2.1 j ∧ S.2.1 j ≤ 9) : AM G l yX3_place mdP0 [aR 54, aI h, aI stp] (LAY L) P (putS Mb S) (zdet none (LAY L) P (putS Mb (plF (Mb 57) (Mb 58) hs 0 h stp S))) := by
  refine AM.go [some (aR 54), some (aI h), some (aI stp), none] rfl (Nat.le_of_ble_eq_true rfl) ?_ (by decide) rfl rfl
  refine a_iloadn dX3_place_0 rfl ?_
  refine a_aloadn dX3_place_1 rfl ?_
  refine b_getI (j' := 8) dX3_place_2 flX3_61 rfl rfl (L54 L) (fun hr2 => ?_)
  try simp (disch := omega) only [sm_n, sm_k, us_s, us_n, putS_f, putS_6, putS_t, putS_c, putS_n, hhs] at hr2 ⊢
  refine a_icmp_lt (tgt := 9) dX3_place_5 (by decide) ⟨by omega, by omega⟩ rF (fun hb5 => ?_) (fun hb5 => ?_)
  · refine a_iloadn dX3_place_9 rfl ?_
    refine a_aloadn dX3_place_10 rfl ?_
    refine b_getI (j' := 6) dX3_place_11 flX3_87 rfl rfl (L54 L) (fun hr11 => ?_)
    try simp (disch := omega) only [sm_n, sm_k, us_s, us_n, putS_f, putS_6, putS_t, putS_c, putS_n, hhs] at hr11 ⊢
    refine a_icmp_lt (tgt := 54) dX3_place_14 (by decide) ⟨by omega, by omega⟩ ⟨by omega, by omega⟩ (fun hb14 => ?_) (fun hb14 => ?_)
    · exfalso; omega
    · refine a_aloadn dX3_place_17 rfl ?_
      refine a_iloadn dX3_place_18 rfl ?_
      refine a_putI (j' := 8) dX3_place_19 flX3_61 rfl rfl (L54 L) (by decide) rfl ⟨by omega, by omega⟩ ?_
      refine a_iconst dX3_place_22 ?_
      refine c_istoren (ls' := [_, _, _, _]) dX3_place_23 (by decide) rfl rfl ?_
      rw [putS_sf]
      have e1 : plF (Mb 57) (Mb 58) hs 0 h stp S = (stp, S.2.1, chL S.2.1 hs.toNat 0 S.2.2) := by simp only [plF]; rw [if_neg (by omega)]
      rw [e1]
      exact lpP0 hP hh hhs hs.toNat 0 (stp, S.2.1, S.2.2) (by omega) (by omega) hT
  · exact a_return dX3_place_8 rfl rfl rfl (zdet_V (by simp only [plF]; rw [if_pos (by omega)]))

set_option maxRecDepth 100000 in
set_option maxHeartbeats 4000000 in
theorem lpP1 {G : zG} {l : Launch} {L : Nat} {P : zP} {Mb : zM} {hs h stp : Int} (hP : PFok P) (hh : 0 ≤ hs ∧ hs ≤ 4) (hhs : Mb 54 6 = hs) (e0 : h + 1 = hs) (h0 : 0 ≤ h) (rs : 0 ≤ stp ∧ stp + 99 ≤ 1000000) (hfr : ∀ j : Int, 0 ≤ j → j < hs → 0 ≤ Mb 58 j ∧ Mb 58 j ≤ 99) : ∀ (n : Nat) (i : Int) (S : PS) (g0 : 0 ≤ i) (g1 : i + n = 10) (rF : inR S.1) (hT : ∀ j : Int, 0 ≤ j → j < h → 0 ≤ S.2.1 j ∧ S.2.1 j ≤ 9), AW G l mdP1 (zdet none (LAY L) P (putS Mb (plL (Mb 57) (Mb 58) h stp (plF (Mb 57) (Mb 58) hs 0 (h + 1)) n i S))) 56 [some (aR 54), some (aI h), some (aI stp), some (aI i)] [] (LAY L) P (putS Mb S) 0 0 := by
  intro n
  induction n with
  | zero =>
    intro i S g0 g1 rF hT
    refine a_iloadn dX3_place_56 rfl ?_
    refine a_bipush (w := 10) dX3_place_57 (by decide) ?_
    refine a_icmp_ge (tgt := 106) dX3_place_59 (by decide) ⟨by omega, by omega⟩ ⟨by omega, by omega⟩ (fun hb59 => ?_) (fun hb59 => ?_)
    · exact a_return dX3_place_106 rfl rfl rfl (zdet_V rfl)
    · exfalso; omega
  | succ n ih =>
    intro i S g0 g1 rF hT
    refine a_iloadn dX3_place_56 rfl ?_
    refine a_bipush (w := 10) dX3_place_57 (by decide) ?_
    refine a_icmp_ge (tgt := 106) dX3_place_59 (by decide) ⟨by omega, by omega⟩ ⟨by omega, by omega⟩ (fun hb59 => ?_) (fun hb59 => ?_)
    · exfalso; omega
    · have hT2 : ∀ j : Int, 0 ≤ j → j ≤ h → 0 ≤ us S.2.1 h i j ∧ us S.2.1 h i j ≤ 9 := fun j j0 j1 => by
        by_cases ej : j = h
        · subst ej; rw [us_s]; omega
        · rw [us_n ej]; exact hT j j0 (by omega)
      have q5 := hfr h h0 (by omega)
      have q6 := iabs_99 (x := i * 11) (y := Mb 58 h) (by omega) q5
      refine a_aloadn dX3_place_62 rfl ?_
      refine a_getR (j' := 5) (y := 59) dX3_place_63 flX3_25 rfl rfl (L54 L) (p54_5 hP) ?_
      refine a_iloadn dX3_place_66 rfl ?_
      refine a_iloadn dX3_place_67 rfl ?_
      refine a_iast (N := 4) dX3_place_68 (L59 L) (by decide) (by decide) (by omega) (by omega) ⟨by omega, by omega⟩ ?_
      rw [putS_st]
      refine a_aloadn dX3_place_69 rfl ?_
      refine a_iloadn dX3_place_70 rfl ?_
      refine a_oneV (as := [_]) (q := 54) dX3_place_71 mvX3_103 ⟨by decide, by decide⟩ (L54 L) rfl rfl rfl (Nat.le_of_ble_eq_true rfl) ⟨rfl, rfl⟩ ⟨by decide, by decide⟩ (m_X3_isApartFromThoseBefore hP h0 (by omega) (fun j j0 j1 => by rw [putS_t]; exact hT2 j j0 j1)) (fun x71 hx71 => ?_)
      rw [putS_n Mb (S.1, us S.2.1 h i, S.2.2) (k := 57) (by decide) (by decide) (by decide), putS_t Mb (S.1, us S.2.1 h i, S.2.2)] at hx71
      replace hx71 : x71 = zall (fun j => Mb 57 ((j * 10 + us S.2.1 h i j) * 40 + h * 10 + us S.2.1 h i h)) h.toNat 0 := hx71
      have z71 := zall01 (fun j => Mb 57 ((j * 10 + us S.2.1 h i j) * 40 + h * 10 + us S.2.1 h i h)) h.toNat 0
      refine a_if_eq (tgt := 100) dX3_place_74 (by decide) ⟨by omega, by omega⟩ (fun hb74 => ?_) (fun hb74 => ?_)
      · refine c_iinc (ls' := [_, _, _, _]) dX3_place_100 rfl (by decide) rfl rfl ?_
        refine a_goto (tgt := 56) dX3_place_103 (by decide) ?_
        simp only [plL]
        first
        | (rw [if_pos (by omega)]; exact ih _ (S.1, us S.2.1 h i, S.2.2) (by omega) (by omega) rF (fun j j0 j1 => hT2 j j0 (by omega)))
        | (rw [if_neg (by omega)]
           have hv9 := plF_inv (Mb 57) (Mb 58) hfr 0 (h + 1) (stp + iabs (i * 11 - Mb 58 h)) (S.1, us S.2.1 h i, S.2.2) (by omega) (by omega) (by omega) (by omega) rF
           exact ih _ _ (by omega) (by omega) hv9.1 (fun j j0 j1 => by rw [hv9.2 j (by omega)]; exact hT2 j j0 (by omega)))
      · refine a_aloadn dX3_place_77 rfl ?_
        refine a_iloadn dX3_place_78 rfl ?_
        refine a_iconst dX3_place_79 ?_
        refine a_iadd dX3_place_80 ?_
        refine a_iloadn dX3_place_81 rfl ?_
        refine a_iloadn dX3_place_82 rfl ?_
        refine a_bipush (w := 11) dX3_place_83 (by decide) ?_
        refine a_imul dX3_place_85 ?_
        refine a_aloadn dX3_place_86 rfl ?_
        refine a_getR (j' := 4) (y := 58) dX3_place_87 flX3_21 rfl rfl (L54 L) (p54_4 hP) ?_
        refine a_iloadn dX3_place_90 rfl ?_
        refine b_iald (N := 4) dX3_place_91 (L58 L) (by decide) (by omega) (by omega) (fun hr91 => ?_)
        try simp (disch := omega) only [sm_n, sm_k, us_s, us_n, putS_f, putS_6, putS_t, putS_c, putS_n, hhs] at hr91 ⊢
        refine a_isub dX3_place_92 ?_
        refine c_abs dX3_place_93 mmX3_53 (Nat.le_of_ble_eq_true rfl) ⟨by decide, by decide⟩ ⟨by decide, by decide⟩ ⟨by omega, by omega⟩ ?_
        refine a_iadd dX3_place_96 ?_
        refine a_callVv (as := [_, _]) (q := 54) dX3_place_97 mvP0 ⟨by decide, by decide⟩ (L54 L) rfl rfl rfl (Nat.le_of_ble_eq_true rfl) ⟨rfl, rfl⟩ ⟨by decide, by decide⟩ (m_place0 (S := (S.1, us S.2.1 h i, S.2.2)) hP hh hhs (by omega) (by omega) rF (fun j j0 j1 => hT2 j j0 (by omega))) ?_
        refine c_iinc (ls' := [_, _, _, _]) dX3_place_100 rfl (by decide) rfl rfl ?_
        refine a_goto (tgt := 56) dX3_place_103 (by decide) ?_
        simp only [plL]
        first
        | (rw [if_pos (by omega)]; exact ih _ (S.1, us S.2.1 h i, S.2.2) (by omega) (by omega) rF (fun j j0 j1 => hT2 j j0 (by omega)))
        | (rw [if_neg (by omega)]
           have hv9 := plF_inv (Mb 57) (Mb 58) hfr 0 (h + 1) (stp + iabs (i * 11 - Mb 58 h)) (S.1, us S.2.1 h i, S.2.2) (by omega) (by omega) (by omega) (by omega) rF
           exact ih _ _ (by omega) (by omega) hv9.1 (fun j j0 j1 => by rw [hv9.2 j (by omega)]; exact hT2 j j0 (by omega)))

set_option maxRecDepth 100000 in
set_option maxHeartbeats 4000000 in
theorem m_place1 {G : zG} {l : Launch} {L : Nat} {P : zP} {Mb : zM} {hs h stp : Int} {S : PS} (hP : PFok P) (hh : 0 ≤ hs ∧ hs ≤ 4) (hhs : Mb 54 6 = hs) (e0 : h + 1 = hs) (h0 : 0 ≤ h) (rs : 0 ≤ stp ∧ stp + 99 ≤ 1000000) (hfr : ∀ j : Int, 0 ≤ j → j < hs → 0 ≤ Mb 58 j ∧ Mb 58 j ≤ 99) (rF : inR S.1) (hT : ∀ j : Int, 0 ≤ j → j < h → 0 ≤ S.2.1 j ∧ S.2.1 j ≤ 9) : AM G l yX3_place mdP1 [aR 54, aI h, aI stp] (LAY L) P (putS Mb S) (zdet none (LAY L) P (putS Mb (plF (Mb 57) (Mb 58) hs 1 h stp S))) := by
  refine AM.go [some (aR 54), some (aI h), some (aI stp), none] rfl (Nat.le_of_ble_eq_true rfl) ?_ (by decide) rfl rfl
  refine a_iloadn dX3_place_0 rfl ?_
  refine a_aloadn dX3_place_1 rfl ?_
  refine b_getI (j' := 8) dX3_place_2 flX3_61 rfl rfl (L54 L) (fun hr2 => ?_)
  try simp (disch := omega) only [sm_n, sm_k, us_s, us_n, putS_f, putS_6, putS_t, putS_c, putS_n, hhs] at hr2 ⊢
  refine a_icmp_lt (tgt := 9) dX3_place_5 (by decide) ⟨by omega, by omega⟩ rF (fun hb5 => ?_) (fun hb5 => ?_)
  · refine a_iloadn dX3_place_9 rfl ?_
    refine a_aloadn dX3_place_10 rfl ?_
    refine b_getI (j' := 6) dX3_place_11 flX3_87 rfl rfl (L54 L) (fun hr11 => ?_)
    try simp (disch := omega) only [sm_n, sm_k, us_s, us_n, putS_f, putS_6, putS_t, putS_c, putS_n, hhs] at hr11 ⊢
    refine a_icmp_lt (tgt := 54) dX3_place_14 (by decide) ⟨by omega, by omega⟩ ⟨by omega, by omega⟩ (fun hb14 => ?_) (fun hb14 => ?_)
    · refine a_iconst dX3_place_54 ?_
      refine c_istoren (ls' := [_, _, _, _]) dX3_place_55 (by decide) rfl rfl ?_
      have e1 : plF (Mb 57) (Mb 58) hs 1 h stp S = plL (Mb 57) (Mb 58) h stp (plF (Mb 57) (Mb 58) hs 0 (h + 1)) 10 0 S := by simp only [plF]; rw [if_neg (by omega)]
      rw [e1]
      exact lpP1 hP hh hhs e0 h0 rs hfr 10 0 S (by omega) (by omega) rF hT
    · exfalso; omega
  · exact a_return dX3_place_8 rfl rfl rfl (zdet_V (by simp only [plF]; rw [if_pos (by omega)]))

set_option maxRecDepth 100000 in
set_option maxHeartbeats 4000000 in
theorem lpP2 {G : zG} {l : Launch} {L : Nat} {P : zP} {Mb : zM} {hs h stp : Int} (hP : PFok P) (hh : 0 ≤ hs ∧ hs ≤ 4) (hhs : Mb 54 6 = hs) (e0 : h + 2 = hs) (h0 : 0 ≤ h) (rs : 0 ≤ stp ∧ stp + 198 ≤ 1000000) (hfr : ∀ j : Int, 0 ≤ j → j < hs → 0 ≤ Mb 58 j ∧ Mb 58 j ≤ 99) : ∀ (n : Nat) (i : Int) (S : PS) (g0 : 0 ≤ i) (g1 : i + n = 10) (rF : inR S.1) (hT : ∀ j : Int, 0 ≤ j → j < h → 0 ≤ S.2.1 j ∧ S.2.1 j ≤ 9), AW G l mdP2 (zdet none (LAY L) P (putS Mb (plL (Mb 57) (Mb 58) h stp (plF (Mb 57) (Mb 58) hs 1 (h + 1)) n i S))) 56 [some (aR 54), some (aI h), some (aI stp), some (aI i)] [] (LAY L) P (putS Mb S) 0 0 := by
  intro n
  induction n with
  | zero =>
    intro i S g0 g1 rF hT
    refine a_iloadn dX3_place_56 rfl ?_
    refine a_bipush (w := 10) dX3_place_57 (by decide) ?_
    refine a_icmp_ge (tgt := 106) dX3_place_59 (by decide) ⟨by omega, by omega⟩ ⟨by omega, by omega⟩ (fun hb59 => ?_) (fun hb59 => ?_)
    · exact a_return dX3_place_106 rfl rfl rfl (zdet_V rfl)
    · exfalso; omega
  | succ n ih =>
    intro i S g0 g1 rF hT
    refine a_iloadn dX3_place_56 rfl ?_
    refine a_bipush (w := 10) dX3_place_57 (by decide) ?_
    refine a_icmp_ge (tgt := 106) dX3_place_59 (by decide) ⟨by omega, by omega⟩ ⟨by omega, by omega⟩ (fun hb59 => ?_) (fun hb59 => ?_)
    · exfalso; omega
    · have hT2 : ∀ j : Int, 0 ≤ j → j ≤ h → 0 ≤ us S.2.1 h i j ∧ us S.2.1 h i j ≤ 9 := fun j j0 j1 => by
        by_cases ej : j = h
        · subst ej; rw [us_s]; omega
        · rw [us_n ej]; exact hT j j0 (by omega)
      have q5 := hfr h h0 (by omega)
      have q6 := iabs_99 (x := i * 11) (y := Mb 58 h) (by omega) q5
      refine a_aloadn dX3_place_62 rfl ?_
      refine a_getR (j' := 5) (y := 59) dX3_place_63 flX3_25 rfl rfl (L54 L) (p54_5 hP) ?_
      refine a_iloadn dX3_place_66 rfl ?_
      refine a_iloadn dX3_place_67 rfl ?_
      refine a_iast (N := 4) dX3_place_68 (L59 L) (by decide) (by decide) (by omega) (by omega) ⟨by omega, by omega⟩ ?_
      rw [putS_st]
      refine a_aloadn dX3_place_69 rfl ?_
      refine a_iloadn dX3_place_70 rfl ?_
      refine a_oneV (as := [_]) (q := 54) dX3_place_71 mvX3_103 ⟨by decide, by decide⟩ (L54 L) rfl rfl rfl (Nat.le_of_ble_eq_true rfl) ⟨rfl, rfl⟩ ⟨by decide, by decide⟩ (m_X3_isApartFromThoseBefore hP h0 (by omega) (fun j j0 j1 => by rw [putS_t]; exact hT2 j j0 j1)) (fun x71 hx71 => ?_)
      rw [putS_n Mb (S.1, us S.2.1 h i, S.2.2) (k := 57) (by decide) (by decide) (by decide), putS_t Mb (S.1, us S.2.1 h i, S.2.2)] at hx71
      replace hx71 : x71 = zall (fun j => Mb 57 ((j * 10 + us S.2.1 h i j) * 40 + h * 10 + us S.2.1 h i h)) h.toNat 0 := hx71
      have z71 := zall01 (fun j => Mb 57 ((j * 10 + us S.2.1 h i j) * 40 + h * 10 + us S.2.1 h i h)) h.toNat 0
      refine a_if_eq (tgt := 100) dX3_place_74 (by decide) ⟨by omega, by omega⟩ (fun hb74 => ?_) (fun hb74 => ?_)
      · refine c_iinc (ls' := [_, _, _, _]) dX3_place_100 rfl (by decide) rfl rfl ?_
        refine a_goto (tgt := 56) dX3_place_103 (by decide) ?_
        simp only [plL]
        first
        | (rw [if_pos (by omega)]; exact ih _ (S.1, us S.2.1 h i, S.2.2) (by omega) (by omega) rF (fun j j0 j1 => hT2 j j0 (by omega)))
        | (rw [if_neg (by omega)]
           have hv9 := plF_inv (Mb 57) (Mb 58) hfr 1 (h + 1) (stp + iabs (i * 11 - Mb 58 h)) (S.1, us S.2.1 h i, S.2.2) (by omega) (by omega) (by omega) (by omega) rF
           exact ih _ _ (by omega) (by omega) hv9.1 (fun j j0 j1 => by rw [hv9.2 j (by omega)]; exact hT2 j j0 (by omega)))
      · refine a_aloadn dX3_place_77 rfl ?_
        refine a_iloadn dX3_place_78 rfl ?_
        refine a_iconst dX3_place_79 ?_
        refine a_iadd dX3_place_80 ?_
        refine a_iloadn dX3_place_81 rfl ?_
        refine a_iloadn dX3_place_82 rfl ?_
        refine a_bipush (w := 11) dX3_place_83 (by decide) ?_
        refine a_imul dX3_place_85 ?_
        refine a_aloadn dX3_place_86 rfl ?_
        refine a_getR (j' := 4) (y := 58) dX3_place_87 flX3_21 rfl rfl (L54 L) (p54_4 hP) ?_
        refine a_iloadn dX3_place_90 rfl ?_
        refine b_iald (N := 4) dX3_place_91 (L58 L) (by decide) (by omega) (by omega) (fun hr91 => ?_)
        try simp (disch := omega) only [sm_n, sm_k, us_s, us_n, putS_f, putS_6, putS_t, putS_c, putS_n, hhs] at hr91 ⊢
        refine a_isub dX3_place_92 ?_
        refine c_abs dX3_place_93 mmX3_53 (Nat.le_of_ble_eq_true rfl) ⟨by decide, by decide⟩ ⟨by decide, by decide⟩ ⟨by omega, by omega⟩ ?_
        refine a_iadd dX3_place_96 ?_
        refine a_callVv (as := [_, _]) (q := 54) dX3_place_97 mvP1 ⟨by decide, by decide⟩ (L54 L) rfl rfl rfl (Nat.le_of_ble_eq_true rfl) ⟨rfl, rfl⟩ ⟨by decide, by decide⟩ (m_place1 (S := (S.1, us S.2.1 h i, S.2.2)) hP hh hhs (by omega) (by omega) (by omega) hfr rF (fun j j0 j1 => hT2 j j0 (by omega))) ?_
        refine c_iinc (ls' := [_, _, _, _]) dX3_place_100 rfl (by decide) rfl rfl ?_
        refine a_goto (tgt := 56) dX3_place_103 (by decide) ?_
        simp only [plL]
        first
        | (rw [if_pos (by omega)]; exact ih _ (S.1, us S.2.1 h i, S.2.2) (by omega) (by omega) rF (fun j j0 j1 => hT2 j j0 (by omega)))
        | (rw [if_neg (by omega)]
           have hv9 := plF_inv (Mb 57) (Mb 58) hfr 1 (h + 1) (stp + iabs (i * 11 - Mb 58 h)) (S.1, us S.2.1 h i, S.2.2) (by omega) (by omega) (by omega) (by omega) rF
           exact ih _ _ (by omega) (by omega) hv9.1 (fun j j0 j1 => by rw [hv9.2 j (by omega)]; exact hT2 j j0 (by omega)))

set_option maxRecDepth 100000 in
set_option maxHeartbeats 4000000 in
theorem m_place2 {G : zG} {l : Launch} {L : Nat} {P : zP} {Mb : zM} {hs h stp : Int} {S : PS} (hP : PFok P) (hh : 0 ≤ hs ∧ hs ≤ 4) (hhs : Mb 54 6 = hs) (e0 : h + 2 = hs) (h0 : 0 ≤ h) (rs : 0 ≤ stp ∧ stp + 198 ≤ 1000000) (hfr : ∀ j : Int, 0 ≤ j → j < hs → 0 ≤ Mb 58 j ∧ Mb 58 j ≤ 99) (rF : inR S.1) (hT : ∀ j : Int, 0 ≤ j → j < h → 0 ≤ S.2.1 j ∧ S.2.1 j ≤ 9) : AM G l yX3_place mdP2 [aR 54, aI h, aI stp] (LAY L) P (putS Mb S) (zdet none (LAY L) P (putS Mb (plF (Mb 57) (Mb 58) hs 2 h stp S))) := by
  refine AM.go [some (aR 54), some (aI h), some (aI stp), none] rfl (Nat.le_of_ble_eq_true rfl) ?_ (by decide) rfl rfl
  refine a_iloadn dX3_place_0 rfl ?_
  refine a_aloadn dX3_place_1 rfl ?_
  refine b_getI (j' := 8) dX3_place_2 flX3_61 rfl rfl (L54 L) (fun hr2 => ?_)
  try simp (disch := omega) only [sm_n, sm_k, us_s, us_n, putS_f, putS_6, putS_t, putS_c, putS_n, hhs] at hr2 ⊢
  refine a_icmp_lt (tgt := 9) dX3_place_5 (by decide) ⟨by omega, by omega⟩ rF (fun hb5 => ?_) (fun hb5 => ?_)
  · refine a_iloadn dX3_place_9 rfl ?_
    refine a_aloadn dX3_place_10 rfl ?_
    refine b_getI (j' := 6) dX3_place_11 flX3_87 rfl rfl (L54 L) (fun hr11 => ?_)
    try simp (disch := omega) only [sm_n, sm_k, us_s, us_n, putS_f, putS_6, putS_t, putS_c, putS_n, hhs] at hr11 ⊢
    refine a_icmp_lt (tgt := 54) dX3_place_14 (by decide) ⟨by omega, by omega⟩ ⟨by omega, by omega⟩ (fun hb14 => ?_) (fun hb14 => ?_)
    · refine a_iconst dX3_place_54 ?_
      refine c_istoren (ls' := [_, _, _, _]) dX3_place_55 (by decide) rfl rfl ?_
      have e1 : plF (Mb 57) (Mb 58) hs 2 h stp S = plL (Mb 57) (Mb 58) h stp (plF (Mb 57) (Mb 58) hs 1 (h + 1)) 10 0 S := by simp only [plF]; rw [if_neg (by omega)]
      rw [e1]
      exact lpP2 hP hh hhs e0 h0 rs hfr 10 0 S (by omega) (by omega) rF hT
    · exfalso; omega
  · exact a_return dX3_place_8 rfl rfl rfl (zdet_V (by simp only [plF]; rw [if_pos (by omega)]))

set_option maxRecDepth 100000 in
set_option maxHeartbeats 4000000 in
theorem lpP3 {G : zG} {l : Launch} {L : Nat} {P : zP} {Mb : zM} {hs h stp : Int} (hP : PFok P) (hh : 0 ≤ hs ∧ hs ≤ 4) (hhs : Mb 54 6 = hs) (e0 : h + 3 = hs) (h0 : 0 ≤ h) (rs : 0 ≤ stp ∧ stp + 297 ≤ 1000000) (hfr : ∀ j : Int, 0 ≤ j → j < hs → 0 ≤ Mb 58 j ∧ Mb 58 j ≤ 99) : ∀ (n : Nat) (i : Int) (S : PS) (g0 : 0 ≤ i) (g1 : i + n = 10) (rF : inR S.1) (hT : ∀ j : Int, 0 ≤ j → j < h → 0 ≤ S.2.1 j ∧ S.2.1 j ≤ 9), AW G l mdP3 (zdet none (LAY L) P (putS Mb (plL (Mb 57) (Mb 58) h stp (plF (Mb 57) (Mb 58) hs 2 (h + 1)) n i S))) 56 [some (aR 54), some (aI h), some (aI stp), some (aI i)] [] (LAY L) P (putS Mb S) 0 0 := by
  intro n
  induction n with
  | zero =>
    intro i S g0 g1 rF hT
    refine a_iloadn dX3_place_56 rfl ?_
    refine a_bipush (w := 10) dX3_place_57 (by decide) ?_
    refine a_icmp_ge (tgt := 106) dX3_place_59 (by decide) ⟨by omega, by omega⟩ ⟨by omega, by omega⟩ (fun hb59 => ?_) (fun hb59 => ?_)
    · exact a_return dX3_place_106 rfl rfl rfl (zdet_V rfl)
    · exfalso; omega
  | succ n ih =>
    intro i S g0 g1 rF hT
    refine a_iloadn dX3_place_56 rfl ?_
    refine a_bipush (w := 10) dX3_place_57 (by decide) ?_
    refine a_icmp_ge (tgt := 106) dX3_place_59 (by decide) ⟨by omega, by omega⟩ ⟨by omega, by omega⟩ (fun hb59 => ?_) (fun hb59 => ?_)
    · exfalso; omega
    · have hT2 : ∀ j : Int, 0 ≤ j → j ≤ h → 0 ≤ us S.2.1 h i j ∧ us S.2.1 h i j ≤ 9 := fun j j0 j1 => by
        by_cases ej : j = h
        · subst ej; rw [us_s]; omega
        · rw [us_n ej]; exact hT j j0 (by omega)
      have q5 := hfr h h0 (by omega)
      have q6 := iabs_99 (x := i * 11) (y := Mb 58 h) (by omega) q5
      refine a_aloadn dX3_place_62 rfl ?_
      refine a_getR (j' := 5) (y := 59) dX3_place_63 flX3_25 rfl rfl (L54 L) (p54_5 hP) ?_
      refine a_iloadn dX3_place_66 rfl ?_
      refine a_iloadn dX3_place_67 rfl ?_
      refine a_iast (N := 4) dX3_place_68 (L59 L) (by decide) (by decide) (by omega) (by omega) ⟨by omega, by omega⟩ ?_
      rw [putS_st]
      refine a_aloadn dX3_place_69 rfl ?_
      refine a_iloadn dX3_place_70 rfl ?_
      refine a_oneV (as := [_]) (q := 54) dX3_place_71 mvX3_103 ⟨by decide, by decide⟩ (L54 L) rfl rfl rfl (Nat.le_of_ble_eq_true rfl) ⟨rfl, rfl⟩ ⟨by decide, by decide⟩ (m_X3_isApartFromThoseBefore hP h0 (by omega) (fun j j0 j1 => by rw [putS_t]; exact hT2 j j0 j1)) (fun x71 hx71 => ?_)
      rw [putS_n Mb (S.1, us S.2.1 h i, S.2.2) (k := 57) (by decide) (by decide) (by decide), putS_t Mb (S.1, us S.2.1 h i, S.2.2)] at hx71
      replace hx71 : x71 = zall (fun j => Mb 57 ((j * 10 + us S.2.1 h i j) * 40 + h * 10 + us S.2.1 h i h)) h.toNat 0 := hx71
      have z71 := zall01 (fun j => Mb 57 ((j * 10 + us S.2.1 h i j) * 40 + h * 10 + us S.2.1 h i h)) h.toNat 0
      refine a_if_eq (tgt := 100) dX3_place_74 (by decide) ⟨by omega, by omega⟩ (fun hb74 => ?_) (fun hb74 => ?_)
      · refine c_iinc (ls' := [_, _, _, _]) dX3_place_100 rfl (by decide) rfl rfl ?_
        refine a_goto (tgt := 56) dX3_place_103 (by decide) ?_
        simp only [plL]
        first
        | (rw [if_pos (by omega)]; exact ih _ (S.1, us S.2.1 h i, S.2.2) (by omega) (by omega) rF (fun j j0 j1 => hT2 j j0 (by omega)))
        | (rw [if_neg (by omega)]
           have hv9 := plF_inv (Mb 57) (Mb 58) hfr 2 (h + 1) (stp + iabs (i * 11 - Mb 58 h)) (S.1, us S.2.1 h i, S.2.2) (by omega) (by omega) (by omega) (by omega) rF
           exact ih _ _ (by omega) (by omega) hv9.1 (fun j j0 j1 => by rw [hv9.2 j (by omega)]; exact hT2 j j0 (by omega)))
      · refine a_aloadn dX3_place_77 rfl ?_
        refine a_iloadn dX3_place_78 rfl ?_
        refine a_iconst dX3_place_79 ?_
        refine a_iadd dX3_place_80 ?_
        refine a_iloadn dX3_place_81 rfl ?_
        refine a_iloadn dX3_place_82 rfl ?_
        refine a_bipush (w := 11) dX3_place_83 (by decide) ?_
        refine a_imul dX3_place_85 ?_
        refine a_aloadn dX3_place_86 rfl ?_
        refine a_getR (j' := 4) (y := 58) dX3_place_87 flX3_21 rfl rfl (L54 L) (p54_4 hP) ?_
        refine a_iloadn dX3_place_90 rfl ?_
        refine b_iald (N := 4) dX3_place_91 (L58 L) (by decide) (by omega) (by omega) (fun hr91 => ?_)
        try simp (disch := omega) only [sm_n, sm_k, us_s, us_n, putS_f, putS_6, putS_t, putS_c, putS_n, hhs] at hr91 ⊢
        refine a_isub dX3_place_92 ?_
        refine c_abs dX3_place_93 mmX3_53 (Nat.le_of_ble_eq_true rfl) ⟨by decide, by decide⟩ ⟨by decide, by decide⟩ ⟨by omega, by omega⟩ ?_
        refine a_iadd dX3_place_96 ?_
        refine a_callVv (as := [_, _]) (q := 54) dX3_place_97 mvP2 ⟨by decide, by decide⟩ (L54 L) rfl rfl rfl (Nat.le_of_ble_eq_true rfl) ⟨rfl, rfl⟩ ⟨by decide, by decide⟩ (m_place2 (S := (S.1, us S.2.1 h i, S.2.2)) hP hh hhs (by omega) (by omega) (by omega) hfr rF (fun j j0 j1 => hT2 j j0 (by omega))) ?_
        refine c_iinc (ls' := [_, _, _, _]) dX3_place_100 rfl (by decide) rfl rfl ?_
        refine a_goto (tgt := 56) dX3_place_103 (by decide) ?_
        simp only [plL]
        first
        | (rw [if_pos (by omega)]; exact ih _ (S.1, us S.2.1 h i, S.2.2) (by omega) (by omega) rF (fun j j0 j1 => hT2 j j0 (by omega)))
        | (rw [if_neg (by omega)]
           have hv9 := plF_inv (Mb 57) (Mb 58) hfr 2 (h + 1) (stp + iabs (i * 11 - Mb 58 h)) (S.1, us S.2.1 h i, S.2.2) (by omega) (by omega) (by omega) (by omega) rF
           exact ih _ _ (by omega) (by omega) hv9.1 (fun j j0 j1 => by rw [hv9.2 j (by omega)]; exact hT2 j j0 (by omega)))

set_option maxRecDepth 100000 in
set_option maxHeartbeats 4000000 in
theorem m_place3 {G : zG} {l : Launch} {L : Nat} {P : zP} {Mb : zM} {hs h stp : Int} {S : PS} (hP : PFok P) (hh : 0 ≤ hs ∧ hs ≤ 4) (hhs : Mb 54 6 = hs) (e0 : h + 3 = hs) (h0 : 0 ≤ h) (rs : 0 ≤ stp ∧ stp + 297 ≤ 1000000) (hfr : ∀ j : Int, 0 ≤ j → j < hs → 0 ≤ Mb 58 j ∧ Mb 58 j ≤ 99) (rF : inR S.1) (hT : ∀ j : Int, 0 ≤ j → j < h → 0 ≤ S.2.1 j ∧ S.2.1 j ≤ 9) : AM G l yX3_place mdP3 [aR 54, aI h, aI stp] (LAY L) P (putS Mb S) (zdet none (LAY L) P (putS Mb (plF (Mb 57) (Mb 58) hs 3 h stp S))) := by
  refine AM.go [some (aR 54), some (aI h), some (aI stp), none] rfl (Nat.le_of_ble_eq_true rfl) ?_ (by decide) rfl rfl
  refine a_iloadn dX3_place_0 rfl ?_
  refine a_aloadn dX3_place_1 rfl ?_
  refine b_getI (j' := 8) dX3_place_2 flX3_61 rfl rfl (L54 L) (fun hr2 => ?_)
  try simp (disch := omega) only [sm_n, sm_k, us_s, us_n, putS_f, putS_6, putS_t, putS_c, putS_n, hhs] at hr2 ⊢
  refine a_icmp_lt (tgt := 9) dX3_place_5 (by decide) ⟨by omega, by omega⟩ rF (fun hb5 => ?_) (fun hb5 => ?_)
  · refine a_iloadn dX3_place_9 rfl ?_
    refine a_aloadn dX3_place_10 rfl ?_
    refine b_getI (j' := 6) dX3_place_11 flX3_87 rfl rfl (L54 L) (fun hr11 => ?_)
    try simp (disch := omega) only [sm_n, sm_k, us_s, us_n, putS_f, putS_6, putS_t, putS_c, putS_n, hhs] at hr11 ⊢
    refine a_icmp_lt (tgt := 54) dX3_place_14 (by decide) ⟨by omega, by omega⟩ ⟨by omega, by omega⟩ (fun hb14 => ?_) (fun hb14 => ?_)
    · refine a_iconst dX3_place_54 ?_
      refine c_istoren (ls' := [_, _, _, _]) dX3_place_55 (by decide) rfl rfl ?_
      have e1 : plF (Mb 57) (Mb 58) hs 3 h stp S = plL (Mb 57) (Mb 58) h stp (plF (Mb 57) (Mb 58) hs 2 (h + 1)) 10 0 S := by simp only [plF]; rw [if_neg (by omega)]
      rw [e1]
      exact lpP3 hP hh hhs e0 h0 rs hfr 10 0 S (by omega) (by omega) rF hT
    · exfalso; omega
  · exact a_return dX3_place_8 rfl rfl rfl (zdet_V (by simp only [plF]; rw [if_pos (by omega)]))

set_option maxRecDepth 100000 in
set_option maxHeartbeats 4000000 in
theorem lpP4 {G : zG} {l : Launch} {L : Nat} {P : zP} {Mb : zM} {hs h stp : Int} (hP : PFok P) (hh : 0 ≤ hs ∧ hs ≤ 4) (hhs : Mb 54 6 = hs) (e0 : h + 4 = hs) (h0 : 0 ≤ h) (rs : 0 ≤ stp ∧ stp + 396 ≤ 1000000) (hfr : ∀ j : Int, 0 ≤ j → j < hs → 0 ≤ Mb 58 j ∧ Mb 58 j ≤ 99) : ∀ (n : Nat) (i : Int) (S : PS) (g0 : 0 ≤ i) (g1 : i + n = 10) (rF : inR S.1) (hT : ∀ j : Int, 0 ≤ j → j < h → 0 ≤ S.2.1 j ∧ S.2.1 j ≤ 9), AW G l mdP4 (zdet none (LAY L) P (putS Mb (plL (Mb 57) (Mb 58) h stp (plF (Mb 57) (Mb 58) hs 3 (h + 1)) n i S))) 56 [some (aR 54), some (aI h), some (aI stp), some (aI i)] [] (LAY L) P (putS Mb S) 0 0 := by
  intro n
  induction n with
  | zero =>
    intro i S g0 g1 rF hT
    refine a_iloadn dX3_place_56 rfl ?_
    refine a_bipush (w := 10) dX3_place_57 (by decide) ?_
    refine a_icmp_ge (tgt := 106) dX3_place_59 (by decide) ⟨by omega, by omega⟩ ⟨by omega, by omega⟩ (fun hb59 => ?_) (fun hb59 => ?_)
    · exact a_return dX3_place_106 rfl rfl rfl (zdet_V rfl)
    · exfalso; omega
  | succ n ih =>
    intro i S g0 g1 rF hT
    refine a_iloadn dX3_place_56 rfl ?_
    refine a_bipush (w := 10) dX3_place_57 (by decide) ?_
    refine a_icmp_ge (tgt := 106) dX3_place_59 (by decide) ⟨by omega, by omega⟩ ⟨by omega, by omega⟩ (fun hb59 => ?_) (fun hb59 => ?_)
    · exfalso; omega
    · have hT2 : ∀ j : Int, 0 ≤ j → j ≤ h → 0 ≤ us S.2.1 h i j ∧ us S.2.1 h i j ≤ 9 := fun j j0 j1 => by
        by_cases ej : j = h
        · subst ej; rw [us_s]; omega
        · rw [us_n ej]; exact hT j j0 (by omega)
      have q5 := hfr h h0 (by omega)
      have q6 := iabs_99 (x := i * 11) (y := Mb 58 h) (by omega) q5
      refine a_aloadn dX3_place_62 rfl ?_
      refine a_getR (j' := 5) (y := 59) dX3_place_63 flX3_25 rfl rfl (L54 L) (p54_5 hP) ?_
      refine a_iloadn dX3_place_66 rfl ?_
      refine a_iloadn dX3_place_67 rfl ?_
      refine a_iast (N := 4) dX3_place_68 (L59 L) (by decide) (by decide) (by omega) (by omega) ⟨by omega, by omega⟩ ?_
      rw [putS_st]
      refine a_aloadn dX3_place_69 rfl ?_
      refine a_iloadn dX3_place_70 rfl ?_
      refine a_oneV (as := [_]) (q := 54) dX3_place_71 mvX3_103 ⟨by decide, by decide⟩ (L54 L) rfl rfl rfl (Nat.le_of_ble_eq_true rfl) ⟨rfl, rfl⟩ ⟨by decide, by decide⟩ (m_X3_isApartFromThoseBefore hP h0 (by omega) (fun j j0 j1 => by rw [putS_t]; exact hT2 j j0 j1)) (fun x71 hx71 => ?_)
      rw [putS_n Mb (S.1, us S.2.1 h i, S.2.2) (k := 57) (by decide) (by decide) (by decide), putS_t Mb (S.1, us S.2.1 h i, S.2.2)] at hx71
      replace hx71 : x71 = zall (fun j => Mb 57 ((j * 10 + us S.2.1 h i j) * 40 + h * 10 + us S.2.1 h i h)) h.toNat 0 := hx71
      have z71 := zall01 (fun j => Mb 57 ((j * 10 + us S.2.1 h i j) * 40 + h * 10 + us S.2.1 h i h)) h.toNat 0
      refine a_if_eq (tgt := 100) dX3_place_74 (by decide) ⟨by omega, by omega⟩ (fun hb74 => ?_) (fun hb74 => ?_)
      · refine c_iinc (ls' := [_, _, _, _]) dX3_place_100 rfl (by decide) rfl rfl ?_
        refine a_goto (tgt := 56) dX3_place_103 (by decide) ?_
        simp only [plL]
        first
        | (rw [if_pos (by omega)]; exact ih _ (S.1, us S.2.1 h i, S.2.2) (by omega) (by omega) rF (fun j j0 j1 => hT2 j j0 (by omega)))
        | (rw [if_neg (by omega)]
           have hv9 := plF_inv (Mb 57) (Mb 58) hfr 3 (h + 1) (stp + iabs (i * 11 - Mb 58 h)) (S.1, us S.2.1 h i, S.2.2) (by omega) (by omega) (by omega) (by omega) rF
           exact ih _ _ (by omega) (by omega) hv9.1 (fun j j0 j1 => by rw [hv9.2 j (by omega)]; exact hT2 j j0 (by omega)))
      · refine a_aloadn dX3_place_77 rfl ?_
        refine a_iloadn dX3_place_78 rfl ?_
        refine a_iconst dX3_place_79 ?_
        refine a_iadd dX3_place_80 ?_
        refine a_iloadn dX3_place_81 rfl ?_
        refine a_iloadn dX3_place_82 rfl ?_
        refine a_bipush (w := 11) dX3_place_83 (by decide) ?_
        refine a_imul dX3_place_85 ?_
        refine a_aloadn dX3_place_86 rfl ?_
        refine a_getR (j' := 4) (y := 58) dX3_place_87 flX3_21 rfl rfl (L54 L) (p54_4 hP) ?_
        refine a_iloadn dX3_place_90 rfl ?_
        refine b_iald (N := 4) dX3_place_91 (L58 L) (by decide) (by omega) (by omega) (fun hr91 => ?_)
        try simp (disch := omega) only [sm_n, sm_k, us_s, us_n, putS_f, putS_6, putS_t, putS_c, putS_n, hhs] at hr91 ⊢
        refine a_isub dX3_place_92 ?_
        refine c_abs dX3_place_93 mmX3_53 (Nat.le_of_ble_eq_true rfl) ⟨by decide, by decide⟩ ⟨by decide, by decide⟩ ⟨by omega, by omega⟩ ?_
        refine a_iadd dX3_place_96 ?_
        refine a_callVv (as := [_, _]) (q := 54) dX3_place_97 mvP3 ⟨by decide, by decide⟩ (L54 L) rfl rfl rfl (Nat.le_of_ble_eq_true rfl) ⟨rfl, rfl⟩ ⟨by decide, by decide⟩ (m_place3 (S := (S.1, us S.2.1 h i, S.2.2)) hP hh hhs (by omega) (by omega) (by omega) hfr rF (fun j j0 j1 => hT2 j j0 (by omega))) ?_
        refine c_iinc (ls' := [_, _, _, _]) dX3_place_100 rfl (by decide) rfl rfl ?_
        refine a_goto (tgt := 56) dX3_place_103 (by decide) ?_
        simp only [plL]
        first
        | (rw [if_pos (by omega)]; exact ih _ (S.1, us S.2.1 h i, S.2.2) (by omega) (by omega) rF (fun j j0 j1 => hT2 j j0 (by omega)))
        | (rw [if_neg (by omega)]
           have hv9 := plF_inv (Mb 57) (Mb 58) hfr 3 (h + 1) (stp + iabs (i * 11 - Mb 58 h)) (S.1, us S.2.1 h i, S.2.2) (by omega) (by omega) (by omega) (by omega) rF
           exact ih _ _ (by omega) (by omega) hv9.1 (fun j j0 j1 => by rw [hv9.2 j (by omega)]; exact hT2 j j0 (by omega)))

set_option maxRecDepth 100000 in
set_option maxHeartbeats 4000000 in
theorem m_place4 {G : zG} {l : Launch} {L : Nat} {P : zP} {Mb : zM} {hs h stp : Int} {S : PS} (hP : PFok P) (hh : 0 ≤ hs ∧ hs ≤ 4) (hhs : Mb 54 6 = hs) (e0 : h + 4 = hs) (h0 : 0 ≤ h) (rs : 0 ≤ stp ∧ stp + 396 ≤ 1000000) (hfr : ∀ j : Int, 0 ≤ j → j < hs → 0 ≤ Mb 58 j ∧ Mb 58 j ≤ 99) (rF : inR S.1) (hT : ∀ j : Int, 0 ≤ j → j < h → 0 ≤ S.2.1 j ∧ S.2.1 j ≤ 9) : AM G l yX3_place mdP4 [aR 54, aI h, aI stp] (LAY L) P (putS Mb S) (zdet none (LAY L) P (putS Mb (plF (Mb 57) (Mb 58) hs 4 h stp S))) := by
  refine AM.go [some (aR 54), some (aI h), some (aI stp), none] rfl (Nat.le_of_ble_eq_true rfl) ?_ (by decide) rfl rfl
  refine a_iloadn dX3_place_0 rfl ?_
  refine a_aloadn dX3_place_1 rfl ?_
  refine b_getI (j' := 8) dX3_place_2 flX3_61 rfl rfl (L54 L) (fun hr2 => ?_)
  try simp (disch := omega) only [sm_n, sm_k, us_s, us_n, putS_f, putS_6, putS_t, putS_c, putS_n, hhs] at hr2 ⊢
  refine a_icmp_lt (tgt := 9) dX3_place_5 (by decide) ⟨by omega, by omega⟩ rF (fun hb5 => ?_) (fun hb5 => ?_)
  · refine a_iloadn dX3_place_9 rfl ?_
    refine a_aloadn dX3_place_10 rfl ?_
    refine b_getI (j' := 6) dX3_place_11 flX3_87 rfl rfl (L54 L) (fun hr11 => ?_)
    try simp (disch := omega) only [sm_n, sm_k, us_s, us_n, putS_f, putS_6, putS_t, putS_c, putS_n, hhs] at hr11 ⊢
    refine a_icmp_lt (tgt := 54) dX3_place_14 (by decide) ⟨by omega, by omega⟩ ⟨by omega, by omega⟩ (fun hb14 => ?_) (fun hb14 => ?_)
    · refine a_iconst dX3_place_54 ?_
      refine c_istoren (ls' := [_, _, _, _]) dX3_place_55 (by decide) rfl rfl ?_
      have e1 : plF (Mb 57) (Mb 58) hs 4 h stp S = plL (Mb 57) (Mb 58) h stp (plF (Mb 57) (Mb 58) hs 3 (h + 1)) 10 0 S := by simp only [plF]; rw [if_neg (by omega)]
      rw [e1]
      exact lpP4 hP hh hhs e0 h0 rs hfr 10 0 S (by omega) (by omega) rF hT
    · exfalso; omega
  · exact a_return dX3_place_8 rfl rfl rfl (zdet_V (by simp only [plF]; rw [if_pos (by omega)]))
