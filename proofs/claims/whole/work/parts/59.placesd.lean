/-- how many houses are spread -/
def n4 (M : zM) (t : Nat) : Int := if M t 2 < 4 then M t 2 else 4
/-- marked and laid: what a spread begins with -/
def SpR (t : Nat) (M0 Mb : zM) : Prop := Mb 54 6 = n4 M0 t ∧ (∀ j : Int, 0 ≤ j → j < n4 M0 t → Mb 58 j = M0 68 j) ∧ ∀ a b : Int, 0 ≤ a → a < b → b < n4 M0 t → Ap M0 Mb t a b

set_option maxRecDepth 100000 in
set_option maxHeartbeats 4000000 in
theorem lpX3_findSpread1 {G : zG} {l : Launch} {L : Nat} {P : zP} {M0 : zM} {t : Nat} {Z : zZ} (hc : CS L P t 67) (hI : CI M0 t 67) : ∀ (n : Nat) (i : Int) (M : zM) (g0 : 0 ≤ i) (g1 : i + n = n4 M0 t) (hp : Pq M0 M) (h68 : M 68 = M0 68) (h54 : M 54 6 = n4 M0 t) (hj : ∀ j : Int, 0 ≤ j → j < i → M 58 j = M0 68 j) (kk : ∀ M' : zM, Pq M0 M' → M' 68 = M0 68 → M' 54 6 = n4 M0 t → (∀ j : Int, 0 ≤ j → j < n4 M0 t → M' 58 j = M0 68 j) → AW G l mdX3_findSpread Z 46 [some (aR 54), some (aR 67), none, none] [] (LAY L) P M' 0 0), AW G l mdX3_findSpread Z 20 [some (aR 54), some (aR 67), some (aI i), none] [] (LAY L) P M 0 0 := by
  intro n
  induction n with
  | zero =>
    intro i M g0 g1 hp h68 h54 hj kk
    obtain ⟨hP, hTp, hT, ht, hS, ha⟩ := id hc
    have q1 := hI.1.1
    have q4 : 0 ≤ n4 M0 t ∧ n4 M0 t ≤ 4 := by unfold n4; split <;> omega
    refine a_iloadn dX3_findSpread_20 rfl ?_
    refine a_aloadn dX3_findSpread_21 rfl ?_
    refine b_getI (j' := 6) dX3_findSpread_22 flX3_87 rfl rfl (L54 L) (fun hr22 => ?_)
    rw [h54] at hr22
    rw [h54]
    refine a_icmp_ge (tgt := 46) dX3_findSpread_25 (by decide) ⟨by omega, by omega⟩ ⟨by omega, by omega⟩ (fun hb25 => ?_) (fun hb25 => ?_)
    · refine a_forget [2] (ls' := [_, _, none, none]) rfl (kk M hp h68 h54 (fun j j0 j1 => hj j j0 (by omega)))
    · exfalso; omega
  | succ n ih =>
    intro i M g0 g1 hp h68 h54 hj kk
    obtain ⟨hP, hTp, hT, ht, hS, ha⟩ := id hc
    have q1 := hI.1.1
    have q4 : 0 ≤ n4 M0 t ∧ n4 M0 t ≤ 4 := by unfold n4; split <;> omega
    refine a_iloadn dX3_findSpread_20 rfl ?_
    refine a_aloadn dX3_findSpread_21 rfl ?_
    refine b_getI (j' := 6) dX3_findSpread_22 flX3_87 rfl rfl (L54 L) (fun hr22 => ?_)
    rw [h54] at hr22
    rw [h54]
    refine a_icmp_ge (tgt := 46) dX3_findSpread_25 (by decide) ⟨by omega, by omega⟩ ⟨by omega, by omega⟩ (fun hb25 => ?_) (fun hb25 => ?_)
    · exfalso; omega
    · refine a_aloadn dX3_findSpread_28 rfl ?_
      refine a_getR (j' := 4) (y := 58) dX3_findSpread_29 flX3_21 rfl rfl (L54 L) (p54_4 hP) ?_
      refine a_iloadn dX3_findSpread_32 rfl ?_
      refine a_aloadn dX3_findSpread_33 rfl ?_
      refine a_getR (j' := 0) (y := 68) dX3_findSpread_34 flX3_35 rfl rfl (L67 L) (p67_0 hP) ?_
      refine a_iloadn dX3_findSpread_37 rfl ?_
      refine b_iald (N := 6) dX3_findSpread_38 (L68 L) (by decide) (by omega) (by omega) (fun hr38 => ?_)
      rw [h68] at hr38
      rw [h68]
      refine a_iast (N := 4) dX3_findSpread_39 (L58 L) (by decide) (by decide) (by omega) (by omega) hr38 ?_
      refine c_iinc (ls' := [_, _, _, _]) dX3_findSpread_40 rfl (by decide) rfl rfl ?_
      refine a_goto (tgt := 20) dX3_findSpread_43 (by decide) ?_
      refine ih _ _ (by omega) (by omega) (hp.sm (by omega) _ _) (by rw [sm_n (by decide)]; exact h68) (by rw [sm_n (by decide)]; exact h54) (fun j j0 j1 => ?_) kk
      rw [sm_k]
      by_cases ej : j = i
      · subst ej; rw [us_s]
      · rw [us_n ej]; exact hj j j0 (by omega)

set_option maxRecDepth 100000 in
set_option maxHeartbeats 4000000 in
theorem lpX3_findSpread3 {G : zG} {l : Launch} {L : Nat} {P : zP} {M0 : zM} {t : Nat} {a : Int} {Z : zZ} (hc : CS L P t 67) (hI : CI M0 t 67) (a0 : 0 ≤ a) : ∀ (n : Nat) (b : Int) (M : zM) (g0 : a < b) (g1 : b + n = n4 M0 t) (hp : Pq M0 M) (hdk : Dk M) (h54 : M 54 6 = n4 M0 t) (h58 : ∀ j : Int, 0 ≤ j → j < n4 M0 t → M 58 j = M0 68 j) (hA : ∀ a' b' : Int, 0 ≤ a' → a' < b' → b' < n4 M0 t → (a' < a ∨ (a' = a ∧ b' < b)) → Ap M0 M t a' b') (kk : ∀ M' : zM, Pq M0 M' → Dk M' → M' 54 6 = n4 M0 t → (∀ j : Int, 0 ≤ j → j < n4 M0 t → M' 58 j = M0 68 j) → (∀ a' b' : Int, 0 ≤ a' → a' < b' → b' < n4 M0 t → a' < a + 1 → Ap M0 M' t a' b') → AW G l mdX3_findSpread Z 81 [some (aR 54), some (aR 67), some (aI a), none] [] (LAY L) P M' 0 0), AW G l mdX3_findSpread Z 60 [some (aR 54), some (aR 67), some (aI a), some (aI b)] [] (LAY L) P M 0 0 := by
  intro n
  induction n with
  | zero =>
    intro b M g0 g1 hp hdk h54 h58 hA kk
    obtain ⟨hP, hTp, hT, ht, hS, ha⟩ := id hc
    have q1 := hI.1.1
    have q4 : 0 ≤ n4 M0 t ∧ n4 M0 t ≤ 4 := by unfold n4; split <;> omega
    refine a_iloadn dX3_findSpread_60 rfl ?_
    refine a_aloadn dX3_findSpread_61 rfl ?_
    refine b_getI (j' := 6) dX3_findSpread_62 flX3_87 rfl rfl (L54 L) (fun hr62 => ?_)
    rw [h54] at hr62
    rw [h54]
    refine a_icmp_ge (tgt := 81) dX3_findSpread_65 (by decide) ⟨by omega, by omega⟩ ⟨by omega, by omega⟩ (fun hb65 => ?_) (fun hb65 => ?_)
    · refine a_forget [3] (ls' := [_, _, _, none]) rfl (kk M hp hdk h54 h58 (fun a' b' x0 x1 x2 x3 => hA a' b' x0 x1 x2 (by omega)))
    · exfalso; omega
  | succ n ih =>
    intro b M g0 g1 hp hdk h54 h58 hA kk
    obtain ⟨hP, hTp, hT, ht, hS, ha⟩ := id hc
    have q1 := hI.1.1
    have q4 : 0 ≤ n4 M0 t ∧ n4 M0 t ≤ 4 := by unfold n4; split <;> omega
    refine a_iloadn dX3_findSpread_60 rfl ?_
    refine a_aloadn dX3_findSpread_61 rfl ?_
    refine b_getI (j' := 6) dX3_findSpread_62 flX3_87 rfl rfl (L54 L) (fun hr62 => ?_)
    rw [h54] at hr62
    rw [h54]
    refine a_icmp_ge (tgt := 81) dX3_findSpread_65 (by decide) ⟨by omega, by omega⟩ ⟨by omega, by omega⟩ (fun hb65 => ?_) (fun hb65 => ?_)
    · exfalso; omega
    · refine a_aloadn dX3_findSpread_68 rfl ?_
      refine a_aloadn dX3_findSpread_69 rfl ?_
      refine a_iloadn dX3_findSpread_70 rfl ?_
      refine a_iloadn dX3_findSpread_71 rfl ?_
      refine a_relVv (as := [_, _, _]) (q := 54) dX3_findSpread_72 mvX3_88 ⟨by decide, by decide⟩ (L54 L) rfl rfl rfl (Nat.le_of_ble_eq_true rfl) ⟨rfl, rfl⟩ ⟨by decide, by decide⟩ (m_X3_markApart hc hI hp hdk a0 g0 (by omega)) (fun M1 hM1 => ?_)
      obtain ⟨c1, c2, c3, c4, c5⟩ := hM1
      refine c_iinc (ls' := [_, _, _, _]) dX3_findSpread_75 rfl (by decide) rfl rfl ?_
      refine a_goto (tgt := 60) dX3_findSpread_78 (by decide) ?_
      refine ih _ _ (by omega) (by omega) c1 c2 (by rw [c4 54 (by decide) (by decide) (by decide)]; exact h54) (fun j j0 j1 => by rw [c4 58 (by decide) (by decide) (by decide)]; exact h58 j j0 j1) (fun a' b' a9 b9 n9 hab => ?_) kk
      by_cases e9 : a' = a ∧ b' = b
      · obtain ⟨rfl, rfl⟩ := e9
        exact c5
      · intro i k i0 i1 k0 k1
        rw [c3 _ (fun i' k' x0 x1 y0 y1 => by omega)]
        exact hA a' b' a9 b9 n9 (by omega) i k i0 i1 k0 k1

set_option maxRecDepth 100000 in
set_option maxHeartbeats 4000000 in
theorem lpX3_findSpread2 {G : zG} {l : Launch} {L : Nat} {P : zP} {M0 : zM} {t : Nat} {Z : zZ} (hc : CS L P t 67) (hI : CI M0 t 67) : ∀ (n : Nat) (a : Int) (M : zM) (g0 : 0 ≤ a) (g1 : a + n = n4 M0 t) (hp : Pq M0 M) (hdk : Dk M) (h54 : M 54 6 = n4 M0 t) (h58 : ∀ j : Int, 0 ≤ j → j < n4 M0 t → M 58 j = M0 68 j) (hA : ∀ a' b' : Int, 0 ≤ a' → a' < b' → b' < n4 M0 t → a' < a → Ap M0 M t a' b') (kk : ∀ M' : zM, Pq M0 M' → Dk M' → M' 54 6 = n4 M0 t → (∀ j : Int, 0 ≤ j → j < n4 M0 t → M' 58 j = M0 68 j) → (∀ a' b' : Int, 0 ≤ a' → a' < b' → b' < n4 M0 t → Ap M0 M' t a' b') → AW G l mdX3_findSpread Z 87 [some (aR 54), some (aR 67), none, none] [] (LAY L) P M' 0 0), AW G l mdX3_findSpread Z 48 [some (aR 54), some (aR 67), some (aI a), none] [] (LAY L) P M 0 0 := by
  intro n
  induction n with
  | zero =>
    intro a M g0 g1 hp hdk h54 h58 hA kk
    obtain ⟨hP, hTp, hT, ht, hS, ha⟩ := id hc
    have q1 := hI.1.1
    have q4 : 0 ≤ n4 M0 t ∧ n4 M0 t ≤ 4 := by unfold n4; split <;> omega
    refine a_iloadn dX3_findSpread_48 rfl ?_
    refine a_aloadn dX3_findSpread_49 rfl ?_
    refine b_getI (j' := 6) dX3_findSpread_50 flX3_87 rfl rfl (L54 L) (fun hr50 => ?_)
    rw [h54] at hr50
    rw [h54]
    refine a_icmp_ge (tgt := 87) dX3_findSpread_53 (by decide) ⟨by omega, by omega⟩ ⟨by omega, by omega⟩ (fun hb53 => ?_) (fun hb53 => ?_)
    · refine a_forget [2] (ls' := [_, _, none, none]) rfl (kk M hp hdk h54 h58 (fun a' b' x0 x1 x2 => hA a' b' x0 x1 x2 (by omega)))
    · exfalso; omega
  | succ n ih =>
    intro a M g0 g1 hp hdk h54 h58 hA kk
    obtain ⟨hP, hTp, hT, ht, hS, ha⟩ := id hc
    have q1 := hI.1.1
    have q4 : 0 ≤ n4 M0 t ∧ n4 M0 t ≤ 4 := by unfold n4; split <;> omega
    refine a_iloadn dX3_findSpread_48 rfl ?_
    refine a_aloadn dX3_findSpread_49 rfl ?_
    refine b_getI (j' := 6) dX3_findSpread_50 flX3_87 rfl rfl (L54 L) (fun hr50 => ?_)
    rw [h54] at hr50
    rw [h54]
    refine a_icmp_ge (tgt := 87) dX3_findSpread_53 (by decide) ⟨by omega, by omega⟩ ⟨by omega, by omega⟩ (fun hb53 => ?_) (fun hb53 => ?_)
    · exfalso; omega
    · refine a_iloadn dX3_findSpread_56 rfl ?_
      refine a_iconst dX3_findSpread_57 ?_
      refine a_iadd dX3_findSpread_58 ?_
      refine c_istoren (ls' := [_, _, _, _]) dX3_findSpread_59 (by decide) rfl rfl ?_
      refine lpX3_findSpread3 hc hI g0 (n4 M0 t - (a + 1)).toNat (a + 1) M (by omega) (by omega) hp hdk h54 h58 (fun a' b' x0 x1 x2 x3 => hA a' b' x0 x1 x2 (by omega)) (fun M' c1 c2 c3 c4 c5 => ?_)
      refine c_iinc (ls' := [_, _, _, _]) dX3_findSpread_81 rfl (by decide) rfl rfl ?_
      refine a_goto (tgt := 48) dX3_findSpread_84 (by decide) ?_
      exact ih _ _ (by omega) (by omega) c1 c2 c3 c4 c5 kk

theorem m_place {G : zG} {l : Launch} {L : Nat} {P : zP} {Mb : zM} {hs : Int} {S : PS} (hP : PFok P) (hh : 0 ≤ hs ∧ hs ≤ 4) (hhs : Mb 54 6 = hs) (hfr : ∀ j : Int, 0 ≤ j → j < hs → 0 ≤ Mb 58 j ∧ Mb 58 j ≤ 99) (rF : inR S.1) : ∃ md : zMd, (md = mdP0 ∨ md = mdP1 ∨ md = mdP2 ∨ md = mdP3 ∨ md = mdP4) ∧ AM G l yX3_place md [aR 54, aI 0, aI 0] (LAY L) P (putS Mb S) (zdet none (LAY L) P (putS Mb (plF (Mb 57) (Mb 58) hs hs.toNat 0 0 S))) := by
  have hT : ∀ j : Int, 0 ≤ j → j < 0 → 0 ≤ S.2.1 j ∧ S.2.1 j ≤ 9 := fun j j0 j1 => by omega
  rcases (show hs = 0 ∨ hs = 1 ∨ hs = 2 ∨ hs = 3 ∨ hs = 4 by omega) with e | e | e | e | e
  · refine ⟨mdP0, by simp, ?_⟩
    subst e
    exact m_place0 hP hh hhs rfl (by omega) rF hT
  · refine ⟨mdP1, by simp, ?_⟩
    subst e
    exact m_place1 hP hh hhs (by omega) (by omega) (by omega) hfr rF hT
  · refine ⟨mdP2, by simp, ?_⟩
    subst e
    exact m_place2 hP hh hhs (by omega) (by omega) (by omega) hfr rF hT
  · refine ⟨mdP3, by simp, ?_⟩
    subst e
    exact m_place3 hP hh hhs (by omega) (by omega) (by omega) hfr rF hT
  · refine ⟨mdP4, by simp, ?_⟩
    subst e
    exact m_place4 hP hh hhs (by omega) (by omega) (by omega) hfr rF hT

set_option maxRecDepth 100000 in
set_option maxHeartbeats 4000000 in
theorem m_X3_findSpread {G : zG} {l : Launch} {L : Nat} {P : zP} {M : zM} {t : Nat} (hc : CS L P t 67) (hI : CI M t 67) : AM G l yX3_findSpread mdX3_findSpread [aR 54, aR 67] (LAY L) P M (zany (LAY L) P (fun r M' => Pq M M' ∧ ∃ Mb, SpR t M Mb ∧ M' 54 8 = (plF (Mb 57) (Mb 58) (n4 M t) (n4 M t).toNat 0 0 (2147483647, Mb 59, Mb 60)).1 ∧ M' 60 = (plF (Mb 57) (Mb 58) (n4 M t) (n4 M t).toNat 0 0 (2147483647, Mb 59, Mb 60)).2.2 ∧ r = if (plF (Mb 57) (Mb 58) (n4 M t) (n4 M t).toNat 0 0 (2147483647, Mb 59, Mb 60)).1 = 2147483647 then 0 else 1)) := by
  obtain ⟨hP, hTp, hT, ht, hS, ha⟩ := id hc
  have q1 := hI.1.1
  have q4 : 0 ≤ n4 M t ∧ n4 M t ≤ 4 := by unfold n4; split <;> omega
  refine AM.go [some (aR 54), some (aR 67), none, none] rfl (Nat.le_of_ble_eq_true rfl) ?_ (by decide) rfl rfl
  refine a_aloadn dX3_findSpread_0 rfl ?_
  refine a_iconst dX3_findSpread_1 ?_
  refine a_aloadn dX3_findSpread_2 rfl ?_
  refine a_getR (j' := 0) (y := 50) dX3_findSpread_3 flX3_31 rfl rfl (L54 L) (p54_0 hP) ?_
  refine a_getR (j' := 0) (y := t) dX3_findSpread_6 flX3_69 rfl rfl (L50 L) hTp ?_
  refine b_getI (j' := 2) dX3_findSpread_9 flX3_75 rfl rfl hT.1.2.1 (fun hr9 => ?_)
  refine a_min dX3_findSpread_12 mmX3_44 (Nat.le_of_ble_eq_true rfl) ⟨by decide, by decide⟩ ⟨by decide, by decide⟩ ⟨by omega, by omega⟩ ⟨by omega, by omega⟩ ?_
  refine a_putI (j' := 6) dX3_findSpread_15 flX3_87 rfl rfl (L54 L) (by decide) rfl (by split <;> exact ⟨by omega, by omega⟩) ?_
  refine a_iconst dX3_findSpread_18 ?_
  refine c_istoren (ls' := [_, _, _, _]) dX3_findSpread_19 (by decide) rfl rfl ?_
  refine lpX3_findSpread1 hc hI (n4 M t).toNat 0 _ (by omega) (by omega) ((Pq.rf M).sm (by omega) _ _) (by rw [sm_n (by decide)]) (by rw [sm_s]; rfl) (fun j j0 j1 => by omega) (fun M1 d1 d2 d3 d4 => ?_)
  refine a_iconst dX3_findSpread_46 ?_
  refine c_istoren (ls' := [_, _, _, _]) dX3_findSpread_47 (by decide) rfl rfl ?_
  refine lpX3_findSpread2 hc hI (n4 M t).toNat 0 M1 (by omega) (by omega) d1 (fun j j0 j1 => by rw [d2]; exact hI.2.2.1.1 j j0 j1) d3 d4 (fun a' b' x0 x1 x2 x3 => by omega) (fun M' c1 c2 c3 c4 c5 => ?_)
  have hsp : SpR t M M' := ⟨c3, c4, c5⟩
  refine a_aloadn dX3_findSpread_87 rfl ?_
  refine a_ldc (w := 2147483647) dX3_findSpread_88 knX3_94 (by decide) ?_
  refine a_putI (j' := 8) dX3_findSpread_90 flX3_61 rfl rfl (L54 L) (by decide) rfl ⟨by omega, by omega⟩ ?_
  have eP : sm M' 54 8 2147483647 = putS M' (2147483647, M' 59, M' 60) := by
    have := putS_sf M' (M' 54 8, M' 59, M' 60) 2147483647
    rw [putS_id] at this
    exact this
  rw [eP]
  refine a_aloadn dX3_findSpread_93 rfl ?_
  refine a_iconst dX3_findSpread_94 ?_
  refine a_iconst dX3_findSpread_95 ?_
  have hpq : Pq M (putS M' (plF (M' 57) (M' 58) (n4 M t) (n4 M t).toNat 0 0 (2147483647, M' 59, M' 60))) := fun k hk => by rw [putS_n M' _ (by omega) (by omega) (by omega)]; exact c1 k hk
  obtain ⟨md, hmd5, hmd⟩ := m_place (G := G) (l := l) (L := L) (P := P) (Mb := M') (hs := n4 M t) (S := (2147483647, M' 59, M' 60)) hP q4 c3 (fun j j0 j1 => by rw [c4 j j0 j1]; exact hI.2.2.1.1 j j0 (by omega)) ⟨by show (-2147483648 : Int) ≤ 2147483647; decide, by show (2147483647 : Int) < 2147483648; decide⟩
  rcases hmd5 with rfl | rfl | rfl | rfl | rfl
  · refine a_callVv (as := [_, _]) (q := 54) dX3_findSpread_96 (show MV RX3 95 RX3 yX3_place mdP0 2 from mvX3_95) ⟨by decide, by decide⟩ (L54 L) rfl rfl rfl (Nat.le_of_ble_eq_true rfl) ⟨rfl, rfl⟩ ⟨by decide, by decide⟩ hmd ?_
    refine a_aloadn dX3_findSpread_99 rfl ?_
    refine b_getI (j' := 8) dX3_findSpread_100 flX3_61 rfl rfl (L54 L) (fun hr100 => ?_)
    rw [putS_f] at hr100 ⊢
    refine a_ldc (w := 2147483647) dX3_findSpread_103 knX3_94 (by decide) ?_
    refine a_icmp_eq (tgt := 112) dX3_findSpread_105 (by decide) hr100 ⟨by omega, by omega⟩ (fun hb105 => ?_) (fun hb105 => ?_)
    · refine a_iconst dX3_findSpread_112 ?_
      exact a_zreturn dX3_findSpread_113 rfl rfl rfl (by omega) (zany_i ⟨hpq, M', hsp, putS_f _ _, putS_c _ _, by rw [if_pos hb105]⟩)
    · refine a_iconst dX3_findSpread_108 ?_
      refine a_goto (tgt := 113) dX3_findSpread_109 (by decide) ?_
      exact a_zreturn dX3_findSpread_113 rfl rfl rfl (by omega) (zany_i ⟨hpq, M', hsp, putS_f _ _, putS_c _ _, by rw [if_neg hb105]⟩)
  · refine a_callVv (as := [_, _]) (q := 54) dX3_findSpread_96 (show MV RX3 95 RX3 yX3_place mdP1 2 from mvX3_95) ⟨by decide, by decide⟩ (L54 L) rfl rfl rfl (Nat.le_of_ble_eq_true rfl) ⟨rfl, rfl⟩ ⟨by decide, by decide⟩ hmd ?_
    refine a_aloadn dX3_findSpread_99 rfl ?_
    refine b_getI (j' := 8) dX3_findSpread_100 flX3_61 rfl rfl (L54 L) (fun hr100 => ?_)
    rw [putS_f] at hr100 ⊢
    refine a_ldc (w := 2147483647) dX3_findSpread_103 knX3_94 (by decide) ?_
    refine a_icmp_eq (tgt := 112) dX3_findSpread_105 (by decide) hr100 ⟨by omega, by omega⟩ (fun hb105 => ?_) (fun hb105 => ?_)
    · refine a_iconst dX3_findSpread_112 ?_
      exact a_zreturn dX3_findSpread_113 rfl rfl rfl (by omega) (zany_i ⟨hpq, M', hsp, putS_f _ _, putS_c _ _, by rw [if_pos hb105]⟩)
    · refine a_iconst dX3_findSpread_108 ?_
      refine a_goto (tgt := 113) dX3_findSpread_109 (by decide) ?_
      exact a_zreturn dX3_findSpread_113 rfl rfl rfl (by omega) (zany_i ⟨hpq, M', hsp, putS_f _ _, putS_c _ _, by rw [if_neg hb105]⟩)
  · refine a_callVv (as := [_, _]) (q := 54) dX3_findSpread_96 (show MV RX3 95 RX3 yX3_place mdP2 2 from mvX3_95) ⟨by decide, by decide⟩ (L54 L) rfl rfl rfl (Nat.le_of_ble_eq_true rfl) ⟨rfl, rfl⟩ ⟨by decide, by decide⟩ hmd ?_
    refine a_aloadn dX3_findSpread_99 rfl ?_
    refine b_getI (j' := 8) dX3_findSpread_100 flX3_61 rfl rfl (L54 L) (fun hr100 => ?_)
    rw [putS_f] at hr100 ⊢
    refine a_ldc (w := 2147483647) dX3_findSpread_103 knX3_94 (by decide) ?_
    refine a_icmp_eq (tgt := 112) dX3_findSpread_105 (by decide) hr100 ⟨by omega, by omega⟩ (fun hb105 => ?_) (fun hb105 => ?_)
    · refine a_iconst dX3_findSpread_112 ?_
      exact a_zreturn dX3_findSpread_113 rfl rfl rfl (by omega) (zany_i ⟨hpq, M', hsp, putS_f _ _, putS_c _ _, by rw [if_pos hb105]⟩)
    · refine a_iconst dX3_findSpread_108 ?_
      refine a_goto (tgt := 113) dX3_findSpread_109 (by decide) ?_
      exact a_zreturn dX3_findSpread_113 rfl rfl rfl (by omega) (zany_i ⟨hpq, M', hsp, putS_f _ _, putS_c _ _, by rw [if_neg hb105]⟩)
  · refine a_callVv (as := [_, _]) (q := 54) dX3_findSpread_96 (show MV RX3 95 RX3 yX3_place mdP3 2 from mvX3_95) ⟨by decide, by decide⟩ (L54 L) rfl rfl rfl (Nat.le_of_ble_eq_true rfl) ⟨rfl, rfl⟩ ⟨by decide, by decide⟩ hmd ?_
    refine a_aloadn dX3_findSpread_99 rfl ?_
    refine b_getI (j' := 8) dX3_findSpread_100 flX3_61 rfl rfl (L54 L) (fun hr100 => ?_)
    rw [putS_f] at hr100 ⊢
    refine a_ldc (w := 2147483647) dX3_findSpread_103 knX3_94 (by decide) ?_
    refine a_icmp_eq (tgt := 112) dX3_findSpread_105 (by decide) hr100 ⟨by omega, by omega⟩ (fun hb105 => ?_) (fun hb105 => ?_)
    · refine a_iconst dX3_findSpread_112 ?_
      exact a_zreturn dX3_findSpread_113 rfl rfl rfl (by omega) (zany_i ⟨hpq, M', hsp, putS_f _ _, putS_c _ _, by rw [if_pos hb105]⟩)
    · refine a_iconst dX3_findSpread_108 ?_
      refine a_goto (tgt := 113) dX3_findSpread_109 (by decide) ?_
      exact a_zreturn dX3_findSpread_113 rfl rfl rfl (by omega) (zany_i ⟨hpq, M', hsp, putS_f _ _, putS_c _ _, by rw [if_neg hb105]⟩)
  · refine a_callVv (as := [_, _]) (q := 54) dX3_findSpread_96 (show MV RX3 95 RX3 yX3_place mdP4 2 from mvX3_95) ⟨by decide, by decide⟩ (L54 L) rfl rfl rfl (Nat.le_of_ble_eq_true rfl) ⟨rfl, rfl⟩ ⟨by decide, by decide⟩ hmd ?_
    refine a_aloadn dX3_findSpread_99 rfl ?_
    refine b_getI (j' := 8) dX3_findSpread_100 flX3_61 rfl rfl (L54 L) (fun hr100 => ?_)
    rw [putS_f] at hr100 ⊢
    refine a_ldc (w := 2147483647) dX3_findSpread_103 knX3_94 (by decide) ?_
    refine a_icmp_eq (tgt := 112) dX3_findSpread_105 (by decide) hr100 ⟨by omega, by omega⟩ (fun hb105 => ?_) (fun hb105 => ?_)
    · refine a_iconst dX3_findSpread_112 ?_
      exact a_zreturn dX3_findSpread_113 rfl rfl rfl (by omega) (zany_i ⟨hpq, M', hsp, putS_f _ _, putS_c _ _, by rw [if_pos hb105]⟩)
    · refine a_iconst dX3_findSpread_108 ?_
      refine a_goto (tgt := 113) dX3_findSpread_109 (by decide) ?_
      exact a_zreturn dX3_findSpread_113 rfl rfl rfl (by omega) (zany_i ⟨hpq, M', hsp, putS_f _ _, putS_c _ _, by rw [if_neg hb105]⟩)

theorem Pq.cn {L : Nat} {P : zP} {M M1 M2 : zM} {t : Nat} (hv : CV L P M t) (h1 : CyR M 67 61 M1) (h2 : Pq M1 M2) : Cn t M M2 := by
  have hc := h1.cv hv
  refine ⟨hc.1.1.tr (fun k hk => h2 k (by omega)), ?_⟩
  rw [h2 50 (by omega)]
  exact hc.1.2

set_option maxRecDepth 100000 in
set_option maxHeartbeats 4000000 in
theorem m_X10_hide {G : zG} {l : Launch} {L : Nat} {P : zP} {M : zM} {t : Nat} {h : Int} (hv : CV L P M t) (rh : inR h) : AM G l yX10_hide mdX10_hide [aR 2, aI h] (LAY L) P M (zany (LAY L) P (fun r M' => Cn t M M' ∧ ((¬ (0 ≤ h ∧ h < M t 2)) ∧ r = -1 ∨ ¬ (¬ (0 ≤ h ∧ h < M t 2)) ∧ ∃ M1, CyR M 67 61 M1 ∧ r = fhF (hidV M1 t h) (M1 68 h) 100 0))) := by
  obtain ⟨hc, hi, hxt, hnr, hhr⟩ := id hv
  obtain ⟨hP, hTp, hT, ht, hS, ha⟩ := id hc
  have q1 := hi.1.1
  have sg := st_guess L hP
  have sn := st_now L hP
  refine AM.go [some (aR 2), some (aI h)] rfl (Nat.le_of_ble_eq_true rfl) ?_ (by decide) rfl rfl
  refine a_aloadn dX10_hide_0 rfl ?_
  refine a_iloadn dX10_hide_1 rfl ?_
  refine a_oneV (as := [_]) (q := 2) dX10_hide_2 mvX10_121 ⟨by decide, by decide⟩ (L2 L) rfl rfl rfl (Nat.le_of_ble_eq_true rfl) ⟨rfl, rfl⟩ ⟨by decide, by decide⟩ (m_X10_isHouse hv (h := h) rh) (fun x2 hx2 => ?_)
  refine a_if_ne (tgt := 10) dX10_hide_5 (by decide) ⟨by omega, by omega⟩ (fun hb5 => ?_) (fun hb5 => ?_)
  · refine a_aloadn dX10_hide_10 rfl ?_
    refine a_getR (j' := 8) (y := 67) dX10_hide_11 flX10_55 rfl rfl (L2 L) (p2_8 hP) ?_
    refine a_aloadn dX10_hide_14 rfl ?_
    refine a_getR (j' := 7) (y := 61) dX10_hide_15 flX10_51 rfl rfl (L2 L) (p2_7 hP) ?_
    refine a_relVv (as := [_]) (q := 67) dX10_hide_18 mvX10_235 ⟨by decide, by decide⟩ (L67 L) rfl rfl rfl (Nat.le_of_ble_eq_true rfl) ⟨rfl, rfl⟩ ⟨by decide, by decide⟩ (m_X5_copy sg sn (by omega)) (fun M1 hM1 => ?_)
    have hcy := hM1.cv hv
    refine a_aloadn dX10_hide_21 rfl ?_
    refine a_getR (j' := 6) (y := 54) dX10_hide_22 flX10_44 rfl rfl (L2 L) (p2_6 hP) ?_
    refine a_aloadn dX10_hide_25 rfl ?_
    refine a_getR (j' := 8) (y := 67) dX10_hide_26 flX10_55 rfl rfl (L2 L) (p2_8 hP) ?_
    refine a_iloadn dX10_hide_29 rfl ?_
    refine a_anyV (as := [_, _]) (q := 54) dX10_hide_30 mvX10_277 ⟨by decide, by decide⟩ (L54 L) rfl rfl rfl (Nat.le_of_ble_eq_true rfl) ⟨rfl, rfl⟩ ⟨by decide, by decide⟩ (m_X3_findHidden hc.sw hcy.2.1 (by omega) (by omega)) (fun x9 M2 hM2 => ?_)
    exact a_ireturn dX10_hide_33 rfl rfl rfl (zany_i ⟨hM2.1.cn hv hM1, Or.inr ⟨by omega, M1, hM1, hM2.2⟩⟩)
  · refine a_iconst dX10_hide_8 ?_
    exact a_ireturn dX10_hide_9 rfl rfl rfl (zany_i ⟨Cn.rf hv, Or.inl ⟨by omega, rfl⟩⟩)

set_option maxRecDepth 100000 in
set_option maxHeartbeats 4000000 in
theorem m_X10_lure {G : zG} {l : Launch} {L : Nat} {P : zP} {M : zM} {t : Nat} {h o : Int} (hv : CV L P M t) (rh : inR h) (ro : inR o) : AM G l yX10_lure mdX10_lure [aR 2, aI h, aI o] (LAY L) P M (zany (LAY L) P (fun r M' => Cn t M M' ∧ ((¬ two (M t 2) h o) ∧ r = -1 ∨ ¬ (¬ two (M t 2) h o) ∧ ∃ M1, CyR M 67 61 M1 ∧ r = flF (luV M1 t h o) (M1 68 h) 100 0 (-2) 7))) := by
  obtain ⟨hc, hi, hxt, hnr, hhr⟩ := id hv
  obtain ⟨hP, hTp, hT, ht, hS, ha⟩ := id hc
  have q1 := hi.1.1
  have sg := st_guess L hP
  have sn := st_now L hP
  refine AM.go [some (aR 2), some (aI h), some (aI o)] rfl (Nat.le_of_ble_eq_true rfl) ?_ (by decide) rfl rfl
  refine a_aloadn dX10_lure_0 rfl ?_
  refine a_iloadn dX10_lure_1 rfl ?_
  refine a_iloadn dX10_lure_2 rfl ?_
  refine a_oneV (as := [_, _]) (q := 2) dX10_lure_3 mvX10_159 ⟨by decide, by decide⟩ (L2 L) rfl rfl rfl (Nat.le_of_ble_eq_true rfl) ⟨rfl, rfl⟩ ⟨by decide, by decide⟩ (m_X10_areTwo hv (h := h) (o := o) rh ro) (fun x3 hx3 => ?_)
  refine a_if_ne (tgt := 11) dX10_lure_6 (by decide) ⟨by omega, by omega⟩ (fun hb6 => ?_) (fun hb6 => ?_)
  · refine a_aloadn dX10_lure_11 rfl ?_
    refine a_getR (j' := 8) (y := 67) dX10_lure_12 flX10_55 rfl rfl (L2 L) (p2_8 hP) ?_
    refine a_aloadn dX10_lure_15 rfl ?_
    refine a_getR (j' := 7) (y := 61) dX10_lure_16 flX10_51 rfl rfl (L2 L) (p2_7 hP) ?_
    refine a_relVv (as := [_]) (q := 67) dX10_lure_19 mvX10_235 ⟨by decide, by decide⟩ (L67 L) rfl rfl rfl (Nat.le_of_ble_eq_true rfl) ⟨rfl, rfl⟩ ⟨by decide, by decide⟩ (m_X5_copy sg sn (by omega)) (fun M1 hM1 => ?_)
    have hcy := hM1.cv hv
    refine a_aloadn dX10_lure_22 rfl ?_
    refine a_getR (j' := 6) (y := 54) dX10_lure_23 flX10_44 rfl rfl (L2 L) (p2_6 hP) ?_
    refine a_aloadn dX10_lure_26 rfl ?_
    refine a_getR (j' := 8) (y := 67) dX10_lure_27 flX10_55 rfl rfl (L2 L) (p2_8 hP) ?_
    refine a_iloadn dX10_lure_30 rfl ?_
    refine a_iloadn dX10_lure_31 rfl ?_
    refine a_anyV (as := [_, _, _]) (q := 54) dX10_lure_32 mvX10_280 ⟨by decide, by decide⟩ (L54 L) rfl rfl rfl (Nat.le_of_ble_eq_true rfl) ⟨rfl, rfl⟩ ⟨by decide, by decide⟩ (m_X3_findLure hc.sw hcy.2.1 (by omega) (by omega)) (fun x9 M2 hM2 => ?_)
    exact a_ireturn dX10_lure_35 rfl rfl rfl (zany_i ⟨hM2.1.cn hv hM1, Or.inr ⟨by omega, M1, hM1, hM2.2⟩⟩)
  · refine a_iconst dX10_lure_9 ?_
    exact a_ireturn dX10_lure_10 rfl rfl rfl (zany_i ⟨Cn.rf hv, Or.inl ⟨by omega, rfl⟩⟩)

/-- secret's answer -/
def scV (w : Int) (r : Option (Int × Int × Int)) : Int := match r with
  | none => -2
  | some p => if w = 0 then p.1 else if w = 1 then p.2.1 else p.2.2

set_option maxRecDepth 100000 in
set_option maxHeartbeats 4000000 in
theorem m_X10_secret {G : zG} {l : Launch} {L : Nat} {P : zP} {M : zM} {t : Nat} {h o w : Int} (hv : CV L P M t) (rh : inR h) (ro : inR o) (rw : inR w) : AM G l yX10_secret mdX10_secret [aR 2, aI h, aI o, aI w] (LAY L) P M (zany (LAY L) P (fun r M' => Cn t M M' ∧ ((¬ (two (M t 2) h o ∧ 0 ≤ w ∧ w ≤ 2)) ∧ r = -1 ∨ ¬ (¬ (two (M t 2) h o ∧ 0 ≤ w ∧ w ≤ 2)) ∧ ∃ M1, CyR M 67 61 M1 ∧ r = scV w (fpO M1 t h o (M1 68 h) (M1 68 o) 199 0)))) := by
  obtain ⟨hc, hi, hxt, hnr, hhr⟩ := id hv
  obtain ⟨hP, hTp, hT, ht, hS, ha⟩ := id hc
  have q1 := hi.1.1
  have sg := st_guess L hP
  have sn := st_now L hP
  refine AM.go [some (aR 2), some (aI h), some (aI o), some (aI w)] rfl (Nat.le_of_ble_eq_true rfl) ?_ (by decide) rfl rfl
  refine a_aloadn dX10_secret_0 rfl ?_
  refine a_iloadn dX10_secret_1 rfl ?_
  refine a_iloadn dX10_secret_2 rfl ?_
  refine a_oneV (as := [_, _]) (q := 2) dX10_secret_3 mvX10_159 ⟨by decide, by decide⟩ (L2 L) rfl rfl rfl (Nat.le_of_ble_eq_true rfl) ⟨rfl, rfl⟩ ⟨by decide, by decide⟩ (m_X10_areTwo hv (h := h) (o := o) rh ro) (fun x3 hx3 => ?_)
  refine a_if_eq (tgt := 18) dX10_secret_6 (by decide) ⟨by omega, by omega⟩ (fun hb6 => ?_) (fun hb6 => ?_)
  · refine a_iconst dX10_secret_18 ?_
    exact a_ireturn dX10_secret_19 rfl rfl rfl (zany_i ⟨Cn.rf hv, Or.inl ⟨by omega, rfl⟩⟩)
  · refine a_iloadn dX10_secret_9 rfl ?_
    refine a_iconst dX10_secret_10 ?_
    refine a_iconst dX10_secret_11 ?_
    refine a_oneS (as := [_, _, _]) dX10_secret_12 mvX10_167 ⟨by decide, by decide⟩ rfl rfl (Nat.le_of_ble_eq_true rfl) ⟨rfl, rfl⟩ ⟨by decide, by decide⟩ (m_X10_isWithin ⟨by omega, by omega⟩ ⟨by omega, by omega⟩ ⟨by omega, by omega⟩) (fun x12 hx12 => ?_)
    refine a_if_ne (tgt := 20) dX10_secret_15 (by decide) ⟨by omega, by omega⟩ (fun hb15 => ?_) (fun hb15 => ?_)
    · refine a_aloadn dX10_secret_20 rfl ?_
      refine a_getR (j' := 8) (y := 67) dX10_secret_21 flX10_55 rfl rfl (L2 L) (p2_8 hP) ?_
      refine a_aloadn dX10_secret_24 rfl ?_
      refine a_getR (j' := 7) (y := 61) dX10_secret_25 flX10_51 rfl rfl (L2 L) (p2_7 hP) ?_
      refine a_relVv (as := [_]) (q := 67) dX10_secret_28 mvX10_235 ⟨by decide, by decide⟩ (L67 L) rfl rfl rfl (Nat.le_of_ble_eq_true rfl) ⟨rfl, rfl⟩ ⟨by decide, by decide⟩ (m_X5_copy sg sn (by omega)) (fun M1 hM1 => ?_)
      have hcy := hM1.cv hv
      refine a_aloadn dX10_secret_31 rfl ?_
      refine a_getR (j' := 6) (y := 54) dX10_secret_32 flX10_44 rfl rfl (L2 L) (p2_6 hP) ?_
      refine a_aloadn dX10_secret_35 rfl ?_
      refine a_getR (j' := 8) (y := 67) dX10_secret_36 flX10_55 rfl rfl (L2 L) (p2_8 hP) ?_
      refine a_iloadn dX10_secret_39 rfl ?_
      refine a_iloadn dX10_secret_40 rfl ?_
      refine a_anyV (as := [_, _, _]) (q := 54) dX10_secret_41 mvX10_264 ⟨by decide, by decide⟩ (L54 L) rfl rfl rfl (Nat.le_of_ble_eq_true rfl) ⟨rfl, rfl⟩ ⟨by decide, by decide⟩ (m_X3_findPrivate hc.sw hcy.2.1 (by omega) (by omega) (by omega) (by omega) (by omega)) (fun x9 M2 hM2 => ?_)
      refine a_if_ne (tgt := 50) dX10_secret_44 (by decide) (by rcases hM2.2 with z | z <;> exact ⟨by omega, by omega⟩) (fun hb44 => ?_) (fun hb44 => ?_)
      · refine a_iloadn dX10_secret_50 rfl ?_
        rcases (show w = 0 ∨ w = 1 ∨ (w ≠ 0 ∧ w ≠ 1) by omega) with e51 | e51 | e51
        · refine c_lkIn (tgt := 76) (off := 25) e51 dX10_secret_51 (by decide) ⟨by decide, by decide⟩ (by decide) (by decide) ?_
          refine a_aloadn dX10_secret_76 rfl ?_
          refine a_getR (j' := 6) (y := 54) dX10_secret_77 flX10_44 rfl rfl (L2 L) (p2_6 hP) ?_
          refine a_getR (j' := 7) (y := 60) dX10_secret_80 flX10_268 rfl rfl (L54 L) (p54_7 hP) ?_
          refine a_iconst dX10_secret_83 ?_
          refine b_iald (N := 4) dX10_secret_84 (L60 L) (by decide) (by omega) (by omega) (fun hr84 => ?_)
          exact a_ireturn dX10_secret_85 rfl rfl rfl (by
      obtain ⟨z1, z2⟩ := hM2
      rcases z2 with ⟨z3, z4⟩ | ⟨z3, x', y', s', z4, z5, z6, z7⟩
      · omega
      · exact zany_i ⟨z1.cn hv hM1, Or.inr ⟨by omega, M1, hM1, by rw [z4]; show _ = if w = 0 then x' else if w = 1 then y' else s'; first | (rw [if_pos (by omega)]; assumption) | (rw [if_neg (by omega), if_pos (by omega)]; assumption) | (rw [if_neg (by omega), if_neg (by omega)]; assumption)⟩⟩)
        · refine c_lkIn (tgt := 86) (off := 35) e51 dX10_secret_51 (by decide) ⟨by decide, by decide⟩ (by decide) (by decide) ?_
          refine a_aloadn dX10_secret_86 rfl ?_
          refine a_getR (j' := 6) (y := 54) dX10_secret_87 flX10_44 rfl rfl (L2 L) (p2_6 hP) ?_
          refine a_getR (j' := 7) (y := 60) dX10_secret_90 flX10_268 rfl rfl (L54 L) (p54_7 hP) ?_
          refine a_iconst dX10_secret_93 ?_
          refine b_iald (N := 4) dX10_secret_94 (L60 L) (by decide) (by omega) (by omega) (fun hr94 => ?_)
          exact a_ireturn dX10_secret_95 rfl rfl rfl (by
      obtain ⟨z1, z2⟩ := hM2
      rcases z2 with ⟨z3, z4⟩ | ⟨z3, x', y', s', z4, z5, z6, z7⟩
      · omega
      · exact zany_i ⟨z1.cn hv hM1, Or.inr ⟨by omega, M1, hM1, by rw [z4]; show _ = if w = 0 then x' else if w = 1 then y' else s'; first | (rw [if_pos (by omega)]; assumption) | (rw [if_neg (by omega), if_pos (by omega)]; assumption) | (rw [if_neg (by omega), if_neg (by omega)]; assumption)⟩⟩)
        · refine a_lookup (tgt := 96) (off := 45) dX10_secret_51 (by decide) ⟨by omega, by omega⟩ (by simp only [Op.lookupswitch.offset]; rw [if_neg (by omega), if_neg (by omega)]) (by decide) ?_
          refine a_aloadn dX10_secret_96 rfl ?_
          refine a_getR (j' := 6) (y := 54) dX10_secret_97 flX10_44 rfl rfl (L2 L) (p2_6 hP) ?_
          refine b_getI (j' := 8) dX10_secret_100 flX10_271 rfl rfl (L54 L) (fun hr100 => ?_)
          exact a_ireturn dX10_secret_103 rfl rfl rfl (by
      obtain ⟨z1, z2⟩ := hM2
      rcases z2 with ⟨z3, z4⟩ | ⟨z3, x', y', s', z4, z5, z6, z7⟩
      · omega
      · exact zany_i ⟨z1.cn hv hM1, Or.inr ⟨by omega, M1, hM1, by rw [z4]; show _ = if w = 0 then x' else if w = 1 then y' else s'; first | (rw [if_pos (by omega)]; assumption) | (rw [if_neg (by omega), if_pos (by omega)]; assumption) | (rw [if_neg (by omega), if_neg (by omega)]; assumption)⟩⟩)
      · refine a_bipush (w := (-2)) dX10_secret_47 (by decide) ?_
        exact a_ireturn dX10_secret_49 rfl rfl rfl (by
      obtain ⟨z1, z2⟩ := hM2
      rcases z2 with ⟨z3, z4⟩ | ⟨z3, _⟩
      · exact zany_i ⟨z1.cn hv hM1, Or.inr ⟨by omega, M1, hM1, by rw [z4]; rfl⟩⟩
      · omega)
    · refine a_iconst dX10_secret_18 ?_
      exact a_ireturn dX10_secret_19 rfl rfl rfl (zany_i ⟨Cn.rf hv, Or.inl ⟨by omega, rfl⟩⟩)

/-- spread's answer -/
def spV (w : Int) (S : PS) : Int := if S.1 = 2147483647 then -2 else if w = 4 then S.1 else S.2.2 w

set_option maxRecDepth 100000 in
set_option maxHeartbeats 4000000 in
theorem m_X10_spread {G : zG} {l : Launch} {L : Nat} {P : zP} {M : zM} {t : Nat} {w : Int} (hv : CV L P M t) (rw : inR w) : AM G l yX10_spread mdX10_spread [aR 2, aI w] (LAY L) P M (zany (LAY L) P (fun r M' => Cn t M M' ∧ (¬ (0 ≤ w ∧ w ≤ 4) ∧ r = -1 ∨ (0 ≤ w ∧ w ≤ 4) ∧ (w < 4 ∧ M t 2 ≤ w) ∧ r = -2 ∨ (0 ≤ w ∧ w ≤ 4) ∧ ¬ (w < 4 ∧ M t 2 ≤ w) ∧ ∃ M1 Mb, CyR M 67 61 M1 ∧ SpR t M1 Mb ∧ r = spV w (plF (Mb 57) (Mb 58) (n4 M1 t) (n4 M1 t).toNat 0 0 (2147483647, Mb 59, Mb 60))))) := by
  obtain ⟨hc, hi, hxt, hnr, hhr⟩ := id hv
  obtain ⟨hP, hTp, hT, ht, hS, ha⟩ := id hc
  have q1 := hi.1.1
  have sg := st_guess L hP
  have sn := st_now L hP
  refine AM.go [some (aR 2), some (aI w)] rfl (Nat.le_of_ble_eq_true rfl) ?_ (by decide) rfl rfl
  refine a_iloadn dX10_spread_0 rfl ?_
  refine a_iconst dX10_spread_1 ?_
  refine a_iconst dX10_spread_2 ?_
  refine a_oneS (as := [_, _, _]) dX10_spread_3 mvX10_167 ⟨by decide, by decide⟩ rfl rfl (Nat.le_of_ble_eq_true rfl) ⟨rfl, rfl⟩ ⟨by decide, by decide⟩ (m_X10_isWithin ⟨by omega, by omega⟩ ⟨by omega, by omega⟩ ⟨by omega, by omega⟩) (fun x3 hx3 => ?_)
  refine a_if_ne (tgt := 11) dX10_spread_6 (by decide) ⟨by omega, by omega⟩ (fun hb6 => ?_) (fun hb6 => ?_)
  · refine a_iloadn dX10_spread_11 rfl ?_
    refine a_iconst dX10_spread_12 ?_
    refine a_icmp_ge (tgt := 30) dX10_spread_13 (by decide) ⟨by omega, by omega⟩ ⟨by omega, by omega⟩ (fun hb13 => ?_) (fun hb13 => ?_)
    · refine a_aloadn dX10_spread_30 rfl ?_
      refine a_getR (j' := 8) (y := 67) dX10_spread_31 flX10_55 rfl rfl (L2 L) (p2_8 hP) ?_
      refine a_aloadn dX10_spread_34 rfl ?_
      refine a_getR (j' := 7) (y := 61) dX10_spread_35 flX10_51 rfl rfl (L2 L) (p2_7 hP) ?_
      refine a_relVv (as := [_]) (q := 67) dX10_spread_38 mvX10_235 ⟨by decide, by decide⟩ (L67 L) rfl rfl rfl (Nat.le_of_ble_eq_true rfl) ⟨rfl, rfl⟩ ⟨by decide, by decide⟩ (m_X5_copy sg sn (by omega)) (fun M1 hM1 => ?_)
      have hcy := hM1.cv hv
      refine a_aloadn dX10_spread_41 rfl ?_
      refine a_getR (j' := 6) (y := 54) dX10_spread_42 flX10_44 rfl rfl (L2 L) (p2_6 hP) ?_
      refine a_aloadn dX10_spread_45 rfl ?_
      refine a_getR (j' := 8) (y := 67) dX10_spread_46 flX10_55 rfl rfl (L2 L) (p2_8 hP) ?_
      refine a_anyV (as := [_]) (q := 54) dX10_spread_49 mvX10_274 ⟨by decide, by decide⟩ (L54 L) rfl rfl rfl (Nat.le_of_ble_eq_true rfl) ⟨rfl, rfl⟩ ⟨by decide, by decide⟩ (m_X3_findSpread hc.sw hcy.2.1) (fun x9 M2 hM2 => ?_)
      obtain ⟨z1, Mb, z2, z3, z4, z5⟩ := hM2
      refine a_if_ne (tgt := 58) dX10_spread_52 (by decide) (by rw [z5]; split <;> exact ⟨by omega, by omega⟩) (fun hb52 => ?_) (fun hb52 => ?_)
      · have z6 : (plF (Mb 57) (Mb 58) (n4 M1 t) (n4 M1 t).toNat 0 0 (2147483647, Mb 59, Mb 60)).1 ≠ 2147483647 := by
          intro e9
          rw [if_pos e9] at z5
          exact hb52 z5
        refine a_iloadn dX10_spread_58 rfl ?_
        refine a_iconst dX10_spread_59 ?_
        refine a_icmp_ne (tgt := 73) dX10_spread_60 (by decide) ⟨by omega, by omega⟩ ⟨by omega, by omega⟩ (fun hb60 => ?_) (fun hb60 => ?_)
        · refine a_aloadn dX10_spread_73 rfl ?_
          refine a_getR (j' := 6) (y := 54) dX10_spread_74 flX10_44 rfl rfl (L2 L) (p2_6 hP) ?_
          refine a_getR (j' := 7) (y := 60) dX10_spread_77 flX10_268 rfl rfl (L54 L) (p54_7 hP) ?_
          refine a_iloadn dX10_spread_80 rfl ?_
          refine b_iald (N := 4) dX10_spread_81 (L60 L) (by decide) (by omega) (by omega) (fun hr81 => ?_)
          rw [z4] at hr81
          rw [z4]
          exact a_ireturn dX10_spread_82 rfl rfl rfl (by
      refine zany_i ⟨z1.cn hv hM1, Or.inr (Or.inr ⟨by omega, by omega, M1, Mb, hM1, z2, ?_⟩)⟩
      unfold spV
      rw [if_neg z6]
      first
      | (rw [if_pos (by omega)]; done)
      | (rw [if_neg (by omega)]; done))
        · refine a_aloadn dX10_spread_63 rfl ?_
          refine a_getR (j' := 6) (y := 54) dX10_spread_64 flX10_44 rfl rfl (L2 L) (p2_6 hP) ?_
          refine b_getI (j' := 8) dX10_spread_67 flX10_271 rfl rfl (L54 L) (fun hr67 => ?_)
          rw [z3] at hr67
          rw [z3]
          refine a_goto (tgt := 82) dX10_spread_70 (by decide) ?_
          exact a_ireturn dX10_spread_82 rfl rfl rfl (by
      refine zany_i ⟨z1.cn hv hM1, Or.inr (Or.inr ⟨by omega, by omega, M1, Mb, hM1, z2, ?_⟩)⟩
      unfold spV
      rw [if_neg z6]
      first
      | (rw [if_pos (by omega)]; done)
      | (rw [if_neg (by omega)]; done))
      · have z6 : (plF (Mb 57) (Mb 58) (n4 M1 t) (n4 M1 t).toNat 0 0 (2147483647, Mb 59, Mb 60)).1 = 2147483647 := by
          by_cases e9 : (plF (Mb 57) (Mb 58) (n4 M1 t) (n4 M1 t).toNat 0 0 (2147483647, Mb 59, Mb 60)).1 = 2147483647
          · exact e9
          · rw [if_neg e9] at z5; omega
        refine a_bipush (w := (-2)) dX10_spread_55 (by decide) ?_
        exact a_ireturn dX10_spread_57 rfl rfl rfl (zany_i ⟨z1.cn hv hM1, Or.inr (Or.inr ⟨by omega, by omega, M1, Mb, hM1, z2, by unfold spV; rw [if_pos z6]⟩)⟩)
    · refine a_iloadn dX10_spread_16 rfl ?_
      refine a_aloadn dX10_spread_17 rfl ?_
      refine a_getR (j' := 2) (y := t) dX10_spread_18 flX10_16 rfl rfl (L2 L) hxt ?_
      refine b_getI (j' := 2) dX10_spread_21 flX10_118 rfl rfl hT.1.2.1 (fun hr21 => ?_)
      refine a_icmp_lt (tgt := 30) dX10_spread_24 (by decide) ⟨by omega, by omega⟩ ⟨by omega, by omega⟩ (fun hb24 => ?_) (fun hb24 => ?_)
      · refine a_aloadn dX10_spread_30 rfl ?_
        refine a_getR (j' := 8) (y := 67) dX10_spread_31 flX10_55 rfl rfl (L2 L) (p2_8 hP) ?_
        refine a_aloadn dX10_spread_34 rfl ?_
        refine a_getR (j' := 7) (y := 61) dX10_spread_35 flX10_51 rfl rfl (L2 L) (p2_7 hP) ?_
        refine a_relVv (as := [_]) (q := 67) dX10_spread_38 mvX10_235 ⟨by decide, by decide⟩ (L67 L) rfl rfl rfl (Nat.le_of_ble_eq_true rfl) ⟨rfl, rfl⟩ ⟨by decide, by decide⟩ (m_X5_copy sg sn (by omega)) (fun M1 hM1 => ?_)
        have hcy := hM1.cv hv
        refine a_aloadn dX10_spread_41 rfl ?_
        refine a_getR (j' := 6) (y := 54) dX10_spread_42 flX10_44 rfl rfl (L2 L) (p2_6 hP) ?_
        refine a_aloadn dX10_spread_45 rfl ?_
        refine a_getR (j' := 8) (y := 67) dX10_spread_46 flX10_55 rfl rfl (L2 L) (p2_8 hP) ?_
        refine a_anyV (as := [_]) (q := 54) dX10_spread_49 mvX10_274 ⟨by decide, by decide⟩ (L54 L) rfl rfl rfl (Nat.le_of_ble_eq_true rfl) ⟨rfl, rfl⟩ ⟨by decide, by decide⟩ (m_X3_findSpread hc.sw hcy.2.1) (fun x9 M2 hM2 => ?_)
        obtain ⟨z1, Mb, z2, z3, z4, z5⟩ := hM2
        refine a_if_ne (tgt := 58) dX10_spread_52 (by decide) (by rw [z5]; split <;> exact ⟨by omega, by omega⟩) (fun hb52 => ?_) (fun hb52 => ?_)
        · have z6 : (plF (Mb 57) (Mb 58) (n4 M1 t) (n4 M1 t).toNat 0 0 (2147483647, Mb 59, Mb 60)).1 ≠ 2147483647 := by
            intro e9
            rw [if_pos e9] at z5
            exact hb52 z5
          refine a_iloadn dX10_spread_58 rfl ?_
          refine a_iconst dX10_spread_59 ?_
          refine a_icmp_ne (tgt := 73) dX10_spread_60 (by decide) ⟨by omega, by omega⟩ ⟨by omega, by omega⟩ (fun hb60 => ?_) (fun hb60 => ?_)
          · refine a_aloadn dX10_spread_73 rfl ?_
            refine a_getR (j' := 6) (y := 54) dX10_spread_74 flX10_44 rfl rfl (L2 L) (p2_6 hP) ?_
            refine a_getR (j' := 7) (y := 60) dX10_spread_77 flX10_268 rfl rfl (L54 L) (p54_7 hP) ?_
            refine a_iloadn dX10_spread_80 rfl ?_
            refine b_iald (N := 4) dX10_spread_81 (L60 L) (by decide) (by omega) (by omega) (fun hr81 => ?_)
            rw [z4] at hr81
            rw [z4]
            exact a_ireturn dX10_spread_82 rfl rfl rfl (by
      refine zany_i ⟨z1.cn hv hM1, Or.inr (Or.inr ⟨by omega, by omega, M1, Mb, hM1, z2, ?_⟩)⟩
      unfold spV
      rw [if_neg z6]
      first
      | (rw [if_pos (by omega)]; done)
      | (rw [if_neg (by omega)]; done))
          · refine a_aloadn dX10_spread_63 rfl ?_
            refine a_getR (j' := 6) (y := 54) dX10_spread_64 flX10_44 rfl rfl (L2 L) (p2_6 hP) ?_
            refine b_getI (j' := 8) dX10_spread_67 flX10_271 rfl rfl (L54 L) (fun hr67 => ?_)
            rw [z3] at hr67
            rw [z3]
            refine a_goto (tgt := 82) dX10_spread_70 (by decide) ?_
            exact a_ireturn dX10_spread_82 rfl rfl rfl (by
      refine zany_i ⟨z1.cn hv hM1, Or.inr (Or.inr ⟨by omega, by omega, M1, Mb, hM1, z2, ?_⟩)⟩
      unfold spV
      rw [if_neg z6]
      first
      | (rw [if_pos (by omega)]; done)
      | (rw [if_neg (by omega)]; done))
        · have z6 : (plF (Mb 57) (Mb 58) (n4 M1 t) (n4 M1 t).toNat 0 0 (2147483647, Mb 59, Mb 60)).1 = 2147483647 := by
            by_cases e9 : (plF (Mb 57) (Mb 58) (n4 M1 t) (n4 M1 t).toNat 0 0 (2147483647, Mb 59, Mb 60)).1 = 2147483647
            · exact e9
            · rw [if_neg e9] at z5; omega
          refine a_bipush (w := (-2)) dX10_spread_55 (by decide) ?_
          exact a_ireturn dX10_spread_57 rfl rfl rfl (zany_i ⟨z1.cn hv hM1, Or.inr (Or.inr ⟨by omega, by omega, M1, Mb, hM1, z2, by unfold spV; rw [if_pos z6]⟩)⟩)
      · refine a_bipush (w := (-2)) dX10_spread_27 (by decide) ?_
        exact a_ireturn dX10_spread_29 rfl rfl rfl (zany_i ⟨Cn.rf hv, Or.inr (Or.inl ⟨by omega, by omega, rfl⟩)⟩)
  · refine a_iconst dX10_spread_9 ?_
    exact a_ireturn dX10_spread_10 rfl rfl rfl (zany_i ⟨Cn.rf hv, Or.inl ⟨by omega, rfl⟩⟩)
