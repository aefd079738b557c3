section ZRLB
theorem rRk_in (k : Int) : inR (rRk k) := by
  unfold rRk
  refine ⟨?_, ?_⟩ <;> (repeat' split) <;> omega
/-- signs that are bound, class against reference -/
theorem LX.bdn {t w : Nat} {F r : Int} (tw : t < 41 ∧ w + 1 < 42 ∧ w ≠ t ∧ w + 1 ≠ t) (hF : 0 ≤ F) (hr : 1 ≤ r) : ∀ (n : Nat) (Mc Mr : zM), LX t w F Mc Mr → BdI Mr → (∀ j : Int, 0 ≤ j → j < Mc 42 4 → 0 ≤ Mc 49 j ∧ Mc 49 j ≤ 13) → 0 ≤ Mc w 1 → LX t w F (lyA w r n Mc) (bdM r n Mr) ∧ BdI (bdM r n Mr)
  | 0, Mc, Mr, h, hb, _, _ => ⟨h, hb⟩
  | n + 1, Mc, Mr, h, hb, hA, h0 => by
    have h1 := h.1.1
    have h19 := h.2.2.2.1
    simp only [lyA, bdM]
    by_cases w0 : 0 < Mc 42 4
    · have z := hA (Mc 42 4 - 1) (by omega) (by omega)
      have kr := kc_r _ z.1 z.2
      have e9 : Mr 229 (Mr 209 39 - 1) = kc (Mc 49 (Mc 42 4 - 1)) := by rw [h1]; exact h.1.2 _ (by omega) (by omega)
      have ek : rkA Mc = rRk (Mr 229 (Mr 209 39 - 1)) := by unfold rkA; rw [if_pos w0, e9, kr.1]
      by_cases c : r ≤ rkA Mc
      · have k0 : Mr 229 (Mr 209 39 - 1) ≠ 0 := rRk_0 (by omega)
        have c13 : Mc 49 (Mc 42 4 - 1) ≠ 13 := fun q => k0 (by rw [e9]; exact kr.2.1.2 q)
        have bo := hb.one (by omega) k0
        obtain ⟨b1, b2, b3, b4⟩ := hb
        obtain ⟨s1, s2⟩ := nn_s (Mr 229) (w := Mr 209 39) (by omega)
        have zi := nzc_in (Mr 229) (Mr 209 39 - 1).toNat
        have bi := nbc_in (Mr 229) (Mr 209 39 - 1).toNat
        rw [s1, if_pos k0] at b4
        have hh : Mc 49 (Mc 42 4 - 1) = 2 ∧ 1 ≤ Mr 209 40 ∨ 2 ≤ Mr 209 40 := by
          by_cases e2 : Mc 49 (Mc 42 4 - 1) = 2
          · rw [s2] at b2
            refine Or.inl ⟨e2, ?_⟩
            rw [if_neg (fun q => q.2 (by rw [e9]; exact kr.2.2.1.2 e2))] at b2; omega
          · rw [s2, if_pos ⟨k0, fun q => e2 (kr.2.2.1.1 (by rw [← e9]; exact q))⟩] at b2
            exact Or.inr (by omega)
        have st := h.bd tw ⟨h0, by omega⟩ w0 ⟨z.1, by omega⟩ hh
        rw [if_pos ⟨w0, c⟩, if_pos ⟨by omega, by omega⟩]
        refine LX.bdn tw hF hr n _ _ st bo.1 (fun j j0 j1 => ?_) ?_
        · have q9 : laM w (20000 + Mc 49 (Mc 42 4 - 1)) (sm Mc 42 4 (Mc 42 4 - 1)) 49 = Mc 49 ∧ laM w (20000 + Mc 49 (Mc 42 4 - 1)) (sm Mc 42 4 (Mc 42 4 - 1)) 42 4 = Mc 42 4 - 1 := by
            unfold laM
            split
            · refine ⟨?_, ?_⟩
              · rw [sm_n (by omega), sm_n (by omega), sm_n (by omega)]
              · rw [sm_n (by omega), sm_n (by omega), sm_k, us_s]
            · exact ⟨sm_n (by omega), by rw [sm_k, us_s]⟩
          rw [q9.2] at j1
          rw [q9.1]; exact hA j j0 (by omega)
        · have q := st.2.2.2.1
          have q2 := bo.1.2.2.1
          unfold laM
          split
          · rw [sm_k, us_s, sm_n (show w ≠ 42 by omega)]; omega
          · rw [sm_n (show w ≠ 42 by omega)]; exact h0
      · rw [if_neg (fun q => c q.2), if_neg (fun q => c (by omega))]; exact ⟨h, hb⟩
    · rw [if_neg (fun q => w0 q.1), if_neg (fun q => w0 (by omega))]; exact ⟨h, hb⟩
end ZRLB

set_option maxRecDepth 100000 in
set_option maxHeartbeats 4000000 in
theorem lpX11_bind {G : zG} {l : Launch} {L : Nat} {P : zP} {r : Int} (hP : PFok P) (hr : 1 ≤ r ∧ r ≤ 6) : ∀ (n : Nat) (M : zM) (hb : BdI M) (hn : M 209 39 ≤ n), AW G l mdX11_bind (zdet none (LAY L) P (bdM r n M)) 0 [some (aR 209), some (aI r), none, none, none] [] (LAY L) P M 0 0 := by
  intro n
  induction n with
  | zero =>
    intro M hb hn
    refine a_aloadn dX11_bind_0 rfl ?_
    refine b_getI (j' := 39) dX11_bind_1 flX11_249 rfl rfl (L209 L) (fun hr1 => ?_)
    have hb1 := hb.1
    refine a_if_le (tgt := 76) dX11_bind_4 (by decide) ⟨by omega, by omega⟩ (fun hb4 => ?_) (fun hb4 => ?_)
    · exact a_return dX11_bind_76 rfl rfl rfl (zdet_V (by first | rfl | (simp only [bdM]; rw [if_neg (by omega)])))
    · exfalso; omega
  | succ n ih =>
    intro M hb hn
    refine a_aloadn dX11_bind_0 rfl ?_
    refine b_getI (j' := 39) dX11_bind_1 flX11_249 rfl rfl (L209 L) (fun hr1 => ?_)
    have hb1 := hb.1
    refine a_if_le (tgt := 76) dX11_bind_4 (by decide) ⟨by omega, by omega⟩ (fun hb4 => ?_) (fun hb4 => ?_)
    · exact a_return dX11_bind_76 rfl rfl rfl (zdet_V (by first | rfl | (simp only [bdM]; rw [if_neg (by omega)])))
    · refine a_aloadn dX11_bind_7 rfl ?_
      refine a_getR (j' := 37) (y := 229) dX11_bind_8 flX11_72 rfl rfl (L209 L) (p209_37 hP) ?_
      refine a_aloadn dX11_bind_11 rfl ?_
      refine b_getI (j' := 39) dX11_bind_12 flX11_249 rfl rfl (L209 L) (fun hr12 => ?_)
      refine a_iconst dX11_bind_15 ?_
      refine a_isub dX11_bind_16 ?_
      refine b_iald (N := 96) dX11_bind_17 (L229 L) (by decide) (by omega) (by omega) (fun hr17 => ?_)
      refine a_callS (as := [_]) dX11_bind_18 mvX11_252 ⟨by decide, by decide⟩ rfl rfl (Nat.le_of_ble_eq_true rfl) ⟨rfl, rfl⟩ ⟨by decide, by decide⟩ (m_X11_rank hr17) ?_
      refine a_iloadn dX11_bind_21 rfl ?_
      refine a_icmp_lt (tgt := 76) dX11_bind_22 (by decide) (rRk_in _) ⟨by omega, by omega⟩ (fun hb22 => ?_) (fun hb22 => ?_)
      · exact a_return dX11_bind_76 rfl rfl rfl (zdet_V (by first | rfl | (simp only [bdM]; rw [if_neg (by omega)])))
      · refine a_aloadn dX11_bind_25 rfl ?_
        refine a_dupR dX11_bind_26 ?_
        refine b_getI (j' := 39) dX11_bind_27 flX11_249 rfl rfl (L209 L) (fun hr27 => ?_)
        refine a_iconst dX11_bind_30 ?_
        refine a_isub dX11_bind_31 ?_
        refine a_putI (j' := 39) dX11_bind_32 flX11_249 rfl rfl (L209 L) (by decide) rfl ⟨by omega, by omega⟩ ?_
        refine a_aloadn dX11_bind_35 rfl ?_
        refine a_getR (j' := 37) (y := 229) dX11_bind_36 flX11_72 rfl rfl (L209 L) (p209_37 hP) ?_
        refine a_aloadn dX11_bind_39 rfl ?_
        refine b_getI (j' := 39) dX11_bind_40 flX11_249 rfl rfl (L209 L) (fun hr40 => ?_)
        rw [show sm M 209 39 (M 209 39 - 1) 209 39 = M 209 39 - 1 from by rw [sm_k, us_s]]
        refine b_iald (N := 96) dX11_bind_43 (L229 L) (by decide) (by omega) (by omega) (fun hr43 => ?_)
        rw [sm_n (show 229 ≠ 209 by decide)] at hr43
        rw [sm_n (show 229 ≠ 209 by decide)]
        have k0 : M 229 (M 209 39 - 1) ≠ 0 := rRk_0 (by omega)
        have bo := hb.one (by omega) k0
        obtain ⟨b1, b2, b3, b4⟩ := id hb
        obtain ⟨s1, s2⟩ := nn_s (M 229) (w := M 209 39) (by omega)
        have zi := nzc_in (M 229) (M 209 39 - 1).toNat
        have bi := nbc_in (M 229) (M 209 39 - 1).toNat
        rw [s1, if_pos k0] at b4
        rw [s2] at b2
        have h1 : 1 ≤ M 209 40 ∧ M 209 40 ≤ 74 := by split at b2 <;> omega
        have h2 : M 229 (M 209 39 - 1) ≠ 2 → 2 ≤ M 209 40 := fun q => by rw [if_pos ⟨k0, q⟩] at b2; omega
        clear b2
        refine c_istoren (ls' := [_, _, _, _, _]) dX11_bind_44 (by decide) rfl rfl ?_
        refine a_iloadn dX11_bind_45 rfl ?_
        refine a_iconst dX11_bind_46 ?_
        refine a_icmp_ne (tgt := 54) dX11_bind_47 (by decide) hr43 ⟨by omega, by omega⟩ (fun hb47 => ?_) (fun hb47 => ?_)
        · refine a_aloadn dX11_bind_54 rfl ?_
          refine a_anyV (as := []) (q := 209) dX11_bind_55 mvX11_256 ⟨by decide, by decide⟩ (L209 L) rfl rfl rfl (Nat.le_of_ble_eq_true rfl) ⟨rfl, rfl⟩ ⟨by decide, by decide⟩ (m_X11_dropHeld hP (by first | (unfold dhM; simp (disch := decide) only [sm_k, sm_n, us_s, us_n]; omega) | (simp (disch := decide) only [sm_k, sm_n, us_s, us_n]; omega))) (fun x55 M55 hM55 => ?_)
          obtain ⟨rfl, rfl, r55⟩ := hM55
          refine c_istoren (ls' := [_, _, _, _, _]) dX11_bind_58 (by decide) rfl rfl ?_
          refine a_aloadn dX11_bind_59 rfl ?_
          refine a_anyV (as := []) (q := 209) dX11_bind_60 mvX11_256 ⟨by decide, by decide⟩ (L209 L) rfl rfl rfl (Nat.le_of_ble_eq_true rfl) ⟨rfl, rfl⟩ ⟨by decide, by decide⟩ (m_X11_dropHeld hP (by first | (unfold dhM; simp (disch := decide) only [sm_k, sm_n, us_s, us_n]; omega) | (simp (disch := decide) only [sm_k, sm_n, us_s, us_n]; omega))) (fun x60 M60 hM60 => ?_)
          obtain ⟨rfl, rfl, r60⟩ := hM60
          refine c_istore (ls' := [_, _, _, _, _]) dX11_bind_63 (by decide) rfl rfl ?_
          refine a_aloadn dX11_bind_65 rfl ?_
          refine a_iloadn dX11_bind_66 rfl ?_
          refine a_iload dX11_bind_67 rfl ?_
          refine a_iloadn dX11_bind_69 rfl ?_
          refine a_callVv (as := [_, _, _]) (q := 209) dX11_bind_70 mvX11_260 ⟨by decide, by decide⟩ (L209 L) rfl rfl rfl (Nat.le_of_ble_eq_true rfl) ⟨rfl, rfl⟩ ⟨by decide, by decide⟩ (m_X11_grown hP hr43 r60 (by first | exact r55 | exact ⟨by omega, by omega⟩) (by (try unfold dhM); simp (disch := decide) only [sm_k, sm_n, us_s, us_n]; omega) (by (try unfold dhM); simp (disch := decide) only [sm_k, sm_n, us_s, us_n]; omega)) ?_
          refine a_goto (tgt := 0) dX11_bind_73 (by decide) ?_
          refine a_forget [2, 3, 4] (ls' := [_, _, none, none, none]) rfl ?_
          simp only [bdM]
          rw [if_pos ⟨by omega, by omega⟩]
          unfold bd1 at bo ⊢
          first
          | (rw [if_pos (by omega)] at bo ⊢; exact ih _ bo.1 (by rw [bo.2]; omega))
          | (rw [if_neg (by omega)] at bo ⊢; exact ih _ bo.1 (by rw [bo.2]; omega))
        · refine a_iconst dX11_bind_50 ?_
          refine a_goto (tgt := 58) dX11_bind_51 (by decide) ?_
          refine c_istoren (ls' := [_, _, _, _, _]) dX11_bind_58 (by decide) rfl rfl ?_
          refine a_aloadn dX11_bind_59 rfl ?_
          refine a_anyV (as := []) (q := 209) dX11_bind_60 mvX11_256 ⟨by decide, by decide⟩ (L209 L) rfl rfl rfl (Nat.le_of_ble_eq_true rfl) ⟨rfl, rfl⟩ ⟨by decide, by decide⟩ (m_X11_dropHeld hP (by first | (unfold dhM; simp (disch := decide) only [sm_k, sm_n, us_s, us_n]; omega) | (simp (disch := decide) only [sm_k, sm_n, us_s, us_n]; omega))) (fun x60 M60 hM60 => ?_)
          obtain ⟨rfl, rfl, r60⟩ := hM60
          refine c_istore (ls' := [_, _, _, _, _]) dX11_bind_63 (by decide) rfl rfl ?_
          refine a_aloadn dX11_bind_65 rfl ?_
          refine a_iloadn dX11_bind_66 rfl ?_
          refine a_iload dX11_bind_67 rfl ?_
          refine a_iloadn dX11_bind_69 rfl ?_
          refine a_callVv (as := [_, _, _]) (q := 209) dX11_bind_70 mvX11_260 ⟨by decide, by decide⟩ (L209 L) rfl rfl rfl (Nat.le_of_ble_eq_true rfl) ⟨rfl, rfl⟩ ⟨by decide, by decide⟩ (m_X11_grown hP hr43 r60 (by first | exact r55 | exact ⟨by omega, by omega⟩) (by (try unfold dhM); simp (disch := decide) only [sm_k, sm_n, us_s, us_n]; omega) (by (try unfold dhM); simp (disch := decide) only [sm_k, sm_n, us_s, us_n]; omega)) ?_
          refine a_goto (tgt := 0) dX11_bind_73 (by decide) ?_
          refine a_forget [2, 3, 4] (ls' := [_, _, none, none, none]) rfl ?_
          simp only [bdM]
          rw [if_pos ⟨by omega, by omega⟩]
          unfold bd1 at bo ⊢
          first
          | (rw [if_pos (by omega)] at bo ⊢; exact ih _ bo.1 (by rw [bo.2]; omega))
          | (rw [if_neg (by omega)] at bo ⊢; exact ih _ bo.1 (by rw [bo.2]; omega))

theorem m_X11_bind {G : zG} {l : Launch} {L : Nat} {P : zP} {M : zM} {r : Int} (hP : PFok P) (hr : 1 ≤ r ∧ r ≤ 6) (hb : BdI M) : AM G l yX11_bind mdX11_bind [aR 209, aI r] (LAY L) P M (zdet none (LAY L) P (bdM r (M 209 39).toNat M)) := by
  refine AM.go [some (aR 209), some (aI r), none, none, none] rfl (Nat.le_of_ble_eq_true rfl) ?_ (by decide) rfl rfl
  exact lpX11_bind hP hr _ M hb (by have := hb.1; omega)
