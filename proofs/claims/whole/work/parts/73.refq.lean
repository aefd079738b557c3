/-- do two hear each other alone, in the reference -/
def seR (M : zM) (a c : Int) : Int := if hrR M 1 a c = 0 ∨ hrR M 1 c a = 0 then 0 else zall (fun o => if o = a ∨ o = c then 1 else if hrR M 1 a o ≠ 0 ∨ hrR M 1 c o ≠ 0 ∨ hrR M 1 o a ≠ 0 ∨ hrR M 1 o c ≠ 0 then 0 else 1) (M 209 12).toNat 0

set_option maxRecDepth 100000 in
set_option maxHeartbeats 4000000 in
theorem lpX11_areSecret {G : zG} {l : Launch} {L : Nat} {P : zP} {M0 : zM} {a c : Int} (hP : PFok P) (hi : RI M0 1) (ra : 0 ≤ a ∧ a < 6) (rc : 0 ≤ c ∧ c < 6) : ∀ (n : Nat) (o : Int) (M : zM) (g0 : 0 ≤ o) (g1 : o + n = M0 209 12) (hE : Es M0 M), AW G l mdX11_areSecret (zany (LAY L) P (fun r M' => Es M0 M' ∧ r = zall (fun o => if o = a ∨ o = c then 1 else if hrR M0 1 a o ≠ 0 ∨ hrR M0 1 c o ≠ 0 ∨ hrR M0 1 o a ≠ 0 ∨ hrR M0 1 o c ≠ 0 then 0 else 1) n o)) 24 [some (aR 209), some (aI a), some (aI c), some (aI o)] [] (LAY L) P M 0 0 := by
  intro n
  induction n with
  | zero =>
    intro o M g0 g1 hE
    have q1 := hi.1.1
    refine a_iloadn dX11_areSecret_24 rfl ?_
    refine a_aloadn dX11_areSecret_25 rfl ?_
    refine b_getI (j' := 12) dX11_areSecret_26 flX11_201 rfl rfl (L209 L) (fun hr26 => ?_)
    have e8 : M 209 12 = M0 209 12 := hE _ _ (by decide) (by decide) (by omega)
    rw [e8] at hr26
    rw [e8]
    refine a_icmp_ge (tgt := 93) dX11_areSecret_29 (by decide) ⟨by omega, by omega⟩ ⟨by omega, by omega⟩ (fun hb29 => ?_) (fun hb29 => ?_)
    · refine a_iconst dX11_areSecret_93 ?_
      exact a_zreturn dX11_areSecret_94 rfl rfl rfl (by omega) (zany_i ⟨hE, rfl⟩)
    · exfalso; omega
  | succ n ih =>
    intro o M g0 g1 hE
    have q1 := hi.1.1
    refine a_iloadn dX11_areSecret_24 rfl ?_
    refine a_aloadn dX11_areSecret_25 rfl ?_
    refine b_getI (j' := 12) dX11_areSecret_26 flX11_201 rfl rfl (L209 L) (fun hr26 => ?_)
    have e8 : M 209 12 = M0 209 12 := hE _ _ (by decide) (by decide) (by omega)
    rw [e8] at hr26
    rw [e8]
    refine a_icmp_ge (tgt := 93) dX11_areSecret_29 (by decide) ⟨by omega, by omega⟩ ⟨by omega, by omega⟩ (fun hb29 => ?_) (fun hb29 => ?_)
    · exfalso; omega
    · refine a_iloadn dX11_areSecret_32 rfl ?_
      refine a_iloadn dX11_areSecret_33 rfl ?_
      refine a_icmp_eq (tgt := 87) dX11_areSecret_34 (by decide) ⟨by omega, by omega⟩ ⟨by omega, by omega⟩ (fun hb34 => ?_) (fun hb34 => ?_)
      · refine c_iinc (ls' := [_, _, _, _]) dX11_areSecret_87 rfl (by decide) rfl rfl ?_
        refine a_goto (tgt := 24) dX11_areSecret_90 (by decide) ?_
        simp only [zall]
        first
        | (rw [if_neg (by rw [if_pos (by omega)]; decide)]; exact ih _ M (by omega) (by omega) hE)
        | (rw [if_neg (by rw [if_neg (by omega), if_neg (by omega)]; decide)]; exact ih _ M4 (by omega) (by omega) hE4)
      · refine a_iloadn dX11_areSecret_37 rfl ?_
        refine a_iloadn dX11_areSecret_38 rfl ?_
        refine a_icmp_ne (tgt := 45) dX11_areSecret_39 (by decide) ⟨by omega, by omega⟩ ⟨by omega, by omega⟩ (fun hb39 => ?_) (fun hb39 => ?_)
        · refine a_aloadn dX11_areSecret_45 rfl ?_
          refine a_iconst dX11_areSecret_46 ?_
          refine a_iloadn dX11_areSecret_47 rfl ?_
          refine a_iloadn dX11_areSecret_48 rfl ?_
          refine a_anyV (as := [_, _, _]) (q := 209) dX11_areSecret_49 mvX11_387 ⟨by decide, by decide⟩ (L209 L) rfl rfl rfl (Nat.le_of_ble_eq_true rfl) ⟨rfl, rfl⟩ ⟨by decide, by decide⟩ (m_X11_hears hP (Or.inr rfl) (hE.ri hi) (by omega) (by omega) (by omega) (by omega)) (fun x1 M1 hM1 => ?_)
          have hE1 := hE.tr hM1.1
          have ex1 : x1 = hrR M0 1 a o := by rw [hM1.2, hE.hrr]
          have zx1 : x1 = 0 ∨ x1 = 1 := by rw [ex1]; exact hrR01 _ _ _ _
          refine a_if_ne (tgt := 85) dX11_areSecret_52 (by decide) (by rcases zx1 with z | z <;> exact ⟨by omega, by omega⟩) (fun hb52 => ?_) (fun hb52 => ?_)
          · refine a_iconst dX11_areSecret_85 ?_
            exact a_zreturn dX11_areSecret_86 rfl rfl rfl (by omega) (by first | exact zany_i ⟨hE4, by simp only [zall]; rw [if_pos (by rw [if_neg (by omega), if_pos (by omega)])]⟩ | exact zany_i ⟨hE3, by simp only [zall]; rw [if_pos (by rw [if_neg (by omega), if_pos (by omega)])]⟩ | exact zany_i ⟨hE2, by simp only [zall]; rw [if_pos (by rw [if_neg (by omega), if_pos (by omega)])]⟩ | exact zany_i ⟨hE1, by simp only [zall]; rw [if_pos (by rw [if_neg (by omega), if_pos (by omega)])]⟩)
          · refine a_aloadn dX11_areSecret_55 rfl ?_
            refine a_iconst dX11_areSecret_56 ?_
            refine a_iloadn dX11_areSecret_57 rfl ?_
            refine a_iloadn dX11_areSecret_58 rfl ?_
            refine a_anyV (as := [_, _, _]) (q := 209) dX11_areSecret_59 mvX11_387 ⟨by decide, by decide⟩ (L209 L) rfl rfl rfl (Nat.le_of_ble_eq_true rfl) ⟨rfl, rfl⟩ ⟨by decide, by decide⟩ (m_X11_hears hP (Or.inr rfl) (hE1.ri hi) (by omega) (by omega) (by omega) (by omega)) (fun x2 M2 hM2 => ?_)
            have hE2 := hE1.tr hM2.1
            have ex2 : x2 = hrR M0 1 c o := by rw [hM2.2, hE1.hrr]
            have zx2 : x2 = 0 ∨ x2 = 1 := by rw [ex2]; exact hrR01 _ _ _ _
            refine a_if_ne (tgt := 85) dX11_areSecret_62 (by decide) (by rcases zx2 with z | z <;> exact ⟨by omega, by omega⟩) (fun hb62 => ?_) (fun hb62 => ?_)
            · refine a_iconst dX11_areSecret_85 ?_
              exact a_zreturn dX11_areSecret_86 rfl rfl rfl (by omega) (by first | exact zany_i ⟨hE4, by simp only [zall]; rw [if_pos (by rw [if_neg (by omega), if_pos (by omega)])]⟩ | exact zany_i ⟨hE3, by simp only [zall]; rw [if_pos (by rw [if_neg (by omega), if_pos (by omega)])]⟩ | exact zany_i ⟨hE2, by simp only [zall]; rw [if_pos (by rw [if_neg (by omega), if_pos (by omega)])]⟩ | exact zany_i ⟨hE1, by simp only [zall]; rw [if_pos (by rw [if_neg (by omega), if_pos (by omega)])]⟩)
            · refine a_aloadn dX11_areSecret_65 rfl ?_
              refine a_iconst dX11_areSecret_66 ?_
              refine a_iloadn dX11_areSecret_67 rfl ?_
              refine a_iloadn dX11_areSecret_68 rfl ?_
              refine a_anyV (as := [_, _, _]) (q := 209) dX11_areSecret_69 mvX11_387 ⟨by decide, by decide⟩ (L209 L) rfl rfl rfl (Nat.le_of_ble_eq_true rfl) ⟨rfl, rfl⟩ ⟨by decide, by decide⟩ (m_X11_hears hP (Or.inr rfl) (hE2.ri hi) (by omega) (by omega) (by omega) (by omega)) (fun x3 M3 hM3 => ?_)
              have hE3 := hE2.tr hM3.1
              have ex3 : x3 = hrR M0 1 o a := by rw [hM3.2, hE2.hrr]
              have zx3 : x3 = 0 ∨ x3 = 1 := by rw [ex3]; exact hrR01 _ _ _ _
              refine a_if_ne (tgt := 85) dX11_areSecret_72 (by decide) (by rcases zx3 with z | z <;> exact ⟨by omega, by omega⟩) (fun hb72 => ?_) (fun hb72 => ?_)
              · refine a_iconst dX11_areSecret_85 ?_
                exact a_zreturn dX11_areSecret_86 rfl rfl rfl (by omega) (by first | exact zany_i ⟨hE4, by simp only [zall]; rw [if_pos (by rw [if_neg (by omega), if_pos (by omega)])]⟩ | exact zany_i ⟨hE3, by simp only [zall]; rw [if_pos (by rw [if_neg (by omega), if_pos (by omega)])]⟩ | exact zany_i ⟨hE2, by simp only [zall]; rw [if_pos (by rw [if_neg (by omega), if_pos (by omega)])]⟩ | exact zany_i ⟨hE1, by simp only [zall]; rw [if_pos (by rw [if_neg (by omega), if_pos (by omega)])]⟩)
              · refine a_aloadn dX11_areSecret_75 rfl ?_
                refine a_iconst dX11_areSecret_76 ?_
                refine a_iloadn dX11_areSecret_77 rfl ?_
                refine a_iloadn dX11_areSecret_78 rfl ?_
                refine a_anyV (as := [_, _, _]) (q := 209) dX11_areSecret_79 mvX11_387 ⟨by decide, by decide⟩ (L209 L) rfl rfl rfl (Nat.le_of_ble_eq_true rfl) ⟨rfl, rfl⟩ ⟨by decide, by decide⟩ (m_X11_hears hP (Or.inr rfl) (hE3.ri hi) (by omega) (by omega) (by omega) (by omega)) (fun x4 M4 hM4 => ?_)
                have hE4 := hE3.tr hM4.1
                have ex4 : x4 = hrR M0 1 o c := by rw [hM4.2, hE3.hrr]
                have zx4 : x4 = 0 ∨ x4 = 1 := by rw [ex4]; exact hrR01 _ _ _ _
                refine a_if_eq (tgt := 87) dX11_areSecret_82 (by decide) (by rcases zx4 with z | z <;> exact ⟨by omega, by omega⟩) (fun hb82 => ?_) (fun hb82 => ?_)
                · refine c_iinc (ls' := [_, _, _, _]) dX11_areSecret_87 rfl (by decide) rfl rfl ?_
                  refine a_goto (tgt := 24) dX11_areSecret_90 (by decide) ?_
                  simp only [zall]
                  first
                  | (rw [if_neg (by rw [if_pos (by omega)]; decide)]; exact ih _ M (by omega) (by omega) hE)
                  | (rw [if_neg (by rw [if_neg (by omega), if_neg (by omega)]; decide)]; exact ih _ M4 (by omega) (by omega) hE4)
                · refine a_iconst dX11_areSecret_85 ?_
                  exact a_zreturn dX11_areSecret_86 rfl rfl rfl (by omega) (by first | exact zany_i ⟨hE4, by simp only [zall]; rw [if_pos (by rw [if_neg (by omega), if_pos (by omega)])]⟩ | exact zany_i ⟨hE3, by simp only [zall]; rw [if_pos (by rw [if_neg (by omega), if_pos (by omega)])]⟩ | exact zany_i ⟨hE2, by simp only [zall]; rw [if_pos (by rw [if_neg (by omega), if_pos (by omega)])]⟩ | exact zany_i ⟨hE1, by simp only [zall]; rw [if_pos (by rw [if_neg (by omega), if_pos (by omega)])]⟩)
        · refine a_goto (tgt := 87) dX11_areSecret_42 (by decide) ?_
          refine c_iinc (ls' := [_, _, _, _]) dX11_areSecret_87 rfl (by decide) rfl rfl ?_
          refine a_goto (tgt := 24) dX11_areSecret_90 (by decide) ?_
          simp only [zall]
          first
          | (rw [if_neg (by rw [if_pos (by omega)]; decide)]; exact ih _ M (by omega) (by omega) hE)
          | (rw [if_neg (by rw [if_neg (by omega), if_neg (by omega)]; decide)]; exact ih _ M4 (by omega) (by omega) hE4)

set_option maxRecDepth 100000 in
set_option maxHeartbeats 4000000 in
theorem m_X11_areSecret {G : zG} {l : Launch} {L : Nat} {P : zP} {M : zM} {a c : Int} (hP : PFok P) (hi : RI M 1) (ra : 0 ≤ a ∧ a < 6) (rc : 0 ≤ c ∧ c < 6) : AM G l yX11_areSecret mdX11_areSecret [aR 209, aI a, aI c] (LAY L) P M (zany (LAY L) P (fun r M' => Es M M' ∧ r = seR M a c)) := by
  have q1 := hi.1.1
  have hE := Es.rf M
  refine AM.go [some (aR 209), some (aI a), some (aI c), none] rfl (Nat.le_of_ble_eq_true rfl) ?_ (by decide) rfl rfl
  refine a_aloadn dX11_areSecret_0 rfl ?_
  refine a_iconst dX11_areSecret_1 ?_
  refine a_iloadn dX11_areSecret_2 rfl ?_
  refine a_iloadn dX11_areSecret_3 rfl ?_
  refine a_anyV (as := [_, _, _]) (q := 209) dX11_areSecret_4 mvX11_387 ⟨by decide, by decide⟩ (L209 L) rfl rfl rfl (Nat.le_of_ble_eq_true rfl) ⟨rfl, rfl⟩ ⟨by decide, by decide⟩ (m_X11_hears hP (Or.inr rfl) (hE.ri hi) (by omega) (by omega) (by omega) (by omega)) (fun x1 M1 hM1 => ?_)
  have hE1 := hE.tr hM1.1
  have ex1 : x1 = hrR M 1 a c := by rw [hM1.2, hE.hrr]
  have zx1 : x1 = 0 ∨ x1 = 1 := by rw [ex1]; exact hrR01 _ _ _ _
  refine a_if_eq (tgt := 20) dX11_areSecret_7 (by decide) (by rcases zx1 with z | z <;> exact ⟨by omega, by omega⟩) (fun hb7 => ?_) (fun hb7 => ?_)
  · refine a_iconst dX11_areSecret_20 ?_
    exact a_zreturn dX11_areSecret_21 rfl rfl rfl (by omega) (by first | exact zany_i ⟨hE2, by unfold seR; rw [if_pos (by omega)]⟩ | exact zany_i ⟨hE1, by unfold seR; rw [if_pos (by omega)]⟩)
  · refine a_aloadn dX11_areSecret_10 rfl ?_
    refine a_iconst dX11_areSecret_11 ?_
    refine a_iloadn dX11_areSecret_12 rfl ?_
    refine a_iloadn dX11_areSecret_13 rfl ?_
    refine a_anyV (as := [_, _, _]) (q := 209) dX11_areSecret_14 mvX11_387 ⟨by decide, by decide⟩ (L209 L) rfl rfl rfl (Nat.le_of_ble_eq_true rfl) ⟨rfl, rfl⟩ ⟨by decide, by decide⟩ (m_X11_hears hP (Or.inr rfl) (hE1.ri hi) (by omega) (by omega) (by omega) (by omega)) (fun x2 M2 hM2 => ?_)
    have hE2 := hE1.tr hM2.1
    have ex2 : x2 = hrR M 1 c a := by rw [hM2.2, hE1.hrr]
    have zx2 : x2 = 0 ∨ x2 = 1 := by rw [ex2]; exact hrR01 _ _ _ _
    refine a_if_ne (tgt := 22) dX11_areSecret_17 (by decide) (by rcases zx2 with z | z <;> exact ⟨by omega, by omega⟩) (fun hb17 => ?_) (fun hb17 => ?_)
    · refine a_iconst dX11_areSecret_22 ?_
      refine c_istoren (ls' := [_, _, _, _]) dX11_areSecret_23 (by decide) rfl rfl ?_
      refine AW.mono2 (lpX11_areSecret hP hi ra rc (M 209 12).toNat 0 M2 (by omega) (by omega) hE2) ?_
      rintro r lay P' M' ⟨z1, z2, x, z3, z4, z5⟩
      exact ⟨z1, z2, x, z3, z4, by unfold seR; rw [if_neg (by omega)]; exact z5⟩
    · refine a_iconst dX11_areSecret_20 ?_
      exact a_zreturn dX11_areSecret_21 rfl rfl rfl (by omega) (by first | exact zany_i ⟨hE2, by unfold seR; rw [if_pos (by omega)]⟩ | exact zany_i ⟨hE1, by unfold seR; rw [if_pos (by omega)]⟩)

/-- two dials, tried -/
def d2R (Mb : zM) (a c x y : Int) : zM := sm (sm Mb 233 (6 + a) x) 233 (6 + c) y
theorem d2R_st {Mb M : zM} {a c x0 y0 : Int} (hac : a ≠ c) (hE : Es (d2R Mb a c x0 y0) M) (x y : Int) : Es (d2R Mb a c x y) (sm (sm M 233 (6 + a) x) 233 (6 + c) y) := by
  have z := (hE.sm2 233 (6 + a) x).sm2 233 (6 + c) y
  have e : sm (sm (d2R Mb a c x0 y0) 233 (6 + a) x) 233 (6 + c) y = d2R Mb a c x y := by
    funext q j
    unfold d2R
    by_cases e1 : q = 233
    · subst e1
      rw [sm_k, sm_k, sm_k, sm_k, sm_k, sm_k]
      unfold us
      by_cases f1 : j = 6 + c
      · simp only [if_pos f1]
      · by_cases f2 : j = 6 + a
        · simp only [if_neg f1, if_pos f2]
        · simp only [if_neg f1, if_neg f2]
    · rw [sm_n e1, sm_n e1, sm_n e1, sm_n e1, sm_n e1, sm_n e1]
  rw [e] at z
  exact z
theorem d2R_ri {Mb : zM} (hi : RI Mb 1) {a c x y : Int} (ha : 0 ≤ a ∧ a < 6) (hc : 0 ≤ c ∧ c < 6) (hx : 0 ≤ x ∧ x ≤ 99) (hy : 0 ≤ y ∧ y ≤ 99) : RI (d2R Mb a c x y) 1 := (((Fb.rf 1 Mb).sm x (by omega)).sm y (by omega)).ri hi ((hi.2.2.1.d hx).d hy)
theorem d2R_rn {M0 Mb : zM} (h : Rn M0 Mb) {a c x y : Int} (ha : 0 ≤ a) (hc : 0 ≤ c) : Rn M0 (d2R Mb a c x y) := ⟨(h.1.put _ (by omega)).put _ (by omega), by
  have e : d2R Mb a c x y 209 = Mb 209 := by unfold d2R; rw [sm_n (by decide), sm_n (by decide)]
  rw [e]; exact h.2⟩
def siR (f : Int → Int) (x da dc : Int) : Nat → Int → Int × Int → Int × Int
  | 0, _, p => p
  | n + 1, y, p => siR f x da dc n (y + 1) (if 0 ≤ p.1 ∧ p.2 ≤ iabs (x - da) + iabs (y - dc) then p else if f y = 0 then p else (100 * x + y, iabs (x - da) + iabs (y - dc)))
def soO (f : Int → Int → Int) (da dc : Int) : Nat → Int → Int × Int → Int × Int
  | 0, _, p => p
  | n + 1, x, p => soO f da dc n (x + 1) (siR (f x) x da dc 100 0 p)
def seF (Mb : zM) (a c x y : Int) : Int := seR (d2R Mb a c x y) a c
def svR (w : Int) (p : Int × Int) : Int := if p.1 < 0 then -2 else if w = 0 then p.1.tdiv 100 else if w = 1 then p.1.tmod 100 else p.2
theorem svR_e (w b l : Int) : svR w (b, l) = if b < 0 then -2 else if w = 0 then b.tdiv 100 else if w = 1 then b.tmod 100 else l := rfl

theorem seR01 (M : zM) (a c : Int) : seR M a c = 0 ∨ seR M a c = 1 := by
  unfold seR
  split
  · exact Or.inl rfl
  · exact zall01 _ _ _
theorem Es.ser {M0 M : zM} (h : Es M0 M) (a c : Int) : seR M a c = seR M0 a c := by
  unfold seR
  rw [h.hrr, h.hrr, h 209 12 (by decide) (by decide) (by omega)]
  rw [zall_cong (f := (fun o => if o = a ∨ o = c then 1 else if hrR M 1 a o ≠ 0 ∨ hrR M 1 c o ≠ 0 ∨ hrR M 1 o a ≠ 0 ∨ hrR M 1 o c ≠ 0 then 0 else 1)) (g := (fun o => if o = a ∨ o = c then 1 else if hrR M0 1 a o ≠ 0 ∨ hrR M0 1 c o ≠ 0 ∨ hrR M0 1 o a ≠ 0 ∨ hrR M0 1 o c ≠ 0 then 0 else 1)) _ _ (fun q q0 q1 => by simp only [h.hrr])]

set_option maxRecDepth 100000 in
set_option maxHeartbeats 4000000 in
theorem lpX11_secret_in {G : zG} {l : Launch} {L : Nat} {P : zP} {Mb : zM} {a c w x : Int} {Z : zZ} (hP : PFok P) (hi : RI Mb 1) (ra : 0 ≤ a ∧ a < 6) (rc : 0 ≤ c ∧ c < 6) (hac : a ≠ c) (ga : 0 ≤ Mb 233 a ∧ Mb 233 a ≤ 99) (gc : 0 ≤ Mb 233 c ∧ Mb 233 c ≤ 99) (rx : 0 ≤ x ∧ x ≤ 99) : ∀ (n : Nat) (y best least u v : Int) (M : zM) (g0 : 0 ≤ y) (g1 : y + n = 100) (gb : -1 ≤ best ∧ best ≤ 9999) (gl : 0 ≤ least ∧ least ≤ 198) (hE : Es (d2R Mb a c u v) M) (kk : ∀ (M' : zM) (b9 l9 u v : Int), siR (seF Mb a c x) x (Mb 233 a) (Mb 233 c) n y (best, least) = (b9, l9) → (-1 ≤ b9 ∧ b9 ≤ 9999) → (0 ≤ l9 ∧ l9 ≤ 198) → Es (d2R Mb a c u v) M' → AW G l mdX11_secret Z 149 [some (aR 209), some (aI a), some (aI c), some (aI w), some (aI b9), some (aI l9), some (aI x), none, none] [] (LAY L) P M' 0 0), AW G l mdX11_secret Z 48 [some (aR 209), some (aI a), some (aI c), some (aI w), some (aI best), some (aI least), some (aI x), some (aI y), none] [] (LAY L) P M 0 0 := by
  intro n
  induction n with
  | zero =>
    intro y best least u v M g0 g1 gb gl hE kk
    refine a_iload dX11_secret_48 rfl ?_
    refine a_bipush (w := 100) dX11_secret_50 (by decide) ?_
    refine a_icmp_ge (tgt := 149) dX11_secret_52 (by decide) ⟨by omega, by omega⟩ ⟨by omega, by omega⟩ (fun hb52 => ?_) (fun hb52 => ?_)
    · refine a_forget [7, 8] (ls' := [_, _, _, _, _, _, _, none, none]) rfl (kk M best least u v rfl gb gl hE)
    · exfalso; omega
  | succ n ih =>
    intro y best least u v M g0 g1 gb gl hE kk
    refine a_iload dX11_secret_48 rfl ?_
    refine a_bipush (w := 100) dX11_secret_50 (by decide) ?_
    refine a_icmp_ge (tgt := 149) dX11_secret_52 (by decide) ⟨by omega, by omega⟩ ⟨by omega, by omega⟩ (fun hb52 => ?_) (fun hb52 => ?_)
    · exfalso; omega
    · have e2a : M 233 a = Mb 233 a := by rw [hE.row (k := 233) (by decide) (by decide) (by decide)]; unfold d2R; rw [sm_k, us_n (by omega), sm_k, us_n (by omega)]
      have e2c : M 233 c = Mb 233 c := by rw [hE.row (k := 233) (by decide) (by decide) (by decide)]; unfold d2R; rw [sm_k, us_n (by omega), sm_k, us_n (by omega)]
      have b1 := iabs_99 rx ga
      have b2 := iabs_99 (show 0 ≤ y ∧ y ≤ 99 by omega) gc
      refine a_iload dX11_secret_55 rfl ?_
      refine a_aloadn dX11_secret_57 rfl ?_
      refine a_getR (j' := 48) (y := 233) dX11_secret_58 flX11_85 rfl rfl (L209 L) (p209_48 hP) ?_
      refine a_iloadn dX11_secret_61 rfl ?_
      refine b_iald (N := 12) dX11_secret_62 (L233 L) (by decide) (by omega) (by omega) (fun hr62 => ?_)
      rw [e2a] at hr62
      rw [e2a]
      refine a_callS (as := [_, _]) dX11_secret_63 mvX11_355 ⟨by decide, by decide⟩ rfl rfl (Nat.le_of_ble_eq_true rfl) ⟨rfl, rfl⟩ ⟨by decide, by decide⟩ (m_X11_apart ⟨by omega, by omega⟩ ⟨by omega, by omega⟩) ?_
      refine a_iload dX11_secret_66 rfl ?_
      refine a_aloadn dX11_secret_68 rfl ?_
      refine a_getR (j' := 48) (y := 233) dX11_secret_69 flX11_85 rfl rfl (L209 L) (p209_48 hP) ?_
      refine a_iloadn dX11_secret_72 rfl ?_
      refine b_iald (N := 12) dX11_secret_73 (L233 L) (by decide) (by omega) (by omega) (fun hr73 => ?_)
      rw [e2c] at hr73
      rw [e2c]
      refine a_callS (as := [_, _]) dX11_secret_74 mvX11_355 ⟨by decide, by decide⟩ rfl rfl (Nat.le_of_ble_eq_true rfl) ⟨rfl, rfl⟩ ⟨by decide, by decide⟩ (m_X11_apart ⟨by omega, by omega⟩ ⟨by omega, by omega⟩) ?_
      refine a_iadd dX11_secret_77 ?_
      refine c_istore (ls' := [_, _, _, _, _, _, _, _, _]) dX11_secret_78 (by decide) rfl rfl ?_
      refine a_iload dX11_secret_80 rfl ?_
      refine a_if_lt (tgt := 95) dX11_secret_82 (by decide) ⟨by omega, by omega⟩ (fun hb82 => ?_) (fun hb82 => ?_)
      · refine a_aloadn dX11_secret_95 rfl ?_
        refine a_getR (j' := 48) (y := 233) dX11_secret_96 flX11_85 rfl rfl (L209 L) (p209_48 hP) ?_
        refine a_bipush (w := 6) dX11_secret_99 (by decide) ?_
        refine a_iloadn dX11_secret_101 rfl ?_
        refine a_iadd dX11_secret_102 ?_
        refine a_iload dX11_secret_103 rfl ?_
        refine a_iast (N := 12) dX11_secret_105 (L233 L) (by decide) (by decide) (by omega) (by omega) ⟨by omega, by omega⟩ ?_
        refine a_aloadn dX11_secret_106 rfl ?_
        refine a_getR (j' := 48) (y := 233) dX11_secret_107 flX11_85 rfl rfl (L209 L) (p209_48 hP) ?_
        refine a_bipush (w := 6) dX11_secret_110 (by decide) ?_
        refine a_iloadn dX11_secret_112 rfl ?_
        refine a_iadd dX11_secret_113 ?_
        refine a_iload dX11_secret_114 rfl ?_
        refine a_iast (N := 12) dX11_secret_116 (L233 L) (by decide) (by decide) (by omega) (by omega) ⟨by omega, by omega⟩ ?_
        refine a_aloadn dX11_secret_117 rfl ?_
        refine a_iloadn dX11_secret_118 rfl ?_
        refine a_iloadn dX11_secret_119 rfl ?_
        have hE2 := d2R_st hac hE x y
        refine a_anyV (as := [_, _]) (q := 209) dX11_secret_120 mvX11_436 ⟨by decide, by decide⟩ (L209 L) rfl rfl rfl (Nat.le_of_ble_eq_true rfl) ⟨rfl, rfl⟩ ⟨by decide, by decide⟩ (m_X11_areSecret hP (hE2.ri (d2R_ri hi ra rc rx ⟨by omega, by omega⟩)) ra rc) (fun x9 M1 hM1 => ?_)
        have hE3 := hE2.tr hM1.1
        have ex9 : x9 = seF Mb a c x y := by rw [hM1.2]; exact hE2.ser a c
        have z9 : x9 = 0 ∨ x9 = 1 := by rw [ex9]; exact seR01 _ _ _
        refine a_if_ne (tgt := 129) dX11_secret_123 (by decide) (by rcases z9 with z | z <;> exact ⟨by omega, by omega⟩) (fun hb123 => ?_) (fun hb123 => ?_)
        · refine a_bipush (w := 100) dX11_secret_129 (by decide) ?_
          refine a_iload dX11_secret_131 rfl ?_
          refine a_imul dX11_secret_133 ?_
          refine a_iload dX11_secret_134 rfl ?_
          refine a_iadd dX11_secret_136 ?_
          refine c_istore (ls' := [_, _, _, _, _, _, _, _, _]) dX11_secret_137 (by decide) rfl rfl ?_
          refine a_iload dX11_secret_139 rfl ?_
          refine c_istore (ls' := [_, _, _, _, _, _, _, _, _]) dX11_secret_141 (by decide) rfl rfl ?_
          refine c_iinc (ls' := [_, _, _, _, _, _, _, _, _]) dX11_secret_143 rfl (by decide) rfl rfl ?_
          refine a_goto (tgt := 48) dX11_secret_146 (by decide) ?_
          refine a_forget [8] (ls' := [_, _, _, _, _, _, _, _, none]) rfl ?_
          simp only [siR] at kk
          first
          | (rw [if_pos (by omega)] at kk; exact ih _ _ _ u v M (by omega) (by omega) gb gl hE kk)
          | (rw [if_neg (by omega), if_pos (by omega)] at kk; exact ih _ _ _ x y M1 (by omega) (by omega) gb gl hE3 kk)
          | (rw [if_neg (by omega), if_neg (by omega)] at kk; exact ih _ _ _ x y M1 (by omega) (by omega) (by omega) (by omega) hE3 kk)
        · refine a_goto (tgt := 143) dX11_secret_126 (by decide) ?_
          refine c_iinc (ls' := [_, _, _, _, _, _, _, _, _]) dX11_secret_143 rfl (by decide) rfl rfl ?_
          refine a_goto (tgt := 48) dX11_secret_146 (by decide) ?_
          refine a_forget [8] (ls' := [_, _, _, _, _, _, _, _, none]) rfl ?_
          simp only [siR] at kk
          first
          | (rw [if_pos (by omega)] at kk; exact ih _ _ _ u v M (by omega) (by omega) gb gl hE kk)
          | (rw [if_neg (by omega), if_pos (by omega)] at kk; exact ih _ _ _ x y M1 (by omega) (by omega) gb gl hE3 kk)
          | (rw [if_neg (by omega), if_neg (by omega)] at kk; exact ih _ _ _ x y M1 (by omega) (by omega) (by omega) (by omega) hE3 kk)
      · refine a_iload dX11_secret_85 rfl ?_
        refine a_iload dX11_secret_87 rfl ?_
        refine a_icmp_lt (tgt := 95) dX11_secret_89 (by decide) ⟨by omega, by omega⟩ ⟨by omega, by omega⟩ (fun hb89 => ?_) (fun hb89 => ?_)
        · refine a_aloadn dX11_secret_95 rfl ?_
          refine a_getR (j' := 48) (y := 233) dX11_secret_96 flX11_85 rfl rfl (L209 L) (p209_48 hP) ?_
          refine a_bipush (w := 6) dX11_secret_99 (by decide) ?_
          refine a_iloadn dX11_secret_101 rfl ?_
          refine a_iadd dX11_secret_102 ?_
          refine a_iload dX11_secret_103 rfl ?_
          refine a_iast (N := 12) dX11_secret_105 (L233 L) (by decide) (by decide) (by omega) (by omega) ⟨by omega, by omega⟩ ?_
          refine a_aloadn dX11_secret_106 rfl ?_
          refine a_getR (j' := 48) (y := 233) dX11_secret_107 flX11_85 rfl rfl (L209 L) (p209_48 hP) ?_
          refine a_bipush (w := 6) dX11_secret_110 (by decide) ?_
          refine a_iloadn dX11_secret_112 rfl ?_
          refine a_iadd dX11_secret_113 ?_
          refine a_iload dX11_secret_114 rfl ?_
          refine a_iast (N := 12) dX11_secret_116 (L233 L) (by decide) (by decide) (by omega) (by omega) ⟨by omega, by omega⟩ ?_
          refine a_aloadn dX11_secret_117 rfl ?_
          refine a_iloadn dX11_secret_118 rfl ?_
          refine a_iloadn dX11_secret_119 rfl ?_
          have hE2 := d2R_st hac hE x y
          refine a_anyV (as := [_, _]) (q := 209) dX11_secret_120 mvX11_436 ⟨by decide, by decide⟩ (L209 L) rfl rfl rfl (Nat.le_of_ble_eq_true rfl) ⟨rfl, rfl⟩ ⟨by decide, by decide⟩ (m_X11_areSecret hP (hE2.ri (d2R_ri hi ra rc rx ⟨by omega, by omega⟩)) ra rc) (fun x9 M1 hM1 => ?_)
          have hE3 := hE2.tr hM1.1
          have ex9 : x9 = seF Mb a c x y := by rw [hM1.2]; exact hE2.ser a c
          have z9 : x9 = 0 ∨ x9 = 1 := by rw [ex9]; exact seR01 _ _ _
          refine a_if_ne (tgt := 129) dX11_secret_123 (by decide) (by rcases z9 with z | z <;> exact ⟨by omega, by omega⟩) (fun hb123 => ?_) (fun hb123 => ?_)
          · refine a_bipush (w := 100) dX11_secret_129 (by decide) ?_
            refine a_iload dX11_secret_131 rfl ?_
            refine a_imul dX11_secret_133 ?_
            refine a_iload dX11_secret_134 rfl ?_
            refine a_iadd dX11_secret_136 ?_
            refine c_istore (ls' := [_, _, _, _, _, _, _, _, _]) dX11_secret_137 (by decide) rfl rfl ?_
            refine a_iload dX11_secret_139 rfl ?_
            refine c_istore (ls' := [_, _, _, _, _, _, _, _, _]) dX11_secret_141 (by decide) rfl rfl ?_
            refine c_iinc (ls' := [_, _, _, _, _, _, _, _, _]) dX11_secret_143 rfl (by decide) rfl rfl ?_
            refine a_goto (tgt := 48) dX11_secret_146 (by decide) ?_
            refine a_forget [8] (ls' := [_, _, _, _, _, _, _, _, none]) rfl ?_
            simp only [siR] at kk
            first
            | (rw [if_pos (by omega)] at kk; exact ih _ _ _ u v M (by omega) (by omega) gb gl hE kk)
            | (rw [if_neg (by omega), if_pos (by omega)] at kk; exact ih _ _ _ x y M1 (by omega) (by omega) gb gl hE3 kk)
            | (rw [if_neg (by omega), if_neg (by omega)] at kk; exact ih _ _ _ x y M1 (by omega) (by omega) (by omega) (by omega) hE3 kk)
          · refine a_goto (tgt := 143) dX11_secret_126 (by decide) ?_
            refine c_iinc (ls' := [_, _, _, _, _, _, _, _, _]) dX11_secret_143 rfl (by decide) rfl rfl ?_
            refine a_goto (tgt := 48) dX11_secret_146 (by decide) ?_
            refine a_forget [8] (ls' := [_, _, _, _, _, _, _, _, none]) rfl ?_
            simp only [siR] at kk
            first
            | (rw [if_pos (by omega)] at kk; exact ih _ _ _ u v M (by omega) (by omega) gb gl hE kk)
            | (rw [if_neg (by omega), if_pos (by omega)] at kk; exact ih _ _ _ x y M1 (by omega) (by omega) gb gl hE3 kk)
            | (rw [if_neg (by omega), if_neg (by omega)] at kk; exact ih _ _ _ x y M1 (by omega) (by omega) (by omega) (by omega) hE3 kk)
        · refine a_goto (tgt := 143) dX11_secret_92 (by decide) ?_
          refine c_iinc (ls' := [_, _, _, _, _, _, _, _, _]) dX11_secret_143 rfl (by decide) rfl rfl ?_
          refine a_goto (tgt := 48) dX11_secret_146 (by decide) ?_
          refine a_forget [8] (ls' := [_, _, _, _, _, _, _, _, none]) rfl ?_
          simp only [siR] at kk
          first
          | (rw [if_pos (by omega)] at kk; exact ih _ _ _ u v M (by omega) (by omega) gb gl hE kk)
          | (rw [if_neg (by omega), if_pos (by omega)] at kk; exact ih _ _ _ x y M1 (by omega) (by omega) gb gl hE3 kk)
          | (rw [if_neg (by omega), if_neg (by omega)] at kk; exact ih _ _ _ x y M1 (by omega) (by omega) (by omega) (by omega) hE3 kk)

set_option maxRecDepth 100000 in
set_option maxHeartbeats 4000000 in
theorem lpX11_secret {G : zG} {l : Launch} {L : Nat} {P : zP} {M0 Mb : zM} {a c w : Int} (hP : PFok P) (hi : RI Mb 1) (ra : 0 ≤ a ∧ a < 6) (rc : 0 ≤ c ∧ c < 6) (hac : a ≠ c) (ga : 0 ≤ Mb 233 a ∧ Mb 233 a ≤ 99) (gc : 0 ≤ Mb 233 c ∧ Mb 233 c ≤ 99) (hq : Rn M0 Mb) (rw9 : inR w) : ∀ (n : Nat) (x best least u v : Int) (M : zM) (g0 : 0 ≤ x) (g1 : x + n = 100) (gb : -1 ≤ best ∧ best ≤ 9999) (gl : 0 ≤ least ∧ least ≤ 198) (hE : Es (d2R Mb a c u v) M), AW G l mdX11_secret (zany (LAY L) P (fun r M' => Rn M0 M' ∧ r = svR w (soO (seF Mb a c) (Mb 233 a) (Mb 233 c) n x (best, least)))) 38 [some (aR 209), some (aI a), some (aI c), some (aI w), some (aI best), some (aI least), some (aI x), none, none] [] (LAY L) P M 0 0 := by
  intro n
  induction n with
  | zero =>
    intro x best least u v M g0 g1 gb gl hE
    refine a_iload dX11_secret_38 rfl ?_
    refine a_bipush (w := 100) dX11_secret_40 (by decide) ?_
    refine a_icmp_ge (tgt := 155) dX11_secret_42 (by decide) ⟨by omega, by omega⟩ ⟨by omega, by omega⟩ (fun hb42 => ?_) (fun hb42 => ?_)
    · refine a_iload dX11_secret_155 rfl ?_
      refine a_if_ge (tgt := 163) dX11_secret_157 (by decide) ⟨by omega, by omega⟩ (fun hb157 => ?_) (fun hb157 => ?_)
      · refine a_iloadn dX11_secret_163 rfl ?_
        refine a_if_ne (tgt := 175) dX11_secret_164 (by decide) ⟨by omega, by omega⟩ (fun hb164 => ?_) (fun hb164 => ?_)
        · refine a_iloadn dX11_secret_175 rfl ?_
          refine a_iconst dX11_secret_176 ?_
          refine a_icmp_ne (tgt := 188) dX11_secret_177 (by decide) ⟨by omega, by omega⟩ ⟨by omega, by omega⟩ (fun hb177 => ?_) (fun hb177 => ?_)
          · refine a_iload dX11_secret_188 rfl ?_
            exact a_ireturn dX11_secret_190 rfl rfl rfl (zany_i ⟨(d2R_rn hq ra.1 rc.1).es hE, by show _ = svR w (best, least); rw [svR_e, if_neg (by omega)]; first | (rw [if_pos (by omega)]; done) | (rw [if_neg (by omega), if_pos (by omega)]; done) | (rw [if_neg (by omega), if_neg (by omega)]; done)⟩)
          · refine a_iload dX11_secret_180 rfl ?_
            refine a_bipush (w := 100) dX11_secret_182 (by decide) ?_
            refine a_irem dX11_secret_184 ⟨by omega, by omega⟩ ⟨by omega, by omega⟩ (by omega) (by omega) ?_
            refine a_goto (tgt := 190) dX11_secret_185 (by decide) ?_
            exact a_ireturn dX11_secret_190 rfl rfl rfl (zany_i ⟨(d2R_rn hq ra.1 rc.1).es hE, by show _ = svR w (best, least); rw [svR_e, if_neg (by omega)]; first | (rw [if_pos (by omega)]; done) | (rw [if_neg (by omega), if_pos (by omega)]; done) | (rw [if_neg (by omega), if_neg (by omega)]; done)⟩)
        · refine a_iload dX11_secret_167 rfl ?_
          refine a_bipush (w := 100) dX11_secret_169 (by decide) ?_
          refine a_idiv dX11_secret_171 ⟨by omega, by omega⟩ ⟨by omega, by omega⟩ (by omega) (by omega) ?_
          refine a_goto (tgt := 190) dX11_secret_172 (by decide) ?_
          exact a_ireturn dX11_secret_190 rfl rfl rfl (zany_i ⟨(d2R_rn hq ra.1 rc.1).es hE, by show _ = svR w (best, least); rw [svR_e, if_neg (by omega)]; first | (rw [if_pos (by omega)]; done) | (rw [if_neg (by omega), if_pos (by omega)]; done) | (rw [if_neg (by omega), if_neg (by omega)]; done)⟩)
      · refine a_bipush (w := (-2)) dX11_secret_160 (by decide) ?_
        exact a_ireturn dX11_secret_162 rfl rfl rfl (zany_i ⟨(d2R_rn hq ra.1 rc.1).es hE, by show _ = svR w (best, least); rw [svR_e, if_pos (by omega)]⟩)
    · exfalso; omega
  | succ n ih =>
    intro x best least u v M g0 g1 gb gl hE
    refine a_iload dX11_secret_38 rfl ?_
    refine a_bipush (w := 100) dX11_secret_40 (by decide) ?_
    refine a_icmp_ge (tgt := 155) dX11_secret_42 (by decide) ⟨by omega, by omega⟩ ⟨by omega, by omega⟩ (fun hb42 => ?_) (fun hb42 => ?_)
    · exfalso; omega
    · refine a_iconst dX11_secret_45 ?_
      refine c_istore (ls' := [_, _, _, _, _, _, _, _, _]) dX11_secret_46 (by decide) rfl rfl ?_
      refine lpX11_secret_in hP hi ra rc hac ga gc ⟨by omega, by omega⟩ 100 0 best least u v M (by omega) (by omega) gb gl hE (fun M' b9 l9 u' v' e1 e2 e3 hE' => ?_)
      refine c_iinc (ls' := [_, _, _, _, _, _, _, _, _]) dX11_secret_149 rfl (by decide) rfl rfl ?_
      refine a_goto (tgt := 38) dX11_secret_152 (by decide) ?_
      simp only [soO]
      rw [e1]
      exact ih _ _ _ u' v' M' (by omega) (by omega) e2 e3 hE'
      

set_option maxRecDepth 100000 in
set_option maxHeartbeats 4000000 in
theorem m_X11_secret {G : zG} {l : Launch} {L : Nat} {P : zP} {M : zM} {a c w : Int} (hv : RV P M) (ra : inR a) (rc : inR c) (rw : inR w) : AM G l yX11_secret mdX11_secret [aR 209, aI a, aI c, aI w] (LAY L) P M (zany (LAY L) P (fun r M' => Rn M M' ∧ ((¬ (two (M 209 12) a c ∧ 0 ≤ w ∧ w ≤ 2)) ∧ r = -1 ∨ ¬ (¬ (two (M 209 12) a c ∧ 0 ≤ w ∧ w ≤ 2)) ∧ ∃ Mb, LtR M Mb ∧ r = svR w (soO (seF Mb a c) (M 233 a) (M 233 c) 100 0 (-1, 0))))) := by
  have hP := hv.1
  have q0 := hv.2.1.1.1.1
  refine AM.go [some (aR 209), some (aI a), some (aI c), some (aI w), none, none, none, none, none] rfl (Nat.le_of_ble_eq_true rfl) ?_ (by decide) rfl rfl
  refine a_aloadn dX11_secret_0 rfl ?_
  refine a_iconst dX11_secret_1 ?_
  refine a_putI (j' := 2) dX11_secret_2 flX11_124 rfl rfl (L209 L) (by decide) rfl ⟨by omega, by omega⟩ ?_
  obtain ⟨Mt, hMt⟩ : ∃ Mt, Mt = sm M 209 2 0 := ⟨_, rfl⟩
  rw [← hMt]
  obtain ⟨hvt, hnt, e12, eT⟩ := th_all hv hMt
  refine a_aloadn dX11_secret_5 rfl ?_
  refine a_iloadn dX11_secret_6 rfl ?_
  refine a_iloadn dX11_secret_7 rfl ?_
  refine a_oneV (as := [_, _]) (q := 209) dX11_secret_8 mvX11_413 ⟨by decide, by decide⟩ (L209 L) rfl rfl rfl (Nat.le_of_ble_eq_true rfl) ⟨rfl, rfl⟩ ⟨by decide, by decide⟩ (m_areTwo1 (x := a) (y := c) ra rc) (fun x8 hx8 => ?_)
  refine a_if_eq (tgt := 23) dX11_secret_11 (by decide) ⟨by omega, by omega⟩ (fun hb11 => ?_) (fun hb11 => ?_)
  · refine a_iconst dX11_secret_23 ?_
    exact a_ireturn dX11_secret_24 rfl rfl rfl (zany_i ⟨hnt, Or.inl ⟨by omega, rfl⟩⟩)
  · refine a_iloadn dX11_secret_14 rfl ?_
    refine a_iconst dX11_secret_15 ?_
    refine a_iconst dX11_secret_16 ?_
    refine a_oneS (as := [_, _, _]) dX11_secret_17 mvX11_169 ⟨by decide, by decide⟩ rfl rfl (Nat.le_of_ble_eq_true rfl) ⟨rfl, rfl⟩ ⟨by decide, by decide⟩ (m_isIn1 ⟨by omega, by omega⟩ ⟨by omega, by omega⟩ ⟨by omega, by omega⟩) (fun x17 hx17 => ?_)
    refine a_if_ne (tgt := 25) dX11_secret_20 (by decide) ⟨by omega, by omega⟩ (fun hb20 => ?_) (fun hb20 => ?_)
    · refine a_aloadn dX11_secret_25 rfl ?_
      refine a_relVv (as := []) (q := 209) dX11_secret_26 mvX11_424 ⟨by decide, by decide⟩ (L209 L) rfl rfl rfl (Nat.le_of_ble_eq_true rfl) ⟨rfl, rfl⟩ ⟨by decide, by decide⟩ (m_X11_layTried hP) (fun Mb hMb => ?_)
      have hb := hMb.of2 hnt
      have hj := hb.rj hv
      have ga : 0 ≤ Mb 233 a ∧ Mb 233 a ≤ 99 := by have z := hj.2.1.2.1.1.2.2.1.1 a (by omega) (by omega); rwa [show 6 * (0 : Int) + a = a by omega] at z
      have gc : 0 ≤ Mb 233 c ∧ Mb 233 c ≤ 99 := by have z := hj.2.1.2.1.1.2.2.1.1 c (by omega) (by omega); rwa [show 6 * (0 : Int) + c = c by omega] at z
      have ea : Mb 233 a = M 233 a := hj.1.1 233 a (by omega)
      have ec : Mb 233 c = M 233 c := hj.1.1 233 c (by omega)
      have hE0 : Es (d2R Mb a c (Mb 233 (6 + a)) (Mb 233 (6 + c))) Mb := by
        unfold d2R
        rw [sm_id (i := 6 + a) rfl, sm_id rfl]; exact Es.rf Mb
      refine a_iconst dX11_secret_29 ?_
      refine c_istore (ls' := [_, _, _, _, _, _, _, _, _]) dX11_secret_30 (by decide) rfl rfl ?_
      refine a_iconst dX11_secret_32 ?_
      refine c_istore (ls' := [_, _, _, _, _, _, _, _, _]) dX11_secret_33 (by decide) rfl rfl ?_
      refine a_iconst dX11_secret_35 ?_
      refine c_istore (ls' := [_, _, _, _, _, _, _, _, _]) dX11_secret_36 (by decide) rfl rfl ?_
      refine AW.mono2 (lpX11_secret (M0 := M) (Mb := Mb) hP hj.2.2.1.1 (a := a) (c := c) (w := w) ⟨by omega, by omega⟩ ⟨by omega, by omega⟩ (by omega) ga gc hj.1 rw 100 0 (-1) 0 _ _ Mb (by omega) (by omega) (by omega) (by omega) hE0) ?_
      rintro r lay P' M' ⟨h1, h2, x, h3, h4, h5⟩
      exact ⟨h1, h2, x, h3, h4, Or.inr ⟨by omega, Mb, hb, by rw [← ea, ← ec]; exact h5⟩⟩
    · refine a_iconst dX11_secret_23 ?_
      exact a_ireturn dX11_secret_24 rfl rfl rfl (zany_i ⟨hnt, Or.inl ⟨by omega, rfl⟩⟩)
