theorem sm_sm (M : zM) (k : Nat) (i u v : Int) : sm (sm M k i u) k i v = sm M k i v := by
  funext q j
  by_cases e : q = k
  · subst e
    rw [sm_k, sm_k, sm_k]
    unfold us
    split <;> rfl
  · rw [sm_n e, sm_n e, sm_n e]
theorem Es.kw {M0 M : zM} (h : Es M0 M) (b x : Int) : kwR M b x = kwR M0 b x := by
  unfold kwR
  rw [h 209 12 (by decide) (by decide) (by omega), h.row (k := 237) (by decide) (by decide) (by decide)]
theorem Rq.kw {M0 M : zM} (h : Rq M0 M) (hT : TxI M0) {x : Int} (hx : 0 ≤ x ∧ x < 6) : kwR M 0 x = kwR M0 0 x := by
  have q := hT.1
  unfold kwR
  rw [h 209 12 (by omega)]
  exact zbits_cong _ _ _ (fun j j0 j1 => by rw [h 237 _ (by omega)])

/-- how many sounds, in the reference -/
def cdR (h o bf : Int) : Nat → Int → zM → Int
  | 0, _, _ => -2
  | n + 1, k, Mp => if b_iand (kwR Mp 1 h) (b_ixor bf (-1)) ≠ 0 then -2 else if kbit (kwR Mp 1 h) o ≠ 0 then k else cdR h o bf n (k + 1) (sdR 1 h 1 (Mp 209 12).toNat 0 Mp 0).1

set_option maxRecDepth 100000 in
set_option maxHeartbeats 4000000 in
theorem lpX11_code {G : zG} {l : Launch} {L : Nat} {P : zP} {M0 : zM} {h o bf : Int} (hP : PFok P) (rh : 0 ≤ h ∧ h < 6) : ∀ (n : Nat) (k : Int) (M Mp : zM) (g0 : 0 ≤ k) (g1 : k + n = 21) (hE : Es Mp M) (hi : RI Mp 1) (hq : Rn M0 Mp), AW G l mdX11_code (zany (LAY L) P (fun r M' => Rn M0 M' ∧ r = cdR h o bf n k Mp)) 35 [some (aR 209), some (aI h), some (aI o), some (aI bf), some (aI k), none] [] (LAY L) P M 0 0 := by
  intro n
  induction n with
  | zero =>
    intro k M Mp g0 g1 hE hi hq
    have q1 := hi.1.1
    have q7 := kbit01 (kwR Mp 1 h) o
    refine a_iload dX11_code_35 rfl ?_
    refine a_bipush (w := 20) dX11_code_37 (by decide) ?_
    refine a_icmp_gt (tgt := 89) dX11_code_39 (by decide) ⟨by omega, by omega⟩ ⟨by omega, by omega⟩ (fun hb39 => ?_) (fun hb39 => ?_)
    · refine a_bipush (w := (-2)) dX11_code_89 (by decide) ?_
      exact a_ireturn dX11_code_91 rfl rfl rfl (zany_i ⟨hq.es hE, rfl⟩)
    · exfalso; omega
  | succ n ih =>
    intro k M Mp g0 g1 hE hi hq
    have q1 := hi.1.1
    have q7 := kbit01 (kwR Mp 1 h) o
    refine a_iload dX11_code_35 rfl ?_
    refine a_bipush (w := 20) dX11_code_37 (by decide) ?_
    refine a_icmp_gt (tgt := 89) dX11_code_39 (by decide) ⟨by omega, by omega⟩ ⟨by omega, by omega⟩ (fun hb39 => ?_) (fun hb39 => ?_)
    · exfalso; omega
    · refine a_aloadn dX11_code_42 rfl ?_
      refine a_iconst dX11_code_43 ?_
      refine a_iloadn dX11_code_44 rfl ?_
      refine a_iconst dX11_code_45 ?_
      refine a_oneV (as := [_, _, _]) (q := 209) dX11_code_46 mvX11_409 ⟨by decide, by decide⟩ (L209 L) rfl rfl rfl (Nat.le_of_ble_eq_true rfl) ⟨rfl, rfl⟩ ⟨by decide, by decide⟩ (m_knownBits1 hP (Or.inr rfl) (hE.txi hi.1) rh) (fun x46 hx46 => ?_)
      rw [hx46, hE.kw]
      refine c_istore (ls' := [_, _, _, _, _, _]) dX11_code_49 (by decide) rfl rfl ?_
      refine a_iload dX11_code_51 rfl ?_
      refine a_iloadn dX11_code_53 rfl ?_
      refine a_iconst dX11_code_54 ?_
      refine a_ixor dX11_code_55 ?_
      refine a_iand dX11_code_56 ?_
      refine a_if_eq (tgt := 63) dX11_code_57 (by decide) (ir _) (fun hb57 => ?_) (fun hb57 => ?_)
      · refine a_iload dX11_code_63 rfl ?_
        refine a_iloadn dX11_code_65 rfl ?_
        refine a_callS (as := [_, _]) dX11_code_66 mvX11_451 ⟨by decide, by decide⟩ rfl rfl (Nat.le_of_ble_eq_true rfl) ⟨rfl, rfl⟩ ⟨by decide, by decide⟩ m_X11_isOf ?_
        refine a_if_eq (tgt := 75) dX11_code_69 (by decide) (by rcases q7 with z | z <;> exact ⟨by omega, by omega⟩) (fun hb69 => ?_) (fun hb69 => ?_)
        · refine a_aloadn dX11_code_75 rfl ?_
          refine a_iconst dX11_code_76 ?_
          refine a_iloadn dX11_code_77 rfl ?_
          refine a_iconst dX11_code_78 ?_
          refine a_anyV (as := [_, _, _]) (q := 209) dX11_code_79 mvX11_390 ⟨by decide, by decide⟩ (L209 L) rfl rfl rfl (Nat.le_of_ble_eq_true rfl) ⟨rfl, rfl⟩ ⟨by decide, by decide⟩ (m_X11_makes hP (Or.inr rfl) hE hi (by omega) (by omega) ⟨by omega, by omega⟩) (fun x79 M1 hM1 => ?_)
          refine a_popI dX11_code_82 ?_
          refine c_iinc (ls' := [_, _, _, _, _, _]) dX11_code_83 rfl (by decide) rfl rfl ?_
          refine a_goto (tgt := 35) dX11_code_86 (by decide) ?_
          refine a_forget [5] (ls' := [_, _, _, _, _, none]) rfl ?_
          simp only [cdR]
          rw [if_neg (by omega), if_neg (by omega)]
          have f1 := sdR_Fb (b := 1) 1 rh (Mp 209 12).toNat 0 Mp 0 (by omega) (by omega)
          have f2 := sdR_I (b := 1) 1 rh (Mp 209 12).toNat 0 Mp 0 hi.2.2.1 (by omega) (by omega)
          have f3 := (sdR_c 1 h 1 (Mp 209 12).toNat 0 Mp 0).2
          have f4 : Rn Mp (sdR 1 h 1 (Mp 209 12).toNat 0 Mp 0).1 := ⟨f1.rq (by rw [f3]), by rw [f3]; exact hi.2.2.2⟩
          exact ih _ M1 _ (by omega) (by omega) hM1.1 (f1.ri hi f2) (hq.tr f4)
        · refine a_iload dX11_code_72 rfl ?_
          exact a_ireturn dX11_code_74 rfl rfl rfl (zany_i ⟨hq.es hE, by simp only [cdR]; rw [if_neg (by omega), if_pos (by omega)]⟩)
      · refine a_bipush (w := (-2)) dX11_code_60 (by decide) ?_
        exact a_ireturn dX11_code_62 rfl rfl rfl (zany_i ⟨hq.es hE, by simp only [cdR]; rw [if_pos (by omega)]⟩)

set_option maxRecDepth 100000 in
set_option maxHeartbeats 4000000 in
theorem m_X11_code {G : zG} {l : Launch} {L : Nat} {P : zP} {M : zM} {h o : Int} (hv : RV P M) (rh : inR h) (ro : inR o) : AM G l yX11_code mdX11_code [aR 209, aI h, aI o] (LAY L) P M (zany (LAY L) P (fun r M' => Rn M M' ∧ ((¬ two (M 209 12) h o) ∧ r = -1 ∨ ¬ (¬ two (M 209 12) h o) ∧ ∃ Mb, LtR M Mb ∧ r = cdR h o (kset (kwR M 0 h) o) 21 0 Mb))) := by
  have hP := hv.1
  have q0 := hv.2.1.1.1.1
  refine AM.go [some (aR 209), some (aI h), some (aI o), none, none, none] rfl (Nat.le_of_ble_eq_true rfl) ?_ (by decide) rfl rfl
  refine a_aloadn dX11_code_0 rfl ?_
  refine a_iconst dX11_code_1 ?_
  refine a_putI (j' := 2) dX11_code_2 flX11_124 rfl rfl (L209 L) (by decide) rfl ⟨by omega, by omega⟩ ?_
  obtain ⟨Mt, hMt⟩ : ∃ Mt, Mt = sm M 209 2 0 := ⟨_, rfl⟩
  rw [← hMt]
  obtain ⟨hvt, hnt, e12, eT⟩ := th_all hv hMt
  refine a_aloadn dX11_code_5 rfl ?_
  refine a_iloadn dX11_code_6 rfl ?_
  refine a_iloadn dX11_code_7 rfl ?_
  refine a_oneV (as := [_, _]) (q := 209) dX11_code_8 mvX11_413 ⟨by decide, by decide⟩ (L209 L) rfl rfl rfl (Nat.le_of_ble_eq_true rfl) ⟨rfl, rfl⟩ ⟨by decide, by decide⟩ (m_areTwo1 (x := h) (y := o) rh ro) (fun x8 hx8 => ?_)
  refine a_if_ne (tgt := 16) dX11_code_11 (by decide) ⟨by omega, by omega⟩ (fun hb11 => ?_) (fun hb11 => ?_)
  · refine a_aloadn dX11_code_16 rfl ?_
    refine a_relVv (as := []) (q := 209) dX11_code_17 mvX11_424 ⟨by decide, by decide⟩ (L209 L) rfl rfl rfl (Nat.le_of_ble_eq_true rfl) ⟨rfl, rfl⟩ ⟨by decide, by decide⟩ (m_X11_layTried hP) (fun Mb hMb => ?_)
    have hb := hMb.of2 hnt
    have hj := hb.rj hv
    refine a_aloadn dX11_code_20 rfl ?_
    refine a_iconst dX11_code_21 ?_
    refine a_iloadn dX11_code_22 rfl ?_
    refine a_iconst dX11_code_23 ?_
    refine a_oneV (as := [_, _, _]) (q := 209) dX11_code_24 mvX11_409 ⟨by decide, by decide⟩ (L209 L) rfl rfl rfl (Nat.le_of_ble_eq_true rfl) ⟨rfl, rfl⟩ ⟨by decide, by decide⟩ (m_knownBits1 hP (Or.inl rfl) hj.2.1.2.1.1.1 ⟨by omega, by omega⟩) (fun x24 hx24 => ?_)
    rw [hx24, hj.1.1.kw hv.2.1.1.1 ⟨by omega, by omega⟩]
    refine a_iconst dX11_code_27 ?_
    refine a_iloadn dX11_code_28 rfl ?_
    refine a_ishl dX11_code_29 ?_
    refine a_ior dX11_code_30 ?_
    refine c_istoren (ls' := [_, _, _, _, _, _]) dX11_code_31 (by decide) rfl rfl ?_
    refine a_iconst dX11_code_32 ?_
    refine c_istore (ls' := [_, _, _, _, _, _]) dX11_code_33 (by decide) rfl rfl ?_
    refine AW.mono2 (lpX11_code (M0 := M) hP (h := h) (o := o) ⟨by omega, by omega⟩ 21 0 Mb Mb (by omega) (by omega) (Es.rf Mb) hj.2.2.1.1 hj.1) ?_
    rintro r lay P' M' ⟨h1, h2, x, h3, h4, h5⟩
    exact ⟨h1, h2, x, h3, h4, Or.inr ⟨by omega, Mb, hb, h5⟩⟩
  · refine a_iconst dX11_code_14 ?_
    exact a_ireturn dX11_code_15 rfl rfl rfl (zany_i ⟨hnt, Or.inl ⟨by omega, rfl⟩⟩)

/-- the k-th nearest dial -/
def dbR (d k : Int) : Int := if k.tmod 2 = 1 then (if 0 ≤ d - (k + 1).tdiv 2 ∧ d - (k + 1).tdiv 2 ≤ 99 then d - (k + 1).tdiv 2 else -1) else (if 0 ≤ d + k.tdiv 2 ∧ d + k.tdiv 2 ≤ 99 then d + k.tdiv 2 else -1)
theorem dbR_in (d k : Int) : -1 ≤ dbR d k ∧ dbR d k ≤ 99 := by
  unfold dbR
  split <;> split <;> omega

set_option maxRecDepth 100000 in
set_option maxHeartbeats 4000000 in
theorem m_X11_dialBy {G : zG} {l : Launch} {L : Nat} {P : zP} {M : zM} {h k : Int} (hP : PFok P) (rh : 0 ≤ h ∧ h < 6) (rk : 0 ≤ k ∧ k < 200) (rd : 0 ≤ M 233 h ∧ M 233 h ≤ 99) : AM G l yX11_dialBy mdX11_dialBy [aR 209, aI h, aI k] (LAY L) P M (zone (LAY L) P M (fun r => r = dbR (M 233 h) k)) := by
  have t1 : k.tmod 2 = k % 2 := Int.tmod_eq_emod_of_nonneg (by omega)
  have t2 : k.tdiv 2 = k / 2 := Int.tdiv_eq_ediv_of_nonneg (by omega)
  have t3 : (k + 1).tdiv 2 = (k + 1) / 2 := Int.tdiv_eq_ediv_of_nonneg (by omega)
  refine AM.go [some (aR 209), some (aI h), some (aI k), none] rfl (Nat.le_of_ble_eq_true rfl) ?_ (by decide) rfl rfl
  refine a_iloadn dX11_dialBy_0 rfl ?_
  refine a_iconst dX11_dialBy_1 ?_
  refine a_irem dX11_dialBy_2 ⟨by omega, by omega⟩ ⟨by omega, by omega⟩ (by omega) (by omega) ?_
  refine a_iconst dX11_dialBy_3 ?_
  refine a_icmp_ne (tgt := 22) dX11_dialBy_4 (by decide) (by rw [t1]; exact ⟨by omega, by omega⟩) ⟨by omega, by omega⟩ (fun hb4 => ?_) (fun hb4 => ?_)
  · refine a_aloadn dX11_dialBy_22 rfl ?_
    refine a_getR (j' := 48) (y := 233) dX11_dialBy_23 flX11_85 rfl rfl (L209 L) (p209_48 hP) ?_
    refine a_iloadn dX11_dialBy_26 rfl ?_
    refine b_iald (N := 12) dX11_dialBy_27 (L233 L) (by decide) (by omega) (by omega) (fun hr27 => ?_)
    refine a_iloadn dX11_dialBy_28 rfl ?_
    refine a_iconst dX11_dialBy_29 ?_
    refine a_idiv dX11_dialBy_30 ⟨by omega, by omega⟩ ⟨by omega, by omega⟩ (by omega) (by omega) ?_
    refine a_iadd dX11_dialBy_31 ?_
    refine c_istoren (ls' := [_, _, _, _]) dX11_dialBy_32 (by decide) rfl rfl ?_
    refine a_iloadn dX11_dialBy_33 rfl ?_
    refine a_iconst dX11_dialBy_34 ?_
    refine a_bipush (w := 99) dX11_dialBy_35 (by decide) ?_
    refine a_oneS (as := [_, _, _]) dX11_dialBy_37 mvX11_169 ⟨by decide, by decide⟩ rfl rfl (Nat.le_of_ble_eq_true rfl) ⟨rfl, rfl⟩ ⟨by decide, by decide⟩ (m_isIn1 ⟨by omega, by omega⟩ ⟨by omega, by omega⟩ ⟨by omega, by omega⟩) (fun x37 hx37 => ?_)
    refine a_if_eq (tgt := 47) dX11_dialBy_40 (by decide) ⟨by omega, by omega⟩ (fun hb40 => ?_) (fun hb40 => ?_)
    · refine a_iconst dX11_dialBy_47 ?_
      exact a_ireturn dX11_dialBy_48 rfl rfl rfl (zone_i (by unfold dbR; first | (rw [if_pos (by omega), if_pos (by omega)]; done) | (rw [if_pos (by omega), if_neg (by omega)]; done) | (rw [if_neg (by omega), if_pos (by omega)]; done) | (rw [if_neg (by omega), if_neg (by omega)]; done)))
    · refine a_iloadn dX11_dialBy_43 rfl ?_
      refine a_goto (tgt := 48) dX11_dialBy_44 (by decide) ?_
      exact a_ireturn dX11_dialBy_48 rfl rfl rfl (zone_i (by unfold dbR; first | (rw [if_pos (by omega), if_pos (by omega)]; done) | (rw [if_pos (by omega), if_neg (by omega)]; done) | (rw [if_neg (by omega), if_pos (by omega)]; done) | (rw [if_neg (by omega), if_neg (by omega)]; done)))
  · refine a_aloadn dX11_dialBy_7 rfl ?_
    refine a_getR (j' := 48) (y := 233) dX11_dialBy_8 flX11_85 rfl rfl (L209 L) (p209_48 hP) ?_
    refine a_iloadn dX11_dialBy_11 rfl ?_
    refine b_iald (N := 12) dX11_dialBy_12 (L233 L) (by decide) (by omega) (by omega) (fun hr12 => ?_)
    refine a_iloadn dX11_dialBy_13 rfl ?_
    refine a_iconst dX11_dialBy_14 ?_
    refine a_iadd dX11_dialBy_15 ?_
    refine a_iconst dX11_dialBy_16 ?_
    refine a_idiv dX11_dialBy_17 ⟨by omega, by omega⟩ ⟨by omega, by omega⟩ (by omega) (by omega) ?_
    refine a_isub dX11_dialBy_18 ?_
    refine a_goto (tgt := 32) dX11_dialBy_19 (by decide) ?_
    refine c_istoren (ls' := [_, _, _, _]) dX11_dialBy_32 (by decide) rfl rfl ?_
    refine a_iloadn dX11_dialBy_33 rfl ?_
    refine a_iconst dX11_dialBy_34 ?_
    refine a_bipush (w := 99) dX11_dialBy_35 (by decide) ?_
    refine a_oneS (as := [_, _, _]) dX11_dialBy_37 mvX11_169 ⟨by decide, by decide⟩ rfl rfl (Nat.le_of_ble_eq_true rfl) ⟨rfl, rfl⟩ ⟨by decide, by decide⟩ (m_isIn1 ⟨by omega, by omega⟩ ⟨by omega, by omega⟩ ⟨by omega, by omega⟩) (fun x37 hx37 => ?_)
    refine a_if_eq (tgt := 47) dX11_dialBy_40 (by decide) ⟨by omega, by omega⟩ (fun hb40 => ?_) (fun hb40 => ?_)
    · refine a_iconst dX11_dialBy_47 ?_
      exact a_ireturn dX11_dialBy_48 rfl rfl rfl (zone_i (by unfold dbR; first | (rw [if_pos (by omega), if_pos (by omega)]; done) | (rw [if_pos (by omega), if_neg (by omega)]; done) | (rw [if_neg (by omega), if_pos (by omega)]; done) | (rw [if_neg (by omega), if_neg (by omega)]; done)))
    · refine a_iloadn dX11_dialBy_43 rfl ?_
      refine a_goto (tgt := 48) dX11_dialBy_44 (by decide) ?_
      exact a_ireturn dX11_dialBy_48 rfl rfl rfl (zone_i (by unfold dbR; first | (rw [if_pos (by omega), if_pos (by omega)]; done) | (rw [if_pos (by omega), if_neg (by omega)]; done) | (rw [if_neg (by omega), if_pos (by omega)]; done) | (rw [if_neg (by omega), if_neg (by omega)]; done)))

/-- a house's dial, tried -/
abbrev dlR (Mb : zM) (h x : Int) : zM := sm Mb 233 (6 + h) x
theorem dlR_ri {Mb : zM} (hi : RI Mb 1) {h x : Int} (hh : 0 ≤ h ∧ h < 6) (hx : 0 ≤ x ∧ x ≤ 99) : RI (dlR Mb h x) 1 := ((Fb.rf 1 Mb).sm x (by omega)).ri hi (hi.2.2.1.d hx)
theorem dlR_st {Mb M : zM} {h d : Int} (hE : Es (dlR Mb h d) M) (x : Int) : Es (dlR Mb h x) (sm M 233 (6 + h) x) := by
  have z := hE.sm2 233 (6 + h) x
  rw [show sm (dlR Mb h d) 233 (6 + h) x = dlR Mb h x from sm_sm _ _ _ _ _] at z
  exact z
theorem dlR_rn {M0 Mb : zM} (h : Rn M0 Mb) {x y : Int} (hx : 0 ≤ x) : Rn M0 (dlR Mb x y) := ⟨h.1.put _ (by omega), by rw [show dlR Mb x y 209 = Mb 209 from sm_n (by decide)]; exact h.2⟩
def hdR (Mb : zM) (h x : Int) : Int := b_ior (hbR (dlR Mb h x) 1 h) (hoR (dlR Mb h x) 1 h)
def hiR (f : Int → Int) (d : Int) : Nat → Int → Int
  | 0, _ => -2
  | n + 1, k => if dbR d k < 0 then hiR f d n (k + 1) else if f (dbR d k) = 0 then dbR d k else hiR f d n (k + 1)
def luR (f : Int → Int) (o d : Int) : Nat → Int → Int → Int → Int
  | 0, _, best, _ => best
  | n + 1, k, best, few => if dbR d k < 0 then luR f o d n (k + 1) best few else if kbit (f (dbR d k)) o = 0 ∨ (0 ≤ best ∧ few ≤ myR (f (dbR d k))) then luR f o d n (k + 1) best few else luR f o d n (k + 1) (dbR d k) (myR (f (dbR d k)))

set_option maxRecDepth 100000 in
set_option maxHeartbeats 4000000 in
theorem lpX11_hide {G : zG} {l : Launch} {L : Nat} {P : zP} {M0 Mb : zM} {h : Int} (hP : PFok P) (hi : RI Mb 1) (hq : Rn M0 Mb) (rh : 0 ≤ h ∧ h < 6) (rd : 0 ≤ Mb 233 h ∧ Mb 233 h ≤ 99) : ∀ (n : Nat) (k d : Int) (M : zM) (g0 : 0 ≤ k) (g1 : k + n = 200) (hE : Es (dlR Mb h d) M), AW G l mdX11_hide (zany (LAY L) P (fun r M' => Rn M0 M' ∧ r = hiR (hdR Mb h) (Mb 233 h) n k)) 21 [some (aR 209), some (aI h), some (aI k), none] [] (LAY L) P M 0 0 := by
  intro n
  induction n with
  | zero =>
    intro k d M g0 g1 hE
    have e233 : M 233 h = Mb 233 h := by rw [hE.row (k := 233) (by decide) (by decide) (by decide)]; show sm Mb 233 (6 + h) d 233 h = _; rw [sm_k, us_n (by omega)]
    have q9 := dbR_in (Mb 233 h) k
    refine a_iloadn dX11_hide_21 rfl ?_
    refine a_sipush (w := 200) dX11_hide_22 (by decide) ?_
    refine a_icmp_ge (tgt := 76) dX11_hide_25 (by decide) ⟨by omega, by omega⟩ ⟨by omega, by omega⟩ (fun hb25 => ?_) (fun hb25 => ?_)
    · refine a_bipush (w := (-2)) dX11_hide_76 (by decide) ?_
      exact a_ireturn dX11_hide_78 rfl rfl rfl (zany_i ⟨(dlR_rn hq rh.1).es hE, rfl⟩)
    · exfalso; omega
  | succ n ih =>
    intro k d M g0 g1 hE
    have e233 : M 233 h = Mb 233 h := by rw [hE.row (k := 233) (by decide) (by decide) (by decide)]; show sm Mb 233 (6 + h) d 233 h = _; rw [sm_k, us_n (by omega)]
    have q9 := dbR_in (Mb 233 h) k
    refine a_iloadn dX11_hide_21 rfl ?_
    refine a_sipush (w := 200) dX11_hide_22 (by decide) ?_
    refine a_icmp_ge (tgt := 76) dX11_hide_25 (by decide) ⟨by omega, by omega⟩ ⟨by omega, by omega⟩ (fun hb25 => ?_) (fun hb25 => ?_)
    · exfalso; omega
    · refine a_aloadn dX11_hide_28 rfl ?_
      refine a_iloadn dX11_hide_29 rfl ?_
      refine a_iloadn dX11_hide_30 rfl ?_
      refine a_oneV (as := [_, _]) (q := 209) dX11_hide_31 mvX11_487 ⟨by decide, by decide⟩ (L209 L) rfl rfl rfl (Nat.le_of_ble_eq_true rfl) ⟨rfl, rfl⟩ ⟨by decide, by decide⟩ (m_X11_dialBy hP rh ⟨by omega, by omega⟩ (by rw [e233]; exact rd)) (fun x31 hx31 => ?_)
      rw [e233] at hx31
      refine c_istoren (ls' := [_, _, _, _]) dX11_hide_34 (by decide) rfl rfl ?_
      refine a_iloadn dX11_hide_35 rfl ?_
      refine a_if_ge (tgt := 42) dX11_hide_36 (by decide) ⟨by omega, by omega⟩ (fun hb36 => ?_) (fun hb36 => ?_)
      · refine a_aloadn dX11_hide_42 rfl ?_
        refine a_getR (j' := 48) (y := 233) dX11_hide_43 flX11_85 rfl rfl (L209 L) (p209_48 hP) ?_
        refine a_bipush (w := 6) dX11_hide_46 (by decide) ?_
        refine a_iloadn dX11_hide_48 rfl ?_
        refine a_iadd dX11_hide_49 ?_
        refine a_iloadn dX11_hide_50 rfl ?_
        refine a_iast (N := 12) dX11_hide_51 (L233 L) (by decide) (by decide) (by omega) (by omega) ⟨by omega, by omega⟩ ?_
        have hE2 := dlR_st hE x31
        refine a_aloadn dX11_hide_52 rfl ?_
        refine a_iconst dX11_hide_53 ?_
        refine a_iloadn dX11_hide_54 rfl ?_
        refine a_anyV (as := [_, _]) (q := 209) dX11_hide_55 mvX11_403 ⟨by decide, by decide⟩ (L209 L) rfl rfl rfl (Nat.le_of_ble_eq_true rfl) ⟨rfl, rfl⟩ ⟨by decide, by decide⟩ (m_X11_heardBy hP (Or.inr rfl) (hE2.ri (dlR_ri hi rh ⟨by omega, by omega⟩)) ⟨by omega, by omega⟩) (fun x55 M1 hM1 => ?_)
        have hE3 := hE2.tr hM1.1
        have ex1 : x55 = hbR (dlR Mb h x31) 1 h := by rw [hM1.2, hE2.hb]
        refine a_aloadn dX11_hide_58 rfl ?_
        refine a_iconst dX11_hide_59 ?_
        refine a_iloadn dX11_hide_60 rfl ?_
        refine a_anyV (as := [_, _]) (q := 209) dX11_hide_61 mvX11_406 ⟨by decide, by decide⟩ (L209 L) rfl rfl rfl (Nat.le_of_ble_eq_true rfl) ⟨rfl, rfl⟩ ⟨by decide, by decide⟩ (m_X11_hearing hP (Or.inr rfl) (hE3.ri (dlR_ri hi rh ⟨by omega, by omega⟩)) ⟨by omega, by omega⟩) (fun x61 M2 hM2 => ?_)
        have hE4 := hE3.tr hM2.1
        have ex2 : x61 = hoR (dlR Mb h x31) 1 h := by rw [hM2.2, hE3.ho]
        refine a_ior dX11_hide_64 ?_
        refine a_stk (st' := [aI (hdR Mb h x31)]) (by rw [ex1, ex2]; rfl) ?_
        refine a_if_ne (tgt := 70) dX11_hide_65 (by decide) (ir _) (fun hb65 => ?_) (fun hb65 => ?_)
        · refine c_iinc (ls' := [_, _, _, _]) dX11_hide_70 rfl (by decide) rfl rfl ?_
          refine a_goto (tgt := 21) dX11_hide_73 (by decide) ?_
          refine a_forget [3] (ls' := [_, _, _, none]) rfl ?_
          simp only [hiR]
          rw [← hx31]
          first
          | (rw [if_pos (by omega)]; exact ih _ d M (by omega) (by omega) hE)
          | (rw [if_neg (by omega), if_neg (by omega)]; exact ih _ x31 M2 (by omega) (by omega) hE4)
        · refine a_iloadn dX11_hide_68 rfl ?_
          exact a_ireturn dX11_hide_69 rfl rfl rfl (zany_i ⟨(dlR_rn hq rh.1).es hE4, by simp only [hiR]; rw [← hx31, if_neg (by omega), if_pos (by omega)]⟩)
      · refine a_goto (tgt := 70) dX11_hide_39 (by decide) ?_
        refine c_iinc (ls' := [_, _, _, _]) dX11_hide_70 rfl (by decide) rfl rfl ?_
        refine a_goto (tgt := 21) dX11_hide_73 (by decide) ?_
        refine a_forget [3] (ls' := [_, _, _, none]) rfl ?_
        simp only [hiR]
        rw [← hx31]
        first
        | (rw [if_pos (by omega)]; exact ih _ d M (by omega) (by omega) hE)
        | (rw [if_neg (by omega), if_neg (by omega)]; exact ih _ x31 M2 (by omega) (by omega) hE4)

set_option maxRecDepth 100000 in
set_option maxHeartbeats 4000000 in
theorem m_X11_hide {G : zG} {l : Launch} {L : Nat} {P : zP} {M : zM} {h : Int} (hv : RV P M) (rh : inR h) : AM G l yX11_hide mdX11_hide [aR 209, aI h] (LAY L) P M (zany (LAY L) P (fun r M' => Rn M M' ∧ ((¬ (0 ≤ h ∧ h < M 209 12)) ∧ r = -1 ∨ ¬ (¬ (0 ≤ h ∧ h < M 209 12)) ∧ ∃ Mb, LtR M Mb ∧ r = hiR (hdR Mb h) (M 233 h) 200 0))) := by
  have hP := hv.1
  have q0 := hv.2.1.1.1.1
  refine AM.go [some (aR 209), some (aI h), none, none] rfl (Nat.le_of_ble_eq_true rfl) ?_ (by decide) rfl rfl
  refine a_aloadn dX11_hide_0 rfl ?_
  refine a_iconst dX11_hide_1 ?_
  refine a_putI (j' := 2) dX11_hide_2 flX11_124 rfl rfl (L209 L) (by decide) rfl ⟨by omega, by omega⟩ ?_
  obtain ⟨Mt, hMt⟩ : ∃ Mt, Mt = sm M 209 2 0 := ⟨_, rfl⟩
  rw [← hMt]
  obtain ⟨hvt, hnt, e12, eT⟩ := th_all hv hMt
  refine a_aloadn dX11_hide_5 rfl ?_
  refine a_iloadn dX11_hide_6 rfl ?_
  refine a_oneV (as := [_]) (q := 209) dX11_hide_7 mvX11_352 ⟨by decide, by decide⟩ (L209 L) rfl rfl rfl (Nat.le_of_ble_eq_true rfl) ⟨rfl, rfl⟩ ⟨by decide, by decide⟩ (m_isHouse1 (x := h) rh) (fun x7 hx7 => ?_)
  refine a_if_ne (tgt := 15) dX11_hide_10 (by decide) ⟨by omega, by omega⟩ (fun hb10 => ?_) (fun hb10 => ?_)
  · refine a_aloadn dX11_hide_15 rfl ?_
    refine a_relVv (as := []) (q := 209) dX11_hide_16 mvX11_424 ⟨by decide, by decide⟩ (L209 L) rfl rfl rfl (Nat.le_of_ble_eq_true rfl) ⟨rfl, rfl⟩ ⟨by decide, by decide⟩ (m_X11_layTried hP) (fun Mb hMb => ?_)
    have hb := hMb.of2 hnt
    have hj := hb.rj hv
    have rd : 0 ≤ Mb 233 h ∧ Mb 233 h ≤ 99 := by have z := hj.2.1.2.1.1.2.2.1.1 h (by omega) (by omega); rwa [show 6 * (0 : Int) + h = h by omega] at z
    have e233 : Mb 233 h = M 233 h := hj.1.1 233 h (by omega)
    refine a_iconst dX11_hide_19 ?_
    refine c_istoren (ls' := [_, _, _, _]) dX11_hide_20 (by decide) rfl rfl ?_
    refine AW.mono2 (lpX11_hide (M0 := M) (Mb := Mb) hP hj.2.2.1.1 hj.1 (h := h) ⟨by omega, by omega⟩ rd 200 0 (Mb 233 (6 + h)) Mb (by omega) (by omega) (by show Es (sm Mb 233 (6 + h) (Mb 233 (6 + h))) Mb; rw [sm_id rfl]; exact Es.rf Mb)) ?_
    rintro r lay P' M' ⟨h1, h2, x, h3, h4, h5⟩
    exact ⟨h1, h2, x, h3, h4, Or.inr ⟨by omega, Mb, hb, by rw [← e233]; exact h5⟩⟩
  · refine a_iconst dX11_hide_13 ?_
    exact a_ireturn dX11_hide_14 rfl rfl rfl (zany_i ⟨hnt, Or.inl ⟨by omega, rfl⟩⟩)

set_option maxRecDepth 100000 in
set_option maxHeartbeats 4000000 in
theorem lpX11_lure {G : zG} {l : Launch} {L : Nat} {P : zP} {M0 Mb : zM} {h o : Int} (hP : PFok P) (hi : RI Mb 1) (hq : Rn M0 Mb) (rh : 0 ≤ h ∧ h < 6) (rd : 0 ≤ Mb 233 h ∧ Mb 233 h ≤ 99) : ∀ (n : Nat) (k best few d : Int) (M : zM) (g0 : 0 ≤ k) (g1 : k + n = 200) (hE : Es (dlR Mb h d) M) (gb : -2 ≤ best ∧ best ≤ 99) (gf : 0 ≤ few ∧ few ≤ 6), AW G l mdX11_lure (zany (LAY L) P (fun r M' => Rn M0 M' ∧ r = luR (fun x => hoR (dlR Mb h x) 1 h) o (Mb 233 h) n k best few)) 29 [some (aR 209), some (aI h), some (aI o), some (aI best), some (aI few), some (aI k), none, none] [] (LAY L) P M 0 0 := by
  intro n
  induction n with
  | zero =>
    intro k best few d M g0 g1 hE gb gf
    have e233 : M 233 h = Mb 233 h := by rw [hE.row (k := 233) (by decide) (by decide) (by decide)]; show sm Mb 233 (6 + h) d 233 h = _; rw [sm_k, us_n (by omega)]
    have q9 := dbR_in (Mb 233 h) k
    refine a_iload dX11_lure_29 rfl ?_
    refine a_sipush (w := 200) dX11_lure_31 (by decide) ?_
    refine a_icmp_ge (tgt := 115) dX11_lure_34 (by decide) ⟨by omega, by omega⟩ ⟨by omega, by omega⟩ (fun hb34 => ?_) (fun hb34 => ?_)
    · refine a_iloadn dX11_lure_115 rfl ?_
      exact a_ireturn dX11_lure_116 rfl rfl rfl (zany_i ⟨(dlR_rn hq rh.1).es hE, rfl⟩)
    · exfalso; omega
  | succ n ih =>
    intro k best few d M g0 g1 hE gb gf
    have e233 : M 233 h = Mb 233 h := by rw [hE.row (k := 233) (by decide) (by decide) (by decide)]; show sm Mb 233 (6 + h) d 233 h = _; rw [sm_k, us_n (by omega)]
    have q9 := dbR_in (Mb 233 h) k
    refine a_iload dX11_lure_29 rfl ?_
    refine a_sipush (w := 200) dX11_lure_31 (by decide) ?_
    refine a_icmp_ge (tgt := 115) dX11_lure_34 (by decide) ⟨by omega, by omega⟩ ⟨by omega, by omega⟩ (fun hb34 => ?_) (fun hb34 => ?_)
    · exfalso; omega
    · refine a_aloadn dX11_lure_37 rfl ?_
      refine a_iloadn dX11_lure_38 rfl ?_
      refine a_iload dX11_lure_39 rfl ?_
      refine a_oneV (as := [_, _]) (q := 209) dX11_lure_41 mvX11_487 ⟨by decide, by decide⟩ (L209 L) rfl rfl rfl (Nat.le_of_ble_eq_true rfl) ⟨rfl, rfl⟩ ⟨by decide, by decide⟩ (m_X11_dialBy hP rh ⟨by omega, by omega⟩ (by rw [e233]; exact rd)) (fun x31 hx31 => ?_)
      rw [e233] at hx31
      refine c_istore (ls' := [_, _, _, _, _, _, _, _]) dX11_lure_44 (by decide) rfl rfl ?_
      refine a_iload dX11_lure_46 rfl ?_
      refine a_if_ge (tgt := 54) dX11_lure_48 (by decide) ⟨by omega, by omega⟩ (fun hb48 => ?_) (fun hb48 => ?_)
      · refine a_aloadn dX11_lure_54 rfl ?_
        refine a_getR (j' := 48) (y := 233) dX11_lure_55 flX11_85 rfl rfl (L209 L) (p209_48 hP) ?_
        refine a_bipush (w := 6) dX11_lure_58 (by decide) ?_
        refine a_iloadn dX11_lure_60 rfl ?_
        refine a_iadd dX11_lure_61 ?_
        refine a_iload dX11_lure_62 rfl ?_
        refine a_iast (N := 12) dX11_lure_64 (L233 L) (by decide) (by decide) (by omega) (by omega) ⟨by omega, by omega⟩ ?_
        have hE2 := dlR_st hE x31
        refine a_aloadn dX11_lure_65 rfl ?_
        refine a_iconst dX11_lure_66 ?_
        refine a_iloadn dX11_lure_67 rfl ?_
        refine a_anyV (as := [_, _]) (q := 209) dX11_lure_68 mvX11_406 ⟨by decide, by decide⟩ (L209 L) rfl rfl rfl (Nat.le_of_ble_eq_true rfl) ⟨rfl, rfl⟩ ⟨by decide, by decide⟩ (m_X11_hearing hP (Or.inr rfl) (hE2.ri (dlR_ri hi rh ⟨by omega, by omega⟩)) ⟨by omega, by omega⟩) (fun x68 M2 hM2 => ?_)
        have hE4 := hE2.tr hM2.1
        have ex2 : x68 = hoR (dlR Mb h x31) 1 h := by rw [hM2.2, hE2.ho]
        have b2 := myR_in x68
        have q7 := kbit01 x68 o
        refine c_istore (ls' := [_, _, _, _, _, _, _, _]) dX11_lure_71 (by decide) rfl rfl ?_
        refine a_iload dX11_lure_73 rfl ?_
        refine a_iloadn dX11_lure_75 rfl ?_
        refine a_callS (as := [_, _]) dX11_lure_76 mvX11_451 ⟨by decide, by decide⟩ rfl rfl (Nat.le_of_ble_eq_true rfl) ⟨rfl, rfl⟩ ⟨by decide, by decide⟩ m_X11_isOf ?_
        refine a_if_eq (tgt := 109) dX11_lure_79 (by decide) (by rcases q7 with z | z <;> exact ⟨by omega, by omega⟩) (fun hb79 => ?_) (fun hb79 => ?_)
        · refine c_iinc (ls' := [_, _, _, _, _, _, _, _]) dX11_lure_109 rfl (by decide) rfl rfl ?_
          refine a_goto (tgt := 29) dX11_lure_112 (by decide) ?_
          refine a_forget [6, 7] (ls' := [_, _, _, _, _, _, none, none]) rfl ?_
          simp only [luR]
          rw [← hx31]
          first
          | (rw [if_pos (by omega)]; exact ih _ _ _ d M (by omega) (by omega) hE gb gf)
          | (rw [if_neg (by omega), if_pos (by rw [← ex2]; omega)]; exact ih _ _ _ x31 M2 (by omega) (by omega) hE4 gb gf)
          | (rw [if_neg (by omega), if_neg (by rw [← ex2]; omega), ← ex2]; exact ih _ _ _ x31 M2 (by omega) (by omega) hE4 (by omega) b2)
        · refine a_iloadn dX11_lure_82 rfl ?_
          refine a_if_lt (tgt := 99) dX11_lure_83 (by decide) ⟨by omega, by omega⟩ (fun hb83 => ?_) (fun hb83 => ?_)
          · refine a_iload dX11_lure_99 rfl ?_
            refine c_istoren (ls' := [_, _, _, _, _, _, _, _]) dX11_lure_101 (by decide) rfl rfl ?_
            refine a_iload dX11_lure_102 rfl ?_
            refine a_callS (as := [_]) dX11_lure_104 mvX11_470 ⟨by decide, by decide⟩ rfl rfl (Nat.le_of_ble_eq_true rfl) ⟨rfl, rfl⟩ ⟨by decide, by decide⟩ m_X11_manyOf ?_
            refine a_stk (st' := [aI (myR x68)]) rfl ?_
            refine c_istore (ls' := [_, _, _, _, _, _, _, _]) dX11_lure_107 (by decide) rfl rfl ?_
            refine c_iinc (ls' := [_, _, _, _, _, _, _, _]) dX11_lure_109 rfl (by decide) rfl rfl ?_
            refine a_goto (tgt := 29) dX11_lure_112 (by decide) ?_
            refine a_forget [6, 7] (ls' := [_, _, _, _, _, _, none, none]) rfl ?_
            simp only [luR]
            rw [← hx31]
            first
            | (rw [if_pos (by omega)]; exact ih _ _ _ d M (by omega) (by omega) hE gb gf)
            | (rw [if_neg (by omega), if_pos (by rw [← ex2]; omega)]; exact ih _ _ _ x31 M2 (by omega) (by omega) hE4 gb gf)
            | (rw [if_neg (by omega), if_neg (by rw [← ex2]; omega), ← ex2]; exact ih _ _ _ x31 M2 (by omega) (by omega) hE4 (by omega) b2)
          · refine a_iload dX11_lure_86 rfl ?_
            refine a_callS (as := [_]) dX11_lure_88 mvX11_470 ⟨by decide, by decide⟩ rfl rfl (Nat.le_of_ble_eq_true rfl) ⟨rfl, rfl⟩ ⟨by decide, by decide⟩ m_X11_manyOf ?_
            refine a_stk (st' := [aI (myR x68)]) rfl ?_
            refine a_iload dX11_lure_91 rfl ?_
            refine a_icmp_lt (tgt := 99) dX11_lure_93 (by decide) ⟨by omega, by omega⟩ ⟨by omega, by omega⟩ (fun hb93 => ?_) (fun hb93 => ?_)
            · refine a_iload dX11_lure_99 rfl ?_
              refine c_istoren (ls' := [_, _, _, _, _, _, _, _]) dX11_lure_101 (by decide) rfl rfl ?_
              refine a_iload dX11_lure_102 rfl ?_
              refine a_callS (as := [_]) dX11_lure_104 mvX11_470 ⟨by decide, by decide⟩ rfl rfl (Nat.le_of_ble_eq_true rfl) ⟨rfl, rfl⟩ ⟨by decide, by decide⟩ m_X11_manyOf ?_
              refine a_stk (st' := [aI (myR x68)]) rfl ?_
              refine c_istore (ls' := [_, _, _, _, _, _, _, _]) dX11_lure_107 (by decide) rfl rfl ?_
              refine c_iinc (ls' := [_, _, _, _, _, _, _, _]) dX11_lure_109 rfl (by decide) rfl rfl ?_
              refine a_goto (tgt := 29) dX11_lure_112 (by decide) ?_
              refine a_forget [6, 7] (ls' := [_, _, _, _, _, _, none, none]) rfl ?_
              simp only [luR]
              rw [← hx31]
              first
              | (rw [if_pos (by omega)]; exact ih _ _ _ d M (by omega) (by omega) hE gb gf)
              | (rw [if_neg (by omega), if_pos (by rw [← ex2]; omega)]; exact ih _ _ _ x31 M2 (by omega) (by omega) hE4 gb gf)
              | (rw [if_neg (by omega), if_neg (by rw [← ex2]; omega), ← ex2]; exact ih _ _ _ x31 M2 (by omega) (by omega) hE4 (by omega) b2)
            · refine a_goto (tgt := 109) dX11_lure_96 (by decide) ?_
              refine c_iinc (ls' := [_, _, _, _, _, _, _, _]) dX11_lure_109 rfl (by decide) rfl rfl ?_
              refine a_goto (tgt := 29) dX11_lure_112 (by decide) ?_
              refine a_forget [6, 7] (ls' := [_, _, _, _, _, _, none, none]) rfl ?_
              simp only [luR]
              rw [← hx31]
              first
              | (rw [if_pos (by omega)]; exact ih _ _ _ d M (by omega) (by omega) hE gb gf)
              | (rw [if_neg (by omega), if_pos (by rw [← ex2]; omega)]; exact ih _ _ _ x31 M2 (by omega) (by omega) hE4 gb gf)
              | (rw [if_neg (by omega), if_neg (by rw [← ex2]; omega), ← ex2]; exact ih _ _ _ x31 M2 (by omega) (by omega) hE4 (by omega) b2)
      · refine a_goto (tgt := 109) dX11_lure_51 (by decide) ?_
        refine c_iinc (ls' := [_, _, _, _, _, _, _, _]) dX11_lure_109 rfl (by decide) rfl rfl ?_
        refine a_goto (tgt := 29) dX11_lure_112 (by decide) ?_
        refine a_forget [6, 7] (ls' := [_, _, _, _, _, _, none, none]) rfl ?_
        simp only [luR]
        rw [← hx31]
        first
        | (rw [if_pos (by omega)]; exact ih _ _ _ d M (by omega) (by omega) hE gb gf)
        | (rw [if_neg (by omega), if_pos (by rw [← ex2]; omega)]; exact ih _ _ _ x31 M2 (by omega) (by omega) hE4 gb gf)
        | (rw [if_neg (by omega), if_neg (by rw [← ex2]; omega), ← ex2]; exact ih _ _ _ x31 M2 (by omega) (by omega) hE4 (by omega) b2)

set_option maxRecDepth 100000 in
set_option maxHeartbeats 4000000 in
theorem m_X11_lure {G : zG} {l : Launch} {L : Nat} {P : zP} {M : zM} {h o : Int} (hv : RV P M) (rh : inR h) (ro : inR o) : AM G l yX11_lure mdX11_lure [aR 209, aI h, aI o] (LAY L) P M (zany (LAY L) P (fun r M' => Rn M M' ∧ ((¬ two (M 209 12) h o) ∧ r = -1 ∨ ¬ (¬ two (M 209 12) h o) ∧ ∃ Mb, LtR M Mb ∧ r = luR (fun x => hoR (dlR Mb h x) 1 h) o (M 233 h) 200 0 (-2) 0))) := by
  have hP := hv.1
  have q0 := hv.2.1.1.1.1
  refine AM.go [some (aR 209), some (aI h), some (aI o), none, none, none, none, none] rfl (Nat.le_of_ble_eq_true rfl) ?_ (by decide) rfl rfl
  refine a_aloadn dX11_lure_0 rfl ?_
  refine a_iconst dX11_lure_1 ?_
  refine a_putI (j' := 2) dX11_lure_2 flX11_124 rfl rfl (L209 L) (by decide) rfl ⟨by omega, by omega⟩ ?_
  obtain ⟨Mt, hMt⟩ : ∃ Mt, Mt = sm M 209 2 0 := ⟨_, rfl⟩
  rw [← hMt]
  obtain ⟨hvt, hnt, e12, eT⟩ := th_all hv hMt
  refine a_aloadn dX11_lure_5 rfl ?_
  refine a_iloadn dX11_lure_6 rfl ?_
  refine a_iloadn dX11_lure_7 rfl ?_
  refine a_oneV (as := [_, _]) (q := 209) dX11_lure_8 mvX11_413 ⟨by decide, by decide⟩ (L209 L) rfl rfl rfl (Nat.le_of_ble_eq_true rfl) ⟨rfl, rfl⟩ ⟨by decide, by decide⟩ (m_areTwo1 (x := h) (y := o) rh ro) (fun x8 hx8 => ?_)
  refine a_if_ne (tgt := 16) dX11_lure_11 (by decide) ⟨by omega, by omega⟩ (fun hb11 => ?_) (fun hb11 => ?_)
  · refine a_aloadn dX11_lure_16 rfl ?_
    refine a_relVv (as := []) (q := 209) dX11_lure_17 mvX11_424 ⟨by decide, by decide⟩ (L209 L) rfl rfl rfl (Nat.le_of_ble_eq_true rfl) ⟨rfl, rfl⟩ ⟨by decide, by decide⟩ (m_X11_layTried hP) (fun Mb hMb => ?_)
    have hb := hMb.of2 hnt
    have hj := hb.rj hv
    have rd : 0 ≤ Mb 233 h ∧ Mb 233 h ≤ 99 := by have z := hj.2.1.2.1.1.2.2.1.1 h (by omega) (by omega); rwa [show 6 * (0 : Int) + h = h by omega] at z
    have e233 : Mb 233 h = M 233 h := hj.1.1 233 h (by omega)
    refine a_bipush (w := (-2)) dX11_lure_20 (by decide) ?_
    refine c_istoren (ls' := [_, _, _, _, _, _, _, _]) dX11_lure_22 (by decide) rfl rfl ?_
    refine a_iconst dX11_lure_23 ?_
    refine c_istore (ls' := [_, _, _, _, _, _, _, _]) dX11_lure_24 (by decide) rfl rfl ?_
    refine a_iconst dX11_lure_26 ?_
    refine c_istore (ls' := [_, _, _, _, _, _, _, _]) dX11_lure_27 (by decide) rfl rfl ?_
    refine AW.mono2 (lpX11_lure (M0 := M) (Mb := Mb) hP hj.2.2.1.1 hj.1 (h := h) (o := o) ⟨by omega, by omega⟩ rd 200 0 (-2) 0 (Mb 233 (6 + h)) Mb (by omega) (by omega) (by show Es (sm Mb 233 (6 + h) (Mb 233 (6 + h))) Mb; rw [sm_id rfl]; exact Es.rf Mb) (by omega) (by omega)) ?_
    rintro r lay P' M' ⟨h1, h2, x, h3, h4, h5⟩
    exact ⟨h1, h2, x, h3, h4, Or.inr ⟨by omega, Mb, hb, by rw [← e233]; exact h5⟩⟩
  · refine a_iconst dX11_lure_14 ?_
    exact a_ireturn dX11_lure_15 rfl rfl rfl (zany_i ⟨hnt, Or.inl ⟨by omega, rfl⟩⟩)
