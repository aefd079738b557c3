/-- the dials of a code are laid, from the last house on; how many steps -/
def spI : Nat → Int → Int → zM → zM × Int
  | 0, _, st, M => (M, st)
  | k + 1, lf, st, M => spI k (lf.tdiv 10) (st + iabs (11 * lf.tmod 10 - M 233 (k : Int))) (sm M 233 (6 + (k : Int)) (11 * lf.tmod 10))
theorem spI_eq : ∀ (k : Nat) (lf st : Int) (Mx My : zM), k ≤ 6 → (∀ (q : Nat) (i : Int), ¬ (q = 233 ∧ 6 ≤ i ∧ i < 6 + k) → Mx q i = My q i) → spI k lf st Mx = spI k lf st My
  | 0, lf, st, Mx, My, _, h => by
    have e : Mx = My := funext fun q => funext fun i => h q i (by omega)
    rw [e]
  | k + 1, lf, st, Mx, My, hk, h => by
    unfold spI
    rw [h 233 (k : Int) (by omega)]
    refine spI_eq k _ _ _ _ (by omega) (fun q i hq => ?_)
    by_cases e : q = 233
    · subst e
      rw [sm_k, sm_k]
      unfold us
      by_cases e2 : i = 6 + (k : Int)
      · rw [if_pos e2, if_pos e2]
      · rw [if_neg e2, if_neg e2]; exact h 233 i (by omega)
    · rw [sm_n e, sm_n e]; exact h q i (by omega)
theorem spI_fr : ∀ (k : Nat) (lf st : Int) (M : zM) (q : Nat) (i : Int), ¬ (q = 233 ∧ 6 ≤ i ∧ i < 6 + k) → (spI k lf st M).1 q i = M q i
  | 0, lf, st, M, q, i, _ => rfl
  | k + 1, lf, st, M, q, i, h => by
    unfold spI
    rw [spI_fr k _ _ _ q i (by omega)]
    by_cases e : q = 233
    · subst e; rw [sm_k, us_n (by omega)]
    · rw [sm_n e]
theorem dg_in {lf : Int} (h : 0 ≤ lf) : 0 ≤ 11 * lf.tmod 10 ∧ 11 * lf.tmod 10 ≤ 99 := by
  rw [Int.tmod_eq_emod_of_nonneg h]; omega
theorem spI_ri : ∀ (k : Nat) (lf st : Int) (M : zM), k ≤ 6 → 0 ≤ lf → RI M 1 → RI (spI k lf st M).1 1
  | 0, lf, st, M, _, _, h => h
  | k + 1, lf, st, M, hk, hl, h => by
    unfold spI
    refine spI_ri k _ _ _ (by omega) (by rw [Int.tdiv_eq_ediv_of_nonneg hl]; omega) ?_
    exact ((Fb.rf 1 M).sm _ (by omega)).ri h (h.2.2.1.d (dg_in hl))
theorem spI_st : ∀ (k : Nat) (lf st : Int) (M : zM), k ≤ 6 → 0 ≤ lf → (∀ j : Int, 0 ≤ j → j < 6 → 0 ≤ M 233 j ∧ M 233 j ≤ 99) → st ≤ (spI k lf st M).2 ∧ (spI k lf st M).2 ≤ st + 99 * k
  | 0, lf, st, M, _, _, _ => by simp only [spI]; omega
  | k + 1, lf, st, M, hk, hl, h => by
    unfold spI
    have z := spI_st k (lf.tdiv 10) (st + iabs (11 * lf.tmod 10 - M 233 (k : Int))) (sm M 233 (6 + (k : Int)) (11 * lf.tmod 10)) (by omega) (by rw [Int.tdiv_eq_ediv_of_nonneg hl]; omega) (fun j j0 j1 => by rw [sm_k, us_n (by omega)]; exact h j j0 j1)
    have y := iabs_99 (dg_in hl) (h (k : Int) (by omega) (by omega))
    omega
theorem spI_rn {M0 M : zM} (h : Rn M0 M) (k : Nat) (lf st : Int) : Rn M0 (spI k lf st M).1 := ⟨h.1.tr (fun q i hq => spI_fr k lf st M q i (by omega)), by rw [spI_fr k lf st M 209 60 (by omega)]; exact h.2⟩
/-- are all apart -/
def apR (M : zM) (n : Nat) : Int := zall (fun a => zall (fun c => if hrR M 1 a c = 0 then 1 else 0) n 0) n 0
theorem Es.ap {M0 M : zM} (h : Es M0 M) (n : Nat) : apR M n = apR M0 n := by
  unfold apR
  exact zall_cong _ _ (fun a a0 a1 => by rw [zall_cong (f := fun c => if hrR M 1 a c = 0 then 1 else 0) (g := fun c => if hrR M0 1 a c = 0 then 1 else 0) _ _ (fun c c0 c1 => by simp only [h.hrr])])
def spO (Mb : zM) (nn : Nat) : Nat → Int → Int × Int → Int × Int
  | 0, _, p => p
  | n + 1, code, p => spO Mb nn n (code + 1) (if 0 ≤ p.1 ∧ p.2 ≤ (spI nn code 0 Mb).2 then p else if apR (spI nn code 0 Mb).1 nn = 0 then p else (code, (spI nn code 0 Mb).2))
def sdV : Nat → Int → Int
  | 0, b => b
  | n + 1, b => sdV n (b.tdiv 10)
def svP (w : Int) (nn : Int) (p : Int × Int) : Int := if p.1 < 0 then -2 else if w = 4 then p.2 else 11 * (sdV (nn - 1 - w).toNat p.1).tmod 10
theorem svP_e (w nn b l : Int) : svP w nn (b, l) = if b < 0 then -2 else if w = 4 then l else 11 * (sdV (nn - 1 - w).toNat b).tmod 10 := rfl
theorem sdV_in : ∀ (n : Nat) (b : Int), 0 ≤ b → b ≤ 10000 → 0 ≤ sdV n b ∧ sdV n b ≤ 10000
  | 0, b, h0, h1 => ⟨h0, h1⟩
  | n + 1, b, h0, h1 => by
    unfold sdV
    exact sdV_in n _ (by rw [Int.tdiv_eq_ediv_of_nonneg h0]; omega) (by rw [Int.tdiv_eq_ediv_of_nonneg h0]; omega)
def p10 : Nat → Int → Int
  | 0, x => x
  | n + 1, x => p10 n (x * 10)

set_option maxRecDepth 100000 in
set_option maxHeartbeats 4000000 in
theorem lpX11_spread_d {G : zG} {l : Launch} {L : Nat} {P : zP} {w nn al best least code : Int} {Z : zZ} (hP : PFok P) : ∀ (n : Nat) (k lf st : Int) (Mx M : zM) (g0 : k + 1 = n) (g1 : n ≤ 4) (hl : 0 ≤ lf ∧ lf ≤ 10000) (hs : 0 ≤ st ∧ st + 99 * n ≤ 396) (hm : ∀ j : Int, 0 ≤ j → j < 6 → 0 ≤ Mx 233 j ∧ Mx 233 j ≤ 99) (hE : Es Mx M) (kk : ∀ (M' : zM) (s9 : Int), Es (spI n lf st Mx).1 M' → s9 = (spI n lf st Mx).2 → AW G l mdX11_spread Z 160 [some (aR 209), some (aI w), some (aI nn), some (aI al), some (aI best), some (aI least), some (aI code), none, some (aI s9), none, none, none] [] (LAY L) P M' 0 0), AW G l mdX11_spread Z 99 [some (aR 209), some (aI w), some (aI nn), some (aI al), some (aI best), some (aI least), some (aI code), some (aI lf), some (aI st), some (aI k), none, none] [] (LAY L) P M 0 0 := by
  intro n
  induction n with
  | zero =>
    intro k lf st Mx M g0 g1 hl hs hm hE kk
    refine a_iload dX11_spread_99 rfl ?_
    refine a_if_lt (tgt := 160) dX11_spread_101 (by decide) ⟨by omega, by omega⟩ (fun hb101 => ?_) (fun hb101 => ?_)
    · refine a_forget [7, 9] (ls' := [_, _, _, _, _, _, _, none, _, none, none, none]) rfl (kk M st hE rfl)
    · exfalso; omega
  | succ n ih =>
    intro k lf st Mx M g0 g1 hl hs hm hE kk
    refine a_iload dX11_spread_99 rfl ?_
    refine a_if_lt (tgt := 160) dX11_spread_101 (by decide) ⟨by omega, by omega⟩ (fun hb101 => ?_) (fun hb101 => ?_)
    · exfalso; omega
    · have b1 := dg_in hl.1
      have t2 : lf.tdiv 10 = lf / 10 := Int.tdiv_eq_ediv_of_nonneg hl.1
      refine a_aloadn dX11_spread_104 rfl ?_
      refine a_getR (j' := 48) (y := 233) dX11_spread_105 flX11_85 rfl rfl (L209 L) (p209_48 hP) ?_
      refine a_bipush (w := 6) dX11_spread_108 (by decide) ?_
      refine a_iload dX11_spread_110 rfl ?_
      refine a_iadd dX11_spread_112 ?_
      refine a_bipush (w := 11) dX11_spread_113 (by decide) ?_
      refine a_iload dX11_spread_115 rfl ?_
      refine a_bipush (w := 10) dX11_spread_117 (by decide) ?_
      refine a_irem dX11_spread_119 ⟨by omega, by omega⟩ ⟨by omega, by omega⟩ (by omega) (by omega) ?_
      refine a_imul dX11_spread_120 ?_
      refine a_iast (N := 12) dX11_spread_121 (L233 L) (by decide) (by decide) (by omega) (by omega) ⟨by omega, by omega⟩ ?_
      refine a_iload dX11_spread_122 rfl ?_
      refine a_aloadn dX11_spread_124 rfl ?_
      refine a_getR (j' := 48) (y := 233) dX11_spread_125 flX11_85 rfl rfl (L209 L) (p209_48 hP) ?_
      refine a_bipush (w := 6) dX11_spread_128 (by decide) ?_
      refine a_iload dX11_spread_130 rfl ?_
      refine a_iadd dX11_spread_132 ?_
      refine b_iald (N := 12) dX11_spread_133 (L233 L) (by decide) (by omega) (by omega) (fun hr133 => ?_)
      rw [sm_s] at hr133
      rw [sm_s]
      refine a_aloadn dX11_spread_134 rfl ?_
      refine a_getR (j' := 48) (y := 233) dX11_spread_135 flX11_85 rfl rfl (L209 L) (p209_48 hP) ?_
      refine a_iload dX11_spread_138 rfl ?_
      refine b_iald (N := 12) dX11_spread_140 (L233 L) (by decide) (by omega) (by omega) (fun hr140 => ?_)
      have e140 : sm M 233 (6 + k) (11 * lf.tmod 10) 233 k = Mx 233 k := by rw [sm_k, us_n (by omega), hE.row (k := 233) (by decide) (by decide) (by decide)]
      have b0 := hm k (by omega) (by omega)
      have b9 := iabs_99 (dg_in hl.1) b0
      refine a_callS (as := [_, _]) dX11_spread_141 mvX11_355 ⟨by decide, by decide⟩ rfl rfl (Nat.le_of_ble_eq_true rfl) ⟨rfl, rfl⟩ ⟨by decide, by decide⟩ (m_X11_apart ⟨by omega, by omega⟩ (by rw [e140]; exact ⟨by omega, by omega⟩)) ?_
      refine a_iadd dX11_spread_144 ?_
      refine c_istore (ls' := [_, _, _, _, _, _, _, _, _, _, _, _]) dX11_spread_145 (by decide) rfl rfl ?_
      refine a_iload dX11_spread_147 rfl ?_
      refine a_bipush (w := 10) dX11_spread_149 (by decide) ?_
      refine a_idiv dX11_spread_151 ⟨by omega, by omega⟩ ⟨by omega, by omega⟩ (by omega) (by omega) ?_
      refine c_istore (ls' := [_, _, _, _, _, _, _, _, _, _, _, _]) dX11_spread_152 (by decide) rfl rfl ?_
      refine c_iinc (ls' := [_, _, _, _, _, _, _, _, _, _, _, _]) dX11_spread_154 rfl (by decide) rfl rfl ?_
      refine a_goto (tgt := 99) dX11_spread_157 (by decide) ?_
      simp only [spI] at kk
      have ei : k = (n : Int) := by omega
      subst ei
      rw [e140]
      exact ih _ _ _ _ _ (by omega) (by omega) ⟨by rw [t2]; omega, by rw [t2]; omega⟩ (by omega) (fun j j0 j1 => by rw [sm_k, us_n (by omega)]; exact hm j j0 j1) (hE.sm2 _ _ _) kk

set_option maxRecDepth 100000 in
set_option maxHeartbeats 4000000 in
theorem lpX11_spread_c {G : zG} {l : Launch} {L : Nat} {P : zP} {M0 : zM} {w nn al best least code st a : Int} {Z : zZ} (hP : PFok P) (hi : RI M0 1) (rn : 0 ≤ nn ∧ nn ≤ 4) (ra : 0 ≤ a ∧ a < 6) : ∀ (n : Nat) (c is : Int) (M : zM) (g0 : 0 ≤ c) (g1 : c + n = nn) (gi : is = 0 ∨ is = 1) (hE : Es M0 M) (kk : ∀ M' : zM, Es M0 M' → AW G l mdX11_spread Z 231 [some (aR 209), some (aI w), some (aI nn), some (aI al), some (aI best), some (aI least), some (aI code), none, some (aI st), some (aI (if is = 0 then 0 else zall (fun c => if hrR M0 1 a c = 0 then 1 else 0) n c)), some (aI a), none] [] (LAY L) P M' 0 0), AW G l mdX11_spread Z 195 [some (aR 209), some (aI w), some (aI nn), some (aI al), some (aI best), some (aI least), some (aI code), none, some (aI st), some (aI is), some (aI a), some (aI c)] [] (LAY L) P M 0 0 := by
  intro n
  induction n with
  | zero =>
    intro c is M g0 g1 gi hE kk
    refine a_iload dX11_spread_195 rfl ?_
    refine a_iloadn dX11_spread_197 rfl ?_
    refine a_icmp_ge (tgt := 231) dX11_spread_198 (by decide) ⟨by omega, by omega⟩ ⟨by omega, by omega⟩ (fun hb198 => ?_) (fun hb198 => ?_)
    · refine a_forget [11] (ls' := [_, _, _, _, _, _, _, none, _, _, _, none]) rfl ?_
      have z := kk M hE
      rw [show (if is = 0 then (0 : Int) else zall (fun c => if hrR M0 1 a c = 0 then 1 else 0) 0 c) = is from by rcases gi with g | g <;> subst g <;> rfl] at z
      exact z
    · exfalso; omega
  | succ n ih =>
    intro c is M g0 g1 gi hE kk
    refine a_iload dX11_spread_195 rfl ?_
    refine a_iloadn dX11_spread_197 rfl ?_
    refine a_icmp_ge (tgt := 231) dX11_spread_198 (by decide) ⟨by omega, by omega⟩ ⟨by omega, by omega⟩ (fun hb198 => ?_) (fun hb198 => ?_)
    · exfalso; omega
    · refine a_iload dX11_spread_201 rfl ?_
      refine a_if_eq (tgt := 231) dX11_spread_203 (by decide) (by rcases gi with z | z <;> exact ⟨by omega, by omega⟩) (fun hb203 => ?_) (fun hb203 => ?_)
      · refine a_forget [11] (ls' := [_, _, _, _, _, _, _, none, _, _, _, none]) rfl ?_
        have z := kk M hE
        rw [if_pos (show is = 0 by omega)] at z
        rw [show is = 0 by omega]
        exact z
      · refine a_aloadn dX11_spread_206 rfl ?_
        refine a_iconst dX11_spread_207 ?_
        refine a_iload dX11_spread_208 rfl ?_
        refine a_iload dX11_spread_210 rfl ?_
        refine a_anyV (as := [_, _, _]) (q := 209) dX11_spread_212 mvX11_387 ⟨by decide, by decide⟩ (L209 L) rfl rfl rfl (Nat.le_of_ble_eq_true rfl) ⟨rfl, rfl⟩ ⟨by decide, by decide⟩ (m_X11_hears hP (Or.inr rfl) (hE.ri hi) (by omega) (by omega) (by omega) (by omega)) (fun x9 M1 hM1 => ?_)
        have ex9 : x9 = hrR M0 1 a c := by rw [hM1.2, hE.hrr]
        have z9 : x9 = 0 ∨ x9 = 1 := by rw [ex9]; exact hrR01 _ _ _ _
        refine a_if_ne (tgt := 222) dX11_spread_215 (by decide) (by rcases z9 with z | z <;> exact ⟨by omega, by omega⟩) (fun hb215 => ?_) (fun hb215 => ?_)
        · refine a_iconst dX11_spread_222 ?_
          refine c_istore (ls' := [_, _, _, _, _, _, _, _, _, _, _, _]) dX11_spread_223 (by decide) rfl rfl ?_
          refine c_iinc (ls' := [_, _, _, _, _, _, _, _, _, _, _, _]) dX11_spread_225 rfl (by decide) rfl rfl ?_
          refine a_goto (tgt := 195) dX11_spread_228 (by decide) ?_
          rw [if_neg (by omega)] at kk
          simp only [zall] at kk
          first
          | (rw [if_pos (by rw [if_neg (by omega)])] at kk
             exact ih _ 0 M1 (by omega) (by omega) (Or.inl rfl) (hE.tr hM1.1) (fun M' h' => by rw [if_pos rfl]; exact kk M' h'))
          | (rw [if_neg (by rw [if_pos (by omega)]; decide)] at kk
             exact ih _ 1 M1 (by omega) (by omega) (Or.inr rfl) (hE.tr hM1.1) (fun M' h' => by rw [if_neg (by decide)]; exact kk M' h'))
        · refine a_iconst dX11_spread_218 ?_
          refine a_goto (tgt := 223) dX11_spread_219 (by decide) ?_
          refine c_istore (ls' := [_, _, _, _, _, _, _, _, _, _, _, _]) dX11_spread_223 (by decide) rfl rfl ?_
          refine c_iinc (ls' := [_, _, _, _, _, _, _, _, _, _, _, _]) dX11_spread_225 rfl (by decide) rfl rfl ?_
          refine a_goto (tgt := 195) dX11_spread_228 (by decide) ?_
          rw [if_neg (by omega)] at kk
          simp only [zall] at kk
          first
          | (rw [if_pos (by rw [if_neg (by omega)])] at kk
             exact ih _ 0 M1 (by omega) (by omega) (Or.inl rfl) (hE.tr hM1.1) (fun M' h' => by rw [if_pos rfl]; exact kk M' h'))
          | (rw [if_neg (by rw [if_pos (by omega)]; decide)] at kk
             exact ih _ 1 M1 (by omega) (by omega) (Or.inr rfl) (hE.tr hM1.1) (fun M' h' => by rw [if_neg (by decide)]; exact kk M' h'))

set_option maxRecDepth 100000 in
set_option maxHeartbeats 4000000 in
theorem lpX11_spread_a {G : zG} {l : Launch} {L : Nat} {P : zP} {M0 : zM} {w nn al best least code st : Int} {Z : zZ} (hP : PFok P) (hi : RI M0 1) (rn : 0 ≤ nn ∧ nn ≤ 4) : ∀ (n : Nat) (a is : Int) (M : zM) (g0 : 0 ≤ a) (g1 : a + n = nn) (gi : is = 0 ∨ is = 1) (hE : Es M0 M) (kk : ∀ M' : zM, Es M0 M' → AW G l mdX11_spread Z 237 [some (aR 209), some (aI w), some (aI nn), some (aI al), some (aI best), some (aI least), some (aI code), none, some (aI st), some (aI (if is = 0 then 0 else zall (fun a => zall (fun c => if hrR M0 1 a c = 0 then 1 else 0) nn.toNat 0) n a)), none, none] [] (LAY L) P M' 0 0), AW G l mdX11_spread Z 181 [some (aR 209), some (aI w), some (aI nn), some (aI al), some (aI best), some (aI least), some (aI code), none, some (aI st), some (aI is), some (aI a), none] [] (LAY L) P M 0 0 := by
  intro n
  induction n with
  | zero =>
    intro a is M g0 g1 gi hE kk
    refine a_iload dX11_spread_181 rfl ?_
    refine a_iloadn dX11_spread_183 rfl ?_
    refine a_icmp_ge (tgt := 237) dX11_spread_184 (by decide) ⟨by omega, by omega⟩ ⟨by omega, by omega⟩ (fun hb184 => ?_) (fun hb184 => ?_)
    · refine a_forget [10] (ls' := [_, _, _, _, _, _, _, none, _, _, none, none]) rfl ?_
      have z := kk M hE
      rw [show (if is = 0 then (0 : Int) else zall (fun a => zall (fun c => if hrR M0 1 a c = 0 then 1 else 0) nn.toNat 0) 0 a) = is from by rcases gi with g | g <;> subst g <;> rfl] at z
      exact z
    · exfalso; omega
  | succ n ih =>
    intro a is M g0 g1 gi hE kk
    refine a_iload dX11_spread_181 rfl ?_
    refine a_iloadn dX11_spread_183 rfl ?_
    refine a_icmp_ge (tgt := 237) dX11_spread_184 (by decide) ⟨by omega, by omega⟩ ⟨by omega, by omega⟩ (fun hb184 => ?_) (fun hb184 => ?_)
    · exfalso; omega
    · refine a_iload dX11_spread_187 rfl ?_
      refine a_if_eq (tgt := 237) dX11_spread_189 (by decide) (by rcases gi with z | z <;> exact ⟨by omega, by omega⟩) (fun hb189 => ?_) (fun hb189 => ?_)
      · refine a_forget [10] (ls' := [_, _, _, _, _, _, _, none, _, _, none, none]) rfl ?_
        have z := kk M hE
        rw [if_pos (show is = 0 by omega)] at z
        rw [show is = 0 by omega]
        exact z
      · refine a_iconst dX11_spread_192 ?_
        refine c_istore (ls' := [_, _, _, _, _, _, _, _, _, _, _, _]) dX11_spread_193 (by decide) rfl rfl ?_
        rw [if_neg (by omega)] at kk
        simp only [zall] at kk
        refine lpX11_spread_c hP hi rn ⟨by omega, by omega⟩ nn.toNat 0 is M (by omega) (by omega) gi hE (fun M' hE' => ?_)
        rw [if_neg (by omega)]
        refine c_iinc (ls' := [_, _, _, _, _, _, _, _, _, _, _, _]) dX11_spread_231 rfl (by decide) rfl rfl ?_
        refine a_goto (tgt := 181) dX11_spread_234 (by decide) ?_
        have z01 := zall01 (fun c => if hrR M0 1 a c = 0 then 1 else 0) nn.toNat 0
        refine ih _ _ M' (by omega) (by omega) z01 hE' (fun M2 h2 => ?_)
        have z := kk M2 h2
        rcases z01 with z0 | z0
        · rw [if_pos z0] at z ⊢; exact z
        · rw [if_neg (by omega)] at z ⊢; exact z

set_option maxRecDepth 100000 in
set_option maxHeartbeats 4000000 in
theorem tl1_spread {G : zG} {l : Launch} {L : Nat} {P : zP} {M0 M : zM} {w nn al best least code st : Int} {Z : zZ} (hP : PFok P) (hi : RI M0 1) (rn : 0 ≤ nn ∧ nn ≤ 4) (gb : -1 ≤ best ∧ best ≤ 10000) (gl : 0 ≤ least ∧ least ≤ 396) (gs : 0 ≤ st ∧ st ≤ 396) (hE : Es M0 M) (k1 : (0 ≤ best ∧ least ≤ st) ∨ apR M0 nn.toNat = 0 → ∀ M' : zM, Es M0 M' → AW G l mdX11_spread Z 253 [some (aR 209), some (aI w), some (aI nn), some (aI al), some (aI best), some (aI least), some (aI code), none, none, none, none, none] [] (LAY L) P M' 0 0) (k2 : ¬ (0 ≤ best ∧ least ≤ st) → apR M0 nn.toNat ≠ 0 → ∀ M' : zM, Es M0 M' → AW G l mdX11_spread Z 253 [some (aR 209), some (aI w), some (aI nn), some (aI al), some (aI code), some (aI st), some (aI code), none, none, none, none, none] [] (LAY L) P M' 0 0) : AW G l mdX11_spread Z 160 [some (aR 209), some (aI w), some (aI nn), some (aI al), some (aI best), some (aI least), some (aI code), none, some (aI st), none, none, none] [] (LAY L) P M 0 0 := by
  refine a_iload dX11_spread_160 rfl ?_
  refine a_if_lt (tgt := 175) dX11_spread_162 (by decide) ⟨by omega, by omega⟩ (fun hb162 => ?_) (fun hb162 => ?_)
  · refine a_iconst dX11_spread_175 ?_
    refine c_istore (ls' := [_, _, _, _, _, _, _, _, _, _, _, _]) dX11_spread_176 (by decide) rfl rfl ?_
    refine a_iconst dX11_spread_178 ?_
    refine c_istore (ls' := [_, _, _, _, _, _, _, _, _, _, _, _]) dX11_spread_179 (by decide) rfl rfl ?_
    refine lpX11_spread_a hP hi rn nn.toNat 0 1 M (by omega) (by omega) (Or.inr rfl) hE (fun M' hE' => ?_)
    rw [if_neg (by decide)]
    obtain ⟨v, ev⟩ : ∃ v, v = zall (fun a => zall (fun c => if hrR M0 1 a c = 0 then 1 else 0) nn.toNat 0) nn.toNat 0 := ⟨_, rfl⟩
    have z01 := zall01 (fun a => zall (fun c => if hrR M0 1 a c = 0 then 1 else 0) nn.toNat 0) nn.toNat 0
    rw [← ev] at z01 ⊢
    have er : apR M0 nn.toNat = v := ev.symm
    refine a_iload dX11_spread_237 rfl ?_
    refine a_if_ne (tgt := 245) dX11_spread_239 (by decide) (by rcases z01 with z | z <;> exact ⟨by omega, by omega⟩) (fun hb239 => ?_) (fun hb239 => ?_)
    · refine a_iload dX11_spread_245 rfl ?_
      refine c_istore (ls' := [_, _, _, _, _, _, _, _, _, _, _, _]) dX11_spread_247 (by decide) rfl rfl ?_
      refine a_iload dX11_spread_249 rfl ?_
      refine c_istore (ls' := [_, _, _, _, _, _, _, _, _, _, _, _]) dX11_spread_251 (by decide) rfl rfl ?_
      refine a_forget [8, 9] (ls' := [_, _, _, _, _, _, _, none, none, none, none, none]) rfl ?_
      exact k2 (by omega) (by omega) M' hE'
    · refine a_goto (tgt := 253) dX11_spread_242 (by decide) ?_
      refine a_forget [8, 9] (ls' := [_, _, _, _, _, _, _, none, none, none, none, none]) rfl ?_
      exact k1 (Or.inr (by omega)) M' hE'
    
  · refine a_iload dX11_spread_165 rfl ?_
    refine a_iload dX11_spread_167 rfl ?_
    refine a_icmp_lt (tgt := 175) dX11_spread_169 (by decide) ⟨by omega, by omega⟩ ⟨by omega, by omega⟩ (fun hb169 => ?_) (fun hb169 => ?_)
    · refine a_iconst dX11_spread_175 ?_
      refine c_istore (ls' := [_, _, _, _, _, _, _, _, _, _, _, _]) dX11_spread_176 (by decide) rfl rfl ?_
      refine a_iconst dX11_spread_178 ?_
      refine c_istore (ls' := [_, _, _, _, _, _, _, _, _, _, _, _]) dX11_spread_179 (by decide) rfl rfl ?_
      refine lpX11_spread_a hP hi rn nn.toNat 0 1 M (by omega) (by omega) (Or.inr rfl) hE (fun M' hE' => ?_)
      rw [if_neg (by decide)]
      obtain ⟨v, ev⟩ : ∃ v, v = zall (fun a => zall (fun c => if hrR M0 1 a c = 0 then 1 else 0) nn.toNat 0) nn.toNat 0 := ⟨_, rfl⟩
      have z01 := zall01 (fun a => zall (fun c => if hrR M0 1 a c = 0 then 1 else 0) nn.toNat 0) nn.toNat 0
      rw [← ev] at z01 ⊢
      have er : apR M0 nn.toNat = v := ev.symm
      refine a_iload dX11_spread_237 rfl ?_
      refine a_if_ne (tgt := 245) dX11_spread_239 (by decide) (by rcases z01 with z | z <;> exact ⟨by omega, by omega⟩) (fun hb239 => ?_) (fun hb239 => ?_)
      · refine a_iload dX11_spread_245 rfl ?_
        refine c_istore (ls' := [_, _, _, _, _, _, _, _, _, _, _, _]) dX11_spread_247 (by decide) rfl rfl ?_
        refine a_iload dX11_spread_249 rfl ?_
        refine c_istore (ls' := [_, _, _, _, _, _, _, _, _, _, _, _]) dX11_spread_251 (by decide) rfl rfl ?_
        refine a_forget [8, 9] (ls' := [_, _, _, _, _, _, _, none, none, none, none, none]) rfl ?_
        exact k2 (by omega) (by omega) M' hE'
      · refine a_goto (tgt := 253) dX11_spread_242 (by decide) ?_
        refine a_forget [8, 9] (ls' := [_, _, _, _, _, _, _, none, none, none, none, none]) rfl ?_
        exact k1 (Or.inr (by omega)) M' hE'
      
    · refine a_goto (tgt := 253) dX11_spread_172 (by decide) ?_
      refine a_forget [8] (ls' := [_, _, _, _, _, _, _, none, none, none, none, none]) rfl (k1 (Or.inl (by omega)) M hE)


set_option maxRecDepth 100000 in
set_option maxHeartbeats 4000000 in
theorem lpX11_spread {G : zG} {l : Launch} {L : Nat} {P : zP} {M0 Mb : zM} {w nn al : Int} {Z : zZ} (hP : PFok P) (hi : RI Mb 1) (hm : ∀ j : Int, 0 ≤ j → j < 6 → 0 ≤ Mb 233 j ∧ Mb 233 j ≤ 99) (hq : Rn M0 Mb) (rn : 0 ≤ nn ∧ nn ≤ 4) (ra : 0 ≤ al ∧ al ≤ 10000) : ∀ (n : Nat) (code best least : Int) (Mx M : zM) (g0 : 0 ≤ code) (g1 : code + n = al) (gb : -1 ≤ best ∧ best ≤ 10000) (gl : 0 ≤ least ∧ least ≤ 396) (hx : ∀ (q : Nat) (i : Int), ¬ (q = 233 ∧ 6 ≤ i ∧ i < 6 + nn) → Mx q i = Mb q i) (hE : Es Mx M) (kk : ∀ (M' : zM) (b9 l9 : Int), spO Mb nn.toNat n code (best, least) = (b9, l9) → (-1 ≤ b9 ∧ b9 ≤ 10000) → (0 ≤ l9 ∧ l9 ≤ 396) → Rn M0 M' → AW G l mdX11_spread Z 259 [some (aR 209), some (aI w), some (aI nn), some (aI al), some (aI b9), some (aI l9), none, none, none, none, none, none] [] (LAY L) P M' 0 0), AW G l mdX11_spread Z 81 [some (aR 209), some (aI w), some (aI nn), some (aI al), some (aI best), some (aI least), some (aI code), none, none, none, none, none] [] (LAY L) P M 0 0 := by
  intro n
  induction n with
  | zero =>
    intro code best least Mx M g0 g1 gb gl hx hE kk
    refine a_iload dX11_spread_81 rfl ?_
    refine a_iloadn dX11_spread_83 rfl ?_
    refine a_icmp_ge (tgt := 259) dX11_spread_84 (by decide) ⟨by omega, by omega⟩ ⟨by omega, by omega⟩ (fun hb84 => ?_) (fun hb84 => ?_)
    · have hqx : Rn M0 Mx := ⟨fun q i hqi => (hx q i (by omega)).trans (hq.1 q i hqi), by rw [hx 209 60 (by omega)]; exact hq.2⟩
      refine a_forget [6] (ls' := [_, _, _, _, _, _, none, none, none, none, none, none]) rfl (kk M best least rfl gb gl (hqx.es hE))
    · exfalso; omega
  | succ n ih =>
    intro code best least Mx M g0 g1 gb gl hx hE kk
    refine a_iload dX11_spread_81 rfl ?_
    refine a_iloadn dX11_spread_83 rfl ?_
    refine a_icmp_ge (tgt := 259) dX11_spread_84 (by decide) ⟨by omega, by omega⟩ ⟨by omega, by omega⟩ (fun hb84 => ?_) (fun hb84 => ?_)
    · exfalso; omega
    · refine a_iload dX11_spread_87 rfl ?_
      refine c_istore (ls' := [_, _, _, _, _, _, _, _, _, _, _, _]) dX11_spread_89 (by decide) rfl rfl ?_
      refine a_iconst dX11_spread_91 ?_
      refine c_istore (ls' := [_, _, _, _, _, _, _, _, _, _, _, _]) dX11_spread_92 (by decide) rfl rfl ?_
      refine a_iloadn dX11_spread_94 rfl ?_
      refine a_iconst dX11_spread_95 ?_
      refine a_isub dX11_spread_96 ?_
      refine c_istore (ls' := [_, _, _, _, _, _, _, _, _, _, _, _]) dX11_spread_97 (by decide) rfl rfl ?_
      have hmx : ∀ j : Int, 0 ≤ j → j < 6 → 0 ≤ Mx 233 j ∧ Mx 233 j ≤ 99 := fun j j0 j1 => by rw [hx 233 j (by omega)]; exact hm j j0 j1
      have es : spI nn.toNat code 0 Mx = spI nn.toNat code 0 Mb := spI_eq nn.toNat code 0 Mx Mb (by omega) (fun q i hqi => hx q i (by omega))
      refine lpX11_spread_d hP nn.toNat _ _ _ Mx M (by omega) (by omega) ⟨by omega, by omega⟩ (by omega) hmx hE (fun M' s9 hE' e9 => ?_)
      rw [es] at hE' e9
      have hri := spI_ri nn.toNat code 0 Mb (by omega) g0 hi
      have hst := spI_st nn.toNat code 0 Mb (by omega) g0 hm
      rw [← e9] at hst
      have hx2 : ∀ (q : Nat) (i : Int), ¬ (q = 233 ∧ 6 ≤ i ∧ i < 6 + nn) → (spI nn.toNat code 0 Mb).1 q i = Mb q i := fun q i hqi => spI_fr _ _ _ _ q i (by omega)
      simp only [spO] at kk
      rw [← e9] at kk
      refine tl1_spread hP hri rn gb gl ⟨by omega, by omega⟩ hE' (fun c M2 h2 => ?_) (fun c1 c2 M2 h2 => ?_)
      · refine c_iinc (ls' := [_, _, _, _, _, _, _, _, _, _, _, _]) dX11_spread_253 rfl (by decide) rfl rfl ?_
        refine a_goto (tgt := 81) dX11_spread_256 (by decide) ?_
        rcases c with c | c
        · rw [if_pos c] at kk
          exact ih _ _ _ _ M2 (by omega) (by omega) gb gl hx2 h2 kk
        · by_cases c0 : 0 ≤ best ∧ least ≤ s9
          · rw [if_pos c0] at kk
            exact ih _ _ _ _ M2 (by omega) (by omega) gb gl hx2 h2 kk
          · rw [if_neg c0, if_pos c] at kk
            exact ih _ _ _ _ M2 (by omega) (by omega) gb gl hx2 h2 kk
      · refine c_iinc (ls' := [_, _, _, _, _, _, _, _, _, _, _, _]) dX11_spread_253 rfl (by decide) rfl rfl ?_
        refine a_goto (tgt := 81) dX11_spread_256 (by decide) ?_
        rw [if_neg c1, if_neg c2] at kk
        exact ih _ _ _ _ M2 (by omega) (by omega) (by omega) (by omega) hx2 h2 kk

set_option maxRecDepth 100000 in
set_option maxHeartbeats 4000000 in
theorem lpX11_spread_e {G : zG} {l : Launch} {L : Nat} {P : zP} {M : zM} {w nn al least : Int} (hP : PFok P) (rw9 : 0 ≤ w ∧ w ≤ 3) : ∀ (n : Nat) (k best : Int) (g0 : w ≤ k) (g1 : k = w + n) (g2 : k ≤ 4) (gb : 0 ≤ best ∧ best ≤ 10000), AW G l mdX11_spread (zone (LAY L) P M (fun r => r = 11 * (sdV n best).tmod 10)) 280 [some (aR 209), some (aI w), some (aI nn), some (aI al), some (aI best), some (aI least), some (aI k), none, none, none, none, none] [] (LAY L) P M 0 0 := by
  intro n
  induction n with
  | zero =>
    intro k best g0 g1 g2 gb
    have t2 : best.tdiv 10 = best / 10 := Int.tdiv_eq_ediv_of_nonneg gb.1
    refine a_iload dX11_spread_280 rfl ?_
    refine a_iloadn dX11_spread_282 rfl ?_
    refine a_icmp_le (tgt := 299) dX11_spread_283 (by decide) ⟨by omega, by omega⟩ ⟨by omega, by omega⟩ (fun hb283 => ?_) (fun hb283 => ?_)
    · refine a_bipush (w := 11) dX11_spread_299 (by decide) ?_
      refine a_iload dX11_spread_301 rfl ?_
      refine a_bipush (w := 10) dX11_spread_303 (by decide) ?_
      refine a_irem dX11_spread_305 ⟨by omega, by omega⟩ ⟨by omega, by omega⟩ (by omega) (by omega) ?_
      refine a_imul dX11_spread_306 ?_
      exact a_ireturn dX11_spread_307 rfl rfl rfl (zone_i rfl)
    · exfalso; omega
  | succ n ih =>
    intro k best g0 g1 g2 gb
    have t2 : best.tdiv 10 = best / 10 := Int.tdiv_eq_ediv_of_nonneg gb.1
    refine a_iload dX11_spread_280 rfl ?_
    refine a_iloadn dX11_spread_282 rfl ?_
    refine a_icmp_le (tgt := 299) dX11_spread_283 (by decide) ⟨by omega, by omega⟩ ⟨by omega, by omega⟩ (fun hb283 => ?_) (fun hb283 => ?_)
    · exfalso; omega
    · refine a_iload dX11_spread_286 rfl ?_
      refine a_bipush (w := 10) dX11_spread_288 (by decide) ?_
      refine a_idiv dX11_spread_290 ⟨by omega, by omega⟩ ⟨by omega, by omega⟩ (by omega) (by omega) ?_
      refine c_istore (ls' := [_, _, _, _, _, _, _, _, _, _, _, _]) dX11_spread_291 (by decide) rfl rfl ?_
      refine c_iinc (ls' := [_, _, _, _, _, _, _, _, _, _, _, _]) dX11_spread_293 rfl (by decide) rfl rfl ?_
      refine a_goto (tgt := 280) dX11_spread_296 (by decide) ?_
      simp only [sdV]
      exact ih _ _ (by omega) (by omega) (by omega) ⟨by rw [t2]; omega, by rw [t2]; omega⟩

set_option maxRecDepth 100000 in
set_option maxHeartbeats 4000000 in
theorem tl2_spread {G : zG} {l : Launch} {L : Nat} {P : zP} {M : zM} {w nn al best least : Int} (hP : PFok P) (rw9 : 0 ≤ w ∧ w ≤ 4) (rn : 0 ≤ nn ∧ nn ≤ 4) (hw : w = 4 ∨ w < nn) (gb : -1 ≤ best ∧ best ≤ 10000) (gl : 0 ≤ least ∧ least ≤ 396) : AW G l mdX11_spread (zone (LAY L) P M (fun r => r = svP w nn (best, least))) 259 [some (aR 209), some (aI w), some (aI nn), some (aI al), some (aI best), some (aI least), none, none, none, none, none, none] [] (LAY L) P M 0 0 := by
  refine a_iload dX11_spread_259 rfl ?_
  refine a_if_ge (tgt := 267) dX11_spread_261 (by decide) ⟨by omega, by omega⟩ (fun hb261 => ?_) (fun hb261 => ?_)
  · refine a_iloadn dX11_spread_267 rfl ?_
    refine a_iconst dX11_spread_268 ?_
    refine a_icmp_ne (tgt := 275) dX11_spread_269 (by decide) ⟨by omega, by omega⟩ ⟨by omega, by omega⟩ (fun hb269 => ?_) (fun hb269 => ?_)
    · refine a_iloadn dX11_spread_275 rfl ?_
      refine a_iconst dX11_spread_276 ?_
      refine a_isub dX11_spread_277 ?_
      refine c_istore (ls' := [_, _, _, _, _, _, _, _, _, _, _, _]) dX11_spread_278 (by decide) rfl rfl ?_
      refine AW.mono2 (lpX11_spread_e hP (w := w) (by omega) (nn - 1 - w).toNat (nn - 1) best (by omega) (by omega) (by omega) (by omega)) ?_
      rintro r lay P' M' ⟨z1, z2, rfl, x, z3, z4⟩
      exact ⟨z1, z2, rfl, x, z3, by rw [svP_e, if_neg (by omega), if_neg (by omega)]; exact z4⟩
    · refine a_iload dX11_spread_272 rfl ?_
      exact a_ireturn dX11_spread_274 rfl rfl rfl (zone_i (by rw [svP_e, if_neg (by omega), if_pos (by omega)]))
  · refine a_bipush (w := (-2)) dX11_spread_264 (by decide) ?_
    exact a_ireturn dX11_spread_266 rfl rfl rfl (zone_i (by rw [svP_e, if_pos (by omega)]))

set_option maxRecDepth 100000 in
set_option maxHeartbeats 4000000 in
theorem lpX11_spread_p {G : zG} {l : Launch} {L : Nat} {P : zP} {M : zM} {w nn : Int} {Z : zZ} (hP : PFok P) (rn : 0 ≤ nn ∧ nn ≤ 4) : ∀ (n : Nat) (k x : Int) (g0 : 0 ≤ k) (g1 : k + n = nn) (kk : AW G l mdX11_spread Z 72 [some (aR 209), some (aI w), some (aI nn), some (aI (p10 n x)), none, none, none, none, none, none, none, none] [] (LAY L) P M 0 0), AW G l mdX11_spread Z 55 [some (aR 209), some (aI w), some (aI nn), some (aI x), some (aI k), none, none, none, none, none, none, none] [] (LAY L) P M 0 0 := by
  intro n
  induction n with
  | zero =>
    intro k x g0 g1 kk
    refine a_iload dX11_spread_55 rfl ?_
    refine a_iloadn dX11_spread_57 rfl ?_
    refine a_icmp_ge (tgt := 72) dX11_spread_58 (by decide) ⟨by omega, by omega⟩ ⟨by omega, by omega⟩ (fun hb58 => ?_) (fun hb58 => ?_)
    · refine a_forget [4] (ls' := [_, _, _, _, none, none, none, none, none, none, none, none]) rfl kk
    · exfalso; omega
  | succ n ih =>
    intro k x g0 g1 kk
    refine a_iload dX11_spread_55 rfl ?_
    refine a_iloadn dX11_spread_57 rfl ?_
    refine a_icmp_ge (tgt := 72) dX11_spread_58 (by decide) ⟨by omega, by omega⟩ ⟨by omega, by omega⟩ (fun hb58 => ?_) (fun hb58 => ?_)
    · exfalso; omega
    · refine a_iloadn dX11_spread_61 rfl ?_
      refine a_bipush (w := 10) dX11_spread_62 (by decide) ?_
      refine a_imul dX11_spread_64 ?_
      refine c_istoren (ls' := [_, _, _, _, _, _, _, _, _, _, _, _]) dX11_spread_65 (by decide) rfl rfl ?_
      refine c_iinc (ls' := [_, _, _, _, _, _, _, _, _, _, _, _]) dX11_spread_66 rfl (by decide) rfl rfl ?_
      refine a_goto (tgt := 55) dX11_spread_69 (by decide) ?_
      simp only [p10] at kk
      exact ih _ _ (by omega) (by omega) kk

set_option maxRecDepth 100000 in
set_option maxHeartbeats 4000000 in
theorem tl3_spread {G : zG} {l : Launch} {L : Nat} {P : zP} {M0 Mb : zM} {w nn al : Int} (hv : RV P M0) (hj : RI Mb 1) (hq : Rn M0 Mb) (rw9 : 0 ≤ w ∧ w ≤ 4) (rn : 0 ≤ nn ∧ nn ≤ 4) (hw : w = 4 ∨ w < nn) (ra : 0 ≤ al ∧ al ≤ 10000) : AW G l mdX11_spread (zany (LAY L) P (fun r M' => Rn M0 M' ∧ r = svP w nn (spO Mb nn.toNat al.toNat 0 (-1, 0)))) 72 [some (aR 209), some (aI w), some (aI nn), some (aI al), none, none, none, none, none, none, none, none] [] (LAY L) P Mb 0 0 := by
  refine a_iconst dX11_spread_72 ?_
  refine c_istore (ls' := [_, _, _, _, _, _, _, _, _, _, _, _]) dX11_spread_73 (by decide) rfl rfl ?_
  refine a_iconst dX11_spread_75 ?_
  refine c_istore (ls' := [_, _, _, _, _, _, _, _, _, _, _, _]) dX11_spread_76 (by decide) rfl rfl ?_
  refine a_iconst dX11_spread_78 ?_
  refine c_istore (ls' := [_, _, _, _, _, _, _, _, _, _, _, _]) dX11_spread_79 (by decide) rfl rfl ?_
  have hP := hv.1
  have hvb := hq.rv hv
  have hm : ∀ j : Int, 0 ≤ j → j < 6 → 0 ≤ Mb 233 j ∧ Mb 233 j ≤ 99 := fun j j0 j1 => by have z := hvb.2.1.1.2.2.1.1 j j0 j1; rwa [show 6 * (0 : Int) + j = j by omega] at z
  refine lpX11_spread hP hj hm hq rn ra al.toNat 0 (-1) 0 Mb Mb (by omega) (by omega) (by omega) (by omega) (fun _ _ _ => rfl) (Es.rf Mb) (fun M' b9 l9 e1 e2 e3 hq2 => ?_)
  refine AW.mono2 (tl2_spread hP rw9 rn hw e2 e3) ?_
  rintro r lay P' M9 ⟨z1, z2, rfl, x, z3, z4⟩
  exact ⟨z1, z2, x, z3, hq2, by rw [e1]; exact z4⟩

def n4R (M : zM) : Int := if M 209 12 < 4 then M 209 12 else 4

set_option maxRecDepth 100000 in
set_option maxHeartbeats 4000000 in
theorem tl4_spread {G : zG} {l : Launch} {L : Nat} {P : zP} {M Mt : zM} {w nn : Int} (hv : RV P M) (hnt : Rn M Mt) (en : nn = n4R M) (rw9 : 0 ≤ w ∧ w ≤ 4) : AW G l mdX11_spread (zany (LAY L) P (fun r M' => Rn M M' ∧ ((w < 4 ∧ M 209 12 ≤ w) ∧ r = -2 ∨ ¬ (w < 4 ∧ M 209 12 ≤ w) ∧ ∃ Mb, LtR M Mb ∧ r = svP w (n4R M) (spO Mb (n4R M).toNat (p10 (n4R M).toNat 1).toNat 0 (-1, 0))))) 33 [some (aR 209), some (aI w), some (aI nn), none, none, none, none, none, none, none, none, none] [] (LAY L) P Mt 0 0 := by
  have hP := hv.1
  have q0 := hv.2.1.1.1.1
  have qn : (nn = M 209 12 ∧ M 209 12 < 4) ∨ (nn = 4 ∧ 4 ≤ M 209 12) := by rw [en]; unfold n4R; split <;> omega
  refine a_iloadn dX11_spread_33 rfl ?_
  refine a_iconst dX11_spread_34 ?_
  refine a_icmp_ge (tgt := 46) dX11_spread_35 (by decide) ⟨by omega, by omega⟩ ⟨by omega, by omega⟩ (fun hb35 => ?_) (fun hb35 => ?_)
  · refine a_aloadn dX11_spread_46 rfl ?_
    refine a_relVv (as := []) (q := 209) dX11_spread_47 mvX11_424 ⟨by decide, by decide⟩ (L209 L) rfl rfl rfl (Nat.le_of_ble_eq_true rfl) ⟨rfl, rfl⟩ ⟨by decide, by decide⟩ (m_X11_layTried hP) (fun Mb hMb => ?_)
    have hb := hMb.of2 hnt
    have hj := hb.rj hv
    refine a_iconst dX11_spread_50 ?_
    refine c_istoren (ls' := [_, _, _, _, _, _, _, _, _, _, _, _]) dX11_spread_51 (by decide) rfl rfl ?_
    refine a_iconst dX11_spread_52 ?_
    refine c_istore (ls' := [_, _, _, _, _, _, _, _, _, _, _, _]) dX11_spread_53 (by decide) rfl rfl ?_
    refine lpX11_spread_p hP ⟨by omega, by omega⟩ nn.toNat 0 1 (by omega) (by omega) ?_
    have ra : 0 ≤ p10 nn.toNat 1 ∧ p10 nn.toNat 1 ≤ 10000 := by
      rcases (show nn = 0 ∨ nn = 1 ∨ nn = 2 ∨ nn = 3 ∨ nn = 4 by omega) with e | e | e | e | e <;> rw [e] <;> decide
    refine AW.mono2 (tl3_spread hv hj.2.2.1.1 hj.1 rw9 ⟨by omega, by omega⟩ (by omega) ra) ?_
    rintro r lay P' M9 ⟨z1, z2, x, z3, z4, z5⟩
    exact ⟨z1, z2, x, z3, z4, Or.inr ⟨by omega, Mb, hb, by rw [← en]; exact z5⟩⟩
  · refine a_iloadn dX11_spread_38 rfl ?_
    refine a_iloadn dX11_spread_39 rfl ?_
    refine a_icmp_lt (tgt := 46) dX11_spread_40 (by decide) ⟨by omega, by omega⟩ ⟨by omega, by omega⟩ (fun hb40 => ?_) (fun hb40 => ?_)
    · refine a_aloadn dX11_spread_46 rfl ?_
      refine a_relVv (as := []) (q := 209) dX11_spread_47 mvX11_424 ⟨by decide, by decide⟩ (L209 L) rfl rfl rfl (Nat.le_of_ble_eq_true rfl) ⟨rfl, rfl⟩ ⟨by decide, by decide⟩ (m_X11_layTried hP) (fun Mb hMb => ?_)
      have hb := hMb.of2 hnt
      have hj := hb.rj hv
      refine a_iconst dX11_spread_50 ?_
      refine c_istoren (ls' := [_, _, _, _, _, _, _, _, _, _, _, _]) dX11_spread_51 (by decide) rfl rfl ?_
      refine a_iconst dX11_spread_52 ?_
      refine c_istore (ls' := [_, _, _, _, _, _, _, _, _, _, _, _]) dX11_spread_53 (by decide) rfl rfl ?_
      refine lpX11_spread_p hP ⟨by omega, by omega⟩ nn.toNat 0 1 (by omega) (by omega) ?_
      have ra : 0 ≤ p10 nn.toNat 1 ∧ p10 nn.toNat 1 ≤ 10000 := by
        rcases (show nn = 0 ∨ nn = 1 ∨ nn = 2 ∨ nn = 3 ∨ nn = 4 by omega) with e | e | e | e | e <;> rw [e] <;> decide
      refine AW.mono2 (tl3_spread hv hj.2.2.1.1 hj.1 rw9 ⟨by omega, by omega⟩ (by omega) ra) ?_
      rintro r lay P' M9 ⟨z1, z2, x, z3, z4, z5⟩
      exact ⟨z1, z2, x, z3, z4, Or.inr ⟨by omega, Mb, hb, by rw [← en]; exact z5⟩⟩
    · refine a_bipush (w := (-2)) dX11_spread_43 (by decide) ?_
      exact a_ireturn dX11_spread_45 rfl rfl rfl (zany_i ⟨hnt, Or.inl ⟨by omega, rfl⟩⟩)

set_option maxRecDepth 100000 in
set_option maxHeartbeats 4000000 in
theorem m_X11_spread {G : zG} {l : Launch} {L : Nat} {P : zP} {M : zM} {w : Int} (hv : RV P M) (rw : inR w) : AM G l yX11_spread mdX11_spread [aR 209, aI w] (LAY L) P M (zany (LAY L) P (fun r M' => Rn M M' ∧ (¬ (0 ≤ w ∧ w ≤ 4) ∧ r = -1 ∨ (0 ≤ w ∧ w ≤ 4) ∧ (w < 4 ∧ M 209 12 ≤ w) ∧ r = -2 ∨ (0 ≤ w ∧ w ≤ 4) ∧ ¬ (w < 4 ∧ M 209 12 ≤ w) ∧ ∃ Mb, LtR M Mb ∧ r = svP w (n4R M) (spO Mb (n4R M).toNat (p10 (n4R M).toNat 1).toNat 0 (-1, 0))))) := by
  have hP := hv.1
  have q0 := hv.2.1.1.1.1
  refine AM.go [some (aR 209), some (aI w), none, none, none, none, none, none, none, none, none, none] rfl (Nat.le_of_ble_eq_true rfl) ?_ (by decide) rfl rfl
  refine a_aloadn dX11_spread_0 rfl ?_
  refine a_iconst dX11_spread_1 ?_
  refine a_putI (j' := 2) dX11_spread_2 flX11_124 rfl rfl (L209 L) (by decide) rfl ⟨by omega, by omega⟩ ?_
  obtain ⟨Mt, hMt⟩ : ∃ Mt, Mt = sm M 209 2 0 := ⟨_, rfl⟩
  rw [← hMt]
  obtain ⟨hvt, hnt, e12, eT⟩ := th_all hv hMt
  refine a_iloadn dX11_spread_5 rfl ?_
  refine a_iconst dX11_spread_6 ?_
  refine a_iconst dX11_spread_7 ?_
  refine a_oneS (as := [_, _, _]) dX11_spread_8 mvX11_169 ⟨by decide, by decide⟩ rfl rfl (Nat.le_of_ble_eq_true rfl) ⟨rfl, rfl⟩ ⟨by decide, by decide⟩ (m_isIn1 ⟨by omega, by omega⟩ ⟨by omega, by omega⟩ ⟨by omega, by omega⟩) (fun x8 hx8 => ?_)
  refine a_if_ne (tgt := 16) dX11_spread_11 (by decide) ⟨by omega, by omega⟩ (fun hb11 => ?_) (fun hb11 => ?_)
  · refine a_aloadn dX11_spread_16 rfl ?_
    refine b_getI (j' := 12) dX11_spread_17 flX11_201 rfl rfl (L209 L) (fun hr17 => ?_)
    rw [e12] at hr17
    rw [e12]
    refine a_iconst dX11_spread_20 ?_
    refine a_icmp_ge (tgt := 31) dX11_spread_21 (by decide) ⟨by omega, by omega⟩ ⟨by omega, by omega⟩ (fun hb21 => ?_) (fun hb21 => ?_)
    · refine a_iconst dX11_spread_31 ?_
      refine c_istoren (ls' := [_, _, _, _, _, _, _, _, _, _, _, _]) dX11_spread_32 (by decide) rfl rfl ?_
      refine AW.mono2 (tl4_spread hv hnt (by unfold n4R; first | (rw [if_pos (by omega)]; done) | (rw [if_neg (by omega)]; done)) ⟨by omega, by omega⟩) ?_
      rintro r lay P' M' ⟨z1, z2, x, z3, z4, z5⟩
      refine ⟨z1, z2, x, z3, z4, Or.inr ?_⟩
      rcases z5 with z5 | z5
      · exact Or.inl ⟨by omega, z5.1, z5.2⟩
      · exact Or.inr ⟨by omega, z5.1, z5.2⟩
    · refine a_aloadn dX11_spread_24 rfl ?_
      refine b_getI (j' := 12) dX11_spread_25 flX11_201 rfl rfl (L209 L) (fun hr25 => ?_)
      rw [e12] at hr25
      rw [e12]
      refine a_goto (tgt := 32) dX11_spread_28 (by decide) ?_
      refine c_istoren (ls' := [_, _, _, _, _, _, _, _, _, _, _, _]) dX11_spread_32 (by decide) rfl rfl ?_
      refine AW.mono2 (tl4_spread hv hnt (by unfold n4R; first | (rw [if_pos (by omega)]; done) | (rw [if_neg (by omega)]; done)) ⟨by omega, by omega⟩) ?_
      rintro r lay P' M' ⟨z1, z2, x, z3, z4, z5⟩
      refine ⟨z1, z2, x, z3, z4, Or.inr ?_⟩
      rcases z5 with z5 | z5
      · exact Or.inl ⟨by omega, z5.1, z5.2⟩
      · exact Or.inr ⟨by omega, z5.1, z5.2⟩
  · refine a_iconst dX11_spread_14 ?_
    exact a_ireturn dX11_spread_15 rfl rfl rfl (zany_i ⟨hnt, Or.inl ⟨by omega, rfl⟩⟩)
