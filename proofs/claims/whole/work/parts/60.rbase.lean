section ZRB
/-- all but the reference's scratch -/
def Rq (M0 M : zM) : Prop := ∀ (k : Nat) (i : Int), ¬ (k = 231 ∨ k = 232 ∨ k = 240 ∨ (k = 209 ∧ (i = 2 ∨ i = 47 ∨ (55 ≤ i ∧ i ≤ 60))) ∨ ((k = 233 ∨ k = 234 ∨ k = 235) ∧ 6 ≤ i) ∨ ((k = 236 ∨ k = 237) ∧ 36 ≤ i) ∨ (k = 238 ∧ i ≠ 0)) → M k i = M0 k i
theorem Rq.rf (M : zM) : Rq M M := fun _ _ _ => rfl
theorem Rq.tr {M0 M1 M2 : zM} (h1 : Rq M0 M1) (h2 : Rq M1 M2) : Rq M0 M2 := fun k i h => (h2 k i h).trans (h1 k i h)
theorem Rq.put {M0 M : zM} (h : Rq M0 M) {k : Nat} {i : Int} (v : Int) (hk : k = 231 ∨ k = 232 ∨ k = 240 ∨ (k = 209 ∧ (i = 2 ∨ i = 47 ∨ (55 ≤ i ∧ i ≤ 60))) ∨ ((k = 233 ∨ k = 234 ∨ k = 235) ∧ 6 ≤ i) ∨ ((k = 236 ∨ k = 237) ∧ 36 ≤ i) ∨ (k = 238 ∧ i ≠ 0)) : Rq M0 (sm M k i v) := fun q j hq => by
  by_cases e : q = k
  · subst e
    rw [sm_k]
    by_cases e2 : j = i
    · subst e2; exact absurd hk hq
    · rw [us_n e2]; exact h q j hq
  · rw [sm_n e]; exact h q j hq
theorem Es.rq {M0 M : zM} (h : Es M0 M) : Rq M0 M := fun k i hk => h k i (by omega) (by omega) (by omega)
theorem Fb.rq {M0 M : zM} (h : Fb 1 M0 M) (hd : M 209 54 = M0 209 54) : Rq M0 M := fun k i hk => by
  by_cases e : k = 209 ∧ i = 54
  · obtain ⟨rfl, rfl⟩ := e; exact hd
  · exact h k i e (by omega) (by omega) (by omega)
theorem Rq.row {M0 M : zM} (h : Rq M0 M) {k : Nat} (hk : k ≠ 209 ∧ k ≠ 231 ∧ k ≠ 232 ∧ k ≠ 240 ∧ ¬ (233 ≤ k ∧ k ≤ 238)) : M k = M0 k := funext fun i => h k i (by omega)
/-- the reference between two calls -/
def RV (P : zP) (M : zM) : Prop := PFok P ∧ RJ M 0 ∧ M 238 0 ≤ 9000
def Rn (M0 M : zM) : Prop := Rq M0 M ∧ (0 ≤ M 209 60 ∧ M 209 60 ≤ 20)
theorem Rq.txi {M0 M : zM} (h : Rq M0 M) (hI : TxI M0) : TxI M := by
  unfold TxI at hI ⊢
  rw [h 209 12 (by omega), h 209 13 (by omega), h 209 14 (by omega), h.row (k := 213) (by omega), h.row (k := 215) (by omega), h.row (k := 216) (by omega), h.row (k := 217) (by omega), h.row (k := 218) (by omega), h.row (k := 219) (by omega), h.row (k := 220) (by omega), h.row (k := 221) (by omega), h.row (k := 222) (by omega)]
  exact hI
theorem Rq.lri {M0 M : zM} (h : Rq M0 M) {w : Int} (hI : LrI M0 w) : LrI M w := LrI_of (h.row (by omega)) (h.row (by omega)) (h.row (by omega)) (h.row (by omega)) (h.row (by omega)) (h.row (by omega)) hI
theorem Rq.smi {M0 M : zM} (h : Rq M0 M) (hI : SmI M0 0) : SmI M 0 := by
  refine ⟨fun j j0 j1 => ?_, fun j j0 j1 => ?_, fun j j0 j1 => ?_, ?_⟩
  · rw [h 233 _ (by omega)]; exact hI.1 j j0 j1
  · rw [h 234 _ (by omega)]; exact hI.2.1 j j0 j1
  · rw [h 236 _ (by omega)]; exact hI.2.2.1 j j0 j1
  · rw [h 238 0 (by omega)]; exact hI.2.2.2
theorem Rn.rv {P : zP} {M0 M : zM} (h : Rn M0 M) (hv : RV P M0) : RV P M := by
  obtain ⟨h1, ⟨⟨h2, h3, h4, h5⟩, h6⟩, h7⟩ := hv
  exact ⟨h1, ⟨⟨h.1.txi h2, ⟨h.1.lri h3.1, h.1.lri h3.2.1, h.1.lri h3.2.2⟩, h.1.smi h4, h.2⟩, by rw [h.1 209 54 (by omega)]; exact h6⟩, by rw [h.1 238 0 (by omega)]; exact h7⟩
theorem Rn.rf {P : zP} {M : zM} (hv : RV P M) : Rn M M := ⟨Rq.rf M, hv.2.1.1.2.2.2⟩
theorem Rn.tr {M0 M1 M2 : zM} (h1 : Rn M0 M1) (h2 : Rn M1 M2) : Rn M0 M2 := ⟨h1.1.tr h2.1, h2.2⟩
theorem Rn.es {M0 M1 M2 : zM} (h1 : Rn M0 M1) (h2 : Es M1 M2) : Rn M0 M2 := ⟨h1.1.tr h2.rq, by rw [h2 209 60 (by decide) (by decide) (by omega)]; exact h1.2⟩
theorem th_all {P : zP} {M Mt : zM} (hv : RV P M) (h : Mt = sm M 209 2 0) : RV P Mt ∧ Rn M Mt ∧ Mt 209 12 = M 209 12 ∧ (∀ (k : Nat) (i : Int), ¬ (k = 209 ∧ i = 2) → Mt k i = M k i) := by
  have e : ∀ (k : Nat) (i : Int), ¬ (k = 209 ∧ i = 2) → Mt k i = M k i := fun k i hk => by
    rw [h]
    by_cases e1 : k = 209
    · subst e1; rw [sm_k, us_n (fun z => hk ⟨rfl, z⟩)]
    · rw [sm_n e1]
  have hn : Rn M Mt := ⟨fun k i hk => e k i (by omega), by rw [e 209 60 (by omega)]; exact hv.2.1.1.2.2.2⟩
  exact ⟨hn.rv hv, hn, e 209 12 (by omega), e⟩
/-- as it goes -/
def ptM (M : zM) : zM := sm (sm (sm (sm (sm (sm M 209 55 0) 209 56 0) 209 57 0) 209 58 0) 209 59 (-1)) 209 60 (M 213 0)
theorem ptM_f (M : zM) : ptM M 209 55 = 0 ∧ ptM M 209 56 = 0 ∧ ptM M 209 57 = 0 ∧ ptM M 209 58 = 0 ∧ ptM M 209 59 = -1 ∧ ptM M 209 60 = M 213 0 := by
  unfold ptM
  refine ⟨?_, ?_, ?_, ?_, ?_, ?_⟩ <;> simp [sm, ur, us]
theorem ptM_n (M : zM) (k : Nat) (i : Int) (h : ¬ (k = 209 ∧ 55 ≤ i ∧ i ≤ 60)) : ptM M k i = M k i := by
  unfold ptM
  by_cases e : k = 209
  · subst e
    rw [sm_k, us_n (by omega), sm_k, us_n (by omega), sm_k, us_n (by omega), sm_k, us_n (by omega), sm_k, us_n (by omega), sm_k, us_n (by omega)]
  · rw [sm_n e, sm_n e, sm_n e, sm_n e, sm_n e, sm_n e]
theorem ptM_rn {M : zM} (hT : TxI M) : Rn M (ptM M) := ⟨fun k i hk => ptM_n M k i (by omega), by rw [(ptM_f M).2.2.2.2.2]; exact hT.2.2.2.2.2.2.2.1⟩
/-- as it is tried: the flags -/
def Pf (M0 M : zM) : Prop := M 209 55 = 0 ∧ M 209 56 = 0 ∧ M 209 57 = 0 ∧ M 209 58 = 0 ∧ M 209 59 = -1 ∧ M 209 60 = M0 213 0
/-- the second state is laid as the first -/
def LtR (M M' : zM) : Prop := (∀ j : Int, 0 ≤ j → j < 6 → M' 233 (6 * 1 + j) = M 233 j ∧ M' 234 (6 * 1 + j) = M 234 j ∧ M' 235 (6 * 1 + j) = M 235 j) ∧ (∀ j : Int, 0 ≤ j → j < 36 → M' 236 (36 * 1 + j) = M 236 j ∧ M' 237 (36 * 1 + j) = M 237 j) ∧ M' 238 1 = M 238 0 ∧ Pf M M' ∧ Rq M M'
theorem LtR.of {M Mt M' : zM} (h : Rq M Mt) (h2 : LtR Mt M') : LtR M M' := by
  obtain ⟨a1, a2, a3, a4, a5⟩ := h2
  refine ⟨fun j j0 j1 => ?_, fun j j0 j1 => ?_, ?_, ?_, h.tr a5⟩
  · rw [← h 233 j (by omega), ← h 234 j (by omega), ← h 235 j (by omega)]; exact a1 j j0 j1
  · rw [← h 236 j (by omega), ← h 237 j (by omega)]; exact a2 j j0 j1
  · rw [← h 238 0 (by omega)]; exact a3
  · unfold Pf at a4 ⊢
    rw [← h 213 0 (by omega)]; exact a4
theorem LtR.rj {P : zP} {M M' : zM} (hv : RV P M) (h : LtR M M') : Rn M M' ∧ RV P M' ∧ RJ M' 1 ∧ M' 238 1 = M 238 0 := by
  obtain ⟨a1, a2, a3, a4, a5⟩ := h
  have hn : Rn M M' := ⟨a5, by rw [a4.2.2.2.2.2]; exact hv.2.1.1.1.2.2.2.2.2.2.2.1⟩
  have hv' := hn.rv hv
  have hs := hv.2.1.1.2.2.1
  refine ⟨hn, hv', ⟨⟨hv'.2.1.1.1, hv'.2.1.1.2.1, ⟨fun j j0 j1 => ?_, fun j j0 j1 => ?_, fun j j0 j1 => ?_, ?_⟩, hn.2⟩, hv'.2.1.2⟩, a3⟩
  · rw [(a1 j j0 j1).1]; have := hs.1 j j0 j1; rwa [show 6 * (0 : Int) + j = j by omega] at this
  · rw [(a1 j j0 j1).2.1]; have := hs.2.1 j j0 j1; rwa [show 6 * (0 : Int) + j = j by omega] at this
  · rw [(a2 j j0 j1).1]; have := hs.2.2.1 j j0 j1; rwa [show 36 * (0 : Int) + j = j by omega] at this
  · rw [a3]; exact hs.2.2.2
theorem fmR_0 {M : zM} (h : M 209 55 = 0) : fmR M = M := by unfold fmR; rw [if_neg (by omega)]
theorem fvR_0 (b : Int) : ∀ (n : Nat) (i : Int) (M : zM), M 209 55 = 0 → fvR b n i M 209 = M 209
  | 0, i, M, _ => rfl
  | n + 1, i, M, h => by
    unfold fvR
    rw [fmR_0 h]
    split
    · rw [fvR_0 b n (i + 1) _ (by rw [sm_n (by decide)]; exact h), sm_n (by decide)]
    · exact fvR_0 b n (i + 1) M h
theorem hourR_0 {b : Int} {M : zM} (hI : RJ M b) (h : M 209 55 = 0) : hourR b M 209 = M 209 := by
  unfold hourR hrR4
  have a := hrR3_all hI
  rw [sm_n (by decide), fvR_0 b _ _ _ (by rw [a.2.2.2]; exact h), a.2.2.2]
theorem goR_0 {b : Int} : ∀ (n : Nat) (M : zM), RJ M b → M 238 b + n ≤ 9999 → M 209 55 = 0 → goR b n M 209 = M 209
  | 0, M, _, _, _ => rfl
  | n + 1, M, h, hh, h5 => by
    obtain ⟨a1, a2, a3, a4⟩ := hourR_all h (by omega)
    unfold goR
    rw [goR_0 n (hourR b M) a2 (by rw [a3]; omega) (by rw [hourR_0 h h5]; exact h5), hourR_0 h h5]
/-- behind the second state's hours -/
theorem go_all {P : zP} {M Mb M2 : zM} {n : Nat} (hv : RV P M) (hb : LtR M Mb) (hE : Es (goR 1 n Mb) M2) (hn : n ≤ 999) : RJ (goR 1 n Mb) 1 ∧ Rn M M2 ∧ Fb 1 Mb (goR 1 n Mb) := by
  obtain ⟨b1, b2, b3, b4⟩ := hb.rj hv
  have h9 := hv.2.2
  obtain ⟨c1, c2, c3, c4⟩ := goR_all (b := 1) n Mb b3 (by rw [b4]; omega)
  have e := goR_0 (b := 1) n Mb b3 (by rw [b4]; omega) hb.2.2.2.1.1
  have r1 : Rn Mb (goR 1 n Mb) := ⟨c1.rq (by rw [e]), by rw [e]; exact b1.2⟩
  exact ⟨c2, (b1.tr r1).es hE, c1⟩
def pairsR (M : zM) (b : Int) : Int := zsm (fun h => zsm (fun j => if M 237 (36 * b + 6 * h + j) = 0 then 0 else 1) (M 209 12).toNat 0 0) (M 209 12).toNat 0 0
def heardR (M : zM) (b : Int) : Int := zsm (fun j => M 236 (36 * b + j)) 36 0 0
theorem Rq.pairs {M0 M : zM} (h : Rq M0 M) (hT : TxI M0) : pairsR M 0 = pairsR M0 0 := by
  have q := hT.1
  unfold pairsR
  rw [h 209 12 (by omega)]
  refine zsm_cong _ _ _ (fun x x0 x1 => zsm_cong _ _ _ (fun j j0 j1 => ?_))
  rw [h 237 _ (by omega)]
theorem Rq.heard {M0 M : zM} (h : Rq M0 M) : heardR M 0 = heardR M0 0 := by
  unfold heardR
  exact zsm_cong _ _ _ (fun j j0 j1 => h 236 _ (by omega))
theorem Es.pairs {M0 M : zM} (h : Es M0 M) (b : Int) : pairsR M b = pairsR M0 b := by
  unfold pairsR
  rw [h 209 12 (by decide) (by decide) (by omega), h.row (k := 237) (by decide) (by decide) (by decide)]
def ahR (M Mp : zM) (w h : Int) : Int := if w = 0 then pairsR Mp 1 - pairsR M 0 else if w = 1 then heardR Mp 1 - heardR M 0 else if w = 2 then Mp 233 (6 * 1 + h) else Mp 234 (6 * 1 + h)
/-- whom a house hears, who hears it; whom it knows, who knows it -/
def hbR (M : zM) (b h : Int) : Int := zbits (fun o => hrR M b h o) (M 209 12).toNat 0 0
def hoR (M : zM) (b h : Int) : Int := zbits (fun o => hrR M b o h) (M 209 12).toNat 0 0
def knR (M : zM) (b h : Int) : Int := zbits (fun o => M 237 (36 * b + (6 * h + o))) (M 209 12).toNat 0 0
def kwR (M : zM) (b h : Int) : Int := zbits (fun o => M 237 (36 * b + (6 * o + h))) (M 209 12).toNat 0 0
theorem Es.hb {M0 M : zM} (h : Es M0 M) (b x : Int) : hbR M b x = hbR M0 b x := by
  unfold hbR
  rw [h 209 12 (by decide) (by decide) (by omega)]
  exact zbits_cong _ _ _ (fun j _ _ => by rw [h.hrr])
theorem Es.ho {M0 M : zM} (h : Es M0 M) (b x : Int) : hoR M b x = hoR M0 b x := by
  unfold hoR
  rw [h 209 12 (by decide) (by decide) (by omega)]
  exact zbits_cong _ _ _ (fun j _ _ => by rw [h.hrr])
theorem kset0 (x : Int) : b_ior x 0 = b_ior x 0 := rfl
end ZRB
