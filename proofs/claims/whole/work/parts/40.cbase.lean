section ZCB
/-- the class between two calls: its objects, ranges, near as told, the hour -/
def CV (L : Nat) (P : zP) (M : zM) (t : Nat) : Prop := CS L P t 61 ∧ CI M t 61 ∧ P 2 2 = some t ∧ M 50 1 = M (t + 10) 0 ∧ M 61 5 ≤ 9000
/-- all but the class's scratch -/
def Cq (M0 M : zM) : Prop := ∀ k : Nat, ¬ ((50 ≤ k ∧ k ≤ 60) ∨ (67 ≤ k ∧ k ≤ 72) ∨ k = 207 ∨ k = 208) → M k = M0 k
theorem Cq.rf (M : zM) : Cq M M := fun _ _ => rfl
theorem Cq.tr {M0 M1 M2 : zM} (h1 : Cq M0 M1) (h2 : Cq M1 M2) : Cq M0 M2 := fun k h => (h2 k h).trans (h1 k h)
theorem Cq.sm {M0 M : zM} (h : Cq M0 M) {k : Nat} (hk : (50 ≤ k ∧ k ≤ 60) ∨ (67 ≤ k ∧ k ≤ 72) ∨ k = 207 ∨ k = 208) (i v : Int) : Cq M0 (sm M k i v) := fun q hq => by rw [sm_n (by omega)]; exact h q hq
theorem Ec.cq {M0 M : zM} (h : Ec M0 M) : Cq M0 M := fun k hk => h.row (by omega) (by omega) (by omega)
theorem Fa.cq {M0 M : zM} (h : Fa 67 M0 M) : Cq M0 M := fun k hk => h k (by omega)
theorem CI.tr {M0 M : zM} {t a : Nat} (h : CI M0 t a) (ht : t ≤ 25) (e : ∀ k, (k ≤ 49 ∨ (a ≤ k ∧ k ≤ a + 5)) → M k = M0 k) (e1 : 0 ≤ M 50 1 ∧ M 50 1 ≤ 20) : CI M t a := by
  obtain ⟨h1, h2, h3, h4⟩ := h
  unfold CI ToI LwI StI at *
  rw [e t (by omega), e (t + 2) (by omega), e (t + 3) (by omega), e (t + 4) (by omega), e (t + 5) (by omega), e (t + 6) (by omega), e (t + 7) (by omega), e (t + 8) (by omega), e (t + 9) (by omega), e (t + 10) (by omega), e (t + 13) (by omega), e (t + 13 + 1) (by omega), e (t + 15) (by omega), e (t + 15 + 1) (by omega), e (t + 17) (by omega), e (t + 17 + 1) (by omega), e a (by omega), e (a + 1) (by omega), e (a + 2) (by omega), e (a + 3) (by omega), e (a + 4) (by omega), e (a + 5) (by omega)]
  exact ⟨h1, h2, h3, e1⟩
theorem CI.sw {M : zM} {t a b : Nat} (h : CI M t a) (hs : StI M b) : CI M t b := ⟨h.1, h.2.1, hs, h.2.2.2⟩
theorem CS.sw {L : Nat} {P : zP} {t a : Nat} (h : CS L P t a) : CS L P t 67 := ⟨h.1, h.2.1, h.2.2.1, h.2.2.2.1, st_guess L h.1, Or.inr rfl⟩
/-- scratch apart, and near as told -/
def Cn (t : Nat) (M0 M : zM) : Prop := Cq M0 M ∧ M 50 1 = M0 (t + 10) 0
theorem Cn.rf {L : Nat} {P : zP} {M : zM} {t : Nat} (hv : CV L P M t) : Cn t M M := ⟨Cq.rf M, hv.2.2.2.1⟩
theorem Cn.ec {t : Nat} {M0 M1 M2 : zM} (h : Cn t M0 M1) (h2 : Ec M1 M2) : Cn t M0 M2 := ⟨h.1.tr h2.cq, by rw [h2 50 1 (by decide) (by decide) (by omega)]; exact h.2⟩
theorem Cn.fa {t : Nat} {M0 M1 M2 : zM} (h : Cn t M0 M1) (h2 : Fa 67 M1 M2) : Cn t M0 M2 := ⟨h.1.tr h2.cq, by rw [h2 50 (by omega)]; exact h.2⟩
theorem Cn.sm {t : Nat} {M0 M1 : zM} (h : Cn t M0 M1) {k : Nat} (hk : (51 ≤ k ∧ k ≤ 60) ∨ (67 ≤ k ∧ k ≤ 72) ∨ k = 207 ∨ k = 208) (i v : Int) : Cn t M0 (sm M1 k i v) := ⟨h.1.sm (by omega) i v, by rw [sm_n (by omega)]; exact h.2⟩
theorem Cn.cv {L : Nat} {P : zP} {M0 M : zM} {t : Nat} (h : Cn t M0 M) (hv : CV L P M0 t) : CV L P M t := by
  obtain ⟨hc, hi, hx, hn, hh⟩ := hv
  have ht := hc.2.2.2.1
  have q := hi.1.2.2.2.2.2.2.2.1
  refine ⟨hc, hi.tr (by omega) (fun k hk => h.1 k (by omega)) (by rw [h.2]; exact q), hx, ?_, ?_⟩
  · rw [h.2, h.1 (t + 10) (by omega)]
  · rw [h.1 61 (by omega)]; exact hh
/-- hours as they go -/
def agM (t : Nat) (M : zM) : zM := sm (sm (sm (sm (sm M 50 1 (M (t + 10) 0)) 50 3 1) 50 4 1) 50 5 (-1)) 50 2 (if 50 ≤ M (t + 10) 2 then 1 else 0)
/-- hours as they are drawn -/
def adM (t : Nat) (M : zM) : zM := sm (sm (sm (sm (sm M 50 1 (M (t + 10) 0)) 50 3 1) 50 4 1) 50 5 (-1)) 50 2 (if M (t + 10) 2 = 0 then 0 else if M (t + 10) 2 = 100 then 1 else 2)
theorem agM_n (t : Nat) (M : zM) {k : Nat} (h : k ≠ 50) : agM t M k = M k := by unfold agM; rw [sm_n h, sm_n h, sm_n h, sm_n h, sm_n h]
theorem adM_n (t : Nat) (M : zM) {k : Nat} (h : k ≠ 50) : adM t M k = M k := by unfold adM; rw [sm_n h, sm_n h, sm_n h, sm_n h, sm_n h]
theorem agM_f (t : Nat) (M : zM) : agM t M 50 1 = M (t + 10) 0 ∧ agM t M 50 2 = (if 50 ≤ M (t + 10) 2 then 1 else 0) ∧ agM t M 50 3 = 1 ∧ agM t M 50 4 = 1 ∧ agM t M 50 5 = -1 := by
  unfold agM
  refine ⟨?_, ?_, ?_, ?_, ?_⟩ <;> simp [sm, ur, us]
theorem adM_f (t : Nat) (M : zM) : adM t M 50 1 = M (t + 10) 0 ∧ adM t M 50 2 = (if M (t + 10) 2 = 0 then 0 else if M (t + 10) 2 = 100 then 1 else 2) ∧ adM t M 50 3 = 1 ∧ adM t M 50 4 = 1 ∧ adM t M 50 5 = -1 := by
  unfold adM
  refine ⟨?_, ?_, ?_, ?_, ?_⟩ <;> simp [sm, ur, us]
/-- the guess begins as it is now, and hours go as they go -/
def GsR (t : Nat) (M M' : zM) : Prop := ∃ M1, CyR M 67 61 M1 ∧ M' = agM t M1
theorem CyR.cv {L : Nat} {P : zP} {M M1 : zM} {t : Nat} (hv : CV L P M t) (h : CyR M 67 61 M1) : Cn t M M1 ∧ CI M1 t 67 ∧ CI M1 t 61 ∧ M1 67 5 = M 61 5 := by
  have hn : Cn t M M1 := (Cn.rf hv).fa h.2.2.2.2
  have hv1 := hn.cv hv
  exact ⟨hn, hv1.2.1.sw (h.sti hv.2.1.2.2.1), hv1.2.1, h.2.2.1⟩
theorem agM_ci {M : zM} {t a : Nat} (h : CI M t a) (ht : t ≤ 25) (ha : 51 ≤ a) : CI (agM t M) t a := h.tr ht (fun k hk => agM_n t M (by omega)) (by rw [(agM_f t M).1]; exact h.1.2.2.2.2.2.2.2.1)
theorem adM_ci {M : zM} {t a : Nat} (h : CI M t a) (ht : t ≤ 25) (ha : 51 ≤ a) : CI (adM t M) t a := h.tr ht (fun k hk => adM_n t M (by omega)) (by rw [(adM_f t M).1]; exact h.1.2.2.2.2.2.2.2.1)
theorem agM_cn {M0 M : zM} {t : Nat} (h : Cn t M0 M) (ht : t ≤ 25) : Cn t M0 (agM t M) := ⟨h.1.tr (fun k hk => agM_n t M (by omega)), by rw [(agM_f t M).1, h.1 (t + 10) (by omega)]⟩
theorem adM_cn {M0 M : zM} {t : Nat} (h : Cn t M0 M) (ht : t ≤ 25) : Cn t M0 (adM t M) := ⟨h.1.tr (fun k hk => adM_n t M (by omega)), by rw [(adM_f t M).1, h.1 (t + 10) (by omega)]⟩
theorem GsR.all {L : Nat} {P : zP} {M M' : zM} {t : Nat} (hv : CV L P M t) (h : GsR t M M') : CS L P t 67 ∧ CI M' t 67 ∧ Cn t M M' ∧ M' 67 5 = M 61 5 := by
  obtain ⟨M1, h1, rfl⟩ := h
  have ht := hv.1.2.2.2.1
  obtain ⟨a1, a2, a3, a4⟩ := h1.cv hv
  exact ⟨hv.1.sw, agM_ci a2 (by omega) (by omega), agM_cn a1 (by omega), by rw [agM_n t M1 (by decide)]; exact a4⟩
/-- what holds behind the guess's hours -/
theorem gp_all {L : Nat} {P : zP} {M Mg M2 : zM} {t : Nat} {n : Nat} (hv : CV L P M t) (hg : GsR t M Mg) (hE : Ec (passM t 67 n Mg) M2) (hn : n ≤ 999) : CI (passM t 67 n Mg) t 67 ∧ CI M2 t 67 ∧ Cn t M M2 ∧ Mg 67 5 = M 61 5 := by
  obtain ⟨b1, b2, b3, b4⟩ := hg.all hv
  have ht := hv.1.2.2.2.1
  have h9 := hv.2.2.2.2
  have c1 := passM_I (t := t) (a := 67) (by omega) (by omega) n Mg b2 (by rw [b4]; omega)
  exact ⟨c1, hE.ci (by omega) (by omega) c1, (b3.fa (passM_Fa t 67 n Mg)).ec hE, b4⟩
/-- two houses -/
abbrev two (n h o : Int) : Prop := 0 ≤ h ∧ h < n ∧ 0 ≤ o ∧ o < n ∧ h ≠ o
end ZCB
