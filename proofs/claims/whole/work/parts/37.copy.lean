theorem wcp : Cond.methodLink RX5 44 arraycopyName ∈ zt ∧ Cond.native arraycopyName ∈ zt ∧ Cond.static arraycopyName ∈ zt ∧ Cond.initialized "java/lang/System" ∈ zt := ⟨zmem (tm0 798 (by decide +kernel)) rfl, zmem (tm0 800 (by decide +kernel)) rfl, zmem (tm0 799 (by decide +kernel)) rfl, zmem (tm0 24 (by decide +kernel)) rfl⟩
def cpM (M : zM) (q1 q2 : Nat) (N : Int) : zM := ur M q2 (fun j => if 0 ≤ j ∧ j < N then M q1 j else M q2 j)
section ZCP
variable {G : zG} {l : Launch} {md : zMd} {Z : zZ} {pc : Nat} {ls : List (Option av)} {st : List av} {lay : List zKd} {P : zP} {M : zM} {k n : Nat}

/-- all the cells but the first two, as a world of the kit -/
def zws (G : zG) (lay : List zKd) (P : zP) (M : zM) : va_W := (lay.drop 2).mapIdx (fun k kd => (G.1 (k + 2), zE G P M (k + 2) kd))
theorem zws_at {G : zG} {lay : List zKd} {P : zP} {M : zM} {k : Nat} {kd : zKd} (h : lay[k + 2]? = some kd) : (zws G lay P M)[k]? = some (G.1 (k + 2), zE G P M (k + 2) kd) := by
  unfold zws
  rw [List.getElem?_mapIdx, List.getElem?_drop, show 2 + k = k + 2 by omega, h]
  rfl
theorem zws_of {G : zG} {lay : List zKd} {P : zP} {M : zM} {k : Nat} {q : Nat × va_E} (h : (zws G lay P M)[k]? = some q) : ∃ kd, lay[k + 2]? = some kd ∧ q = (G.1 (k + 2), zE G P M (k + 2) kd) := by
  unfold zws at h
  rw [List.getElem?_mapIdx, List.getElem?_drop, show 2 + k = k + 2 by omega] at h
  cases hk : lay[k + 2]? with
  | none => rw [hk] at h; cases h
  | some kd =>
    rw [hk] at h
    simp only [Option.map_some, Option.some.injEq] at h
    exact ⟨kd, rfl, h.symm⟩
theorem zws_P {G : zG} {lay : List zKd} {P : zP} {M : zM} {H : Heap} (h : HR G lay P M H) : va_P G.2.1 vwCl (zws G lay P M) H := fun k q hq => by
  obtain ⟨kd, h1, rfl⟩ := zws_of hq
  exact h.ar (by omega) h1
theorem zws_D {G : zG} (hG : GK G) (lay : List zKd) (P : zP) (M : zM) : va_D (zA G) (zws G lay P M) := by
  refine ⟨fun i j p q hp hq e => ?_, fun k q hq => ?_⟩
  · obtain ⟨kd, h1, rfl⟩ := zws_of hp
    obtain ⟨kd', h2, rfl⟩ := zws_of hq
    have e' : G.1 (i + 2) = G.1 (j + 2) := e
    rw [hG.1, hG.1] at e'
    omega
  · obtain ⟨kd, h1, rfl⟩ := zws_of hq
    exact gk_A hG (by omega)
theorem a_acopy {q1 q2 N : Nat} (d : decode md.2.2.1 pc = .ok (.invokestatic 44, 3)) (ho : md.1 = RX5) (hk1 : lay[q1 + 2]? = some (.inl (0, N))) (hk2 : lay[q2 + 2]? = some (.inl (0, N))) (hN : N < 2147483648) (hL : 244 ≤ lay.length) (hcat : (st.map zcat1).sum ≤ 8) (hR : 1 ≤ md.2.2.2.2.2.frames ∧ 64 ≤ md.2.2.2.2.2.locals)
    (kk : AW G l md Z (pc + 3) ls st lay P (cpM M (q1 + 2) (q2 + 2) N) k n) : AW G l md Z pc ls (aI N :: aI 0 :: aR (q2 + 2) :: aI 0 :: aR (q1 + 2) :: st) lay P M k n := by
  intro hG p e s m args below meth c H locs lsA hC hl hH hS
  have hts := hC.2.2.2.2.2.2.1
  have hz : ¬ (Int32.ofInt 0) < 0 := by decide
  have hzc : (Int32.ofInt 0).toNatClampNeg = 0 := by decide
  have hn : ¬ (Int32.ofInt (N : Int)) < 0 := fun q => by
    rw [Int32.lt_iff_toInt_lt, z32 ⟨by omega, by omega⟩] at q
    simp at q
    omega
  have hnc : (Int32.ofInt (N : Int)).toNatClampNeg = N := zcl hN
  refine va_copyi (A := zA G) (H0 := H) (ws := zws G lay P M) (ty := .int) (f := fun i => Int32.ofInt (M (q1 + 2) (i : Int))) (g := fun i => Int32.ofInt (M (q2 + 2) (i : Int))) (n0 := N) (n1 := N) hC.1 hC.2.1 (zml hC hl) hC.2.2.2.2.2.1 (hts _ (by rw [ho]; exact wcp.1)) (hts _ wcp.2.1) (hts _ wcp.2.2.1) (hts _ wcp.2.2.2) hC.2.2.2.2.2.2.2.1.1 (zws_P hH) (zws_D hG lay P M) ⟨Nat.le_refl _, fun _ _ _ => rfl, hS⟩ q1 q2 0 0 (zws_at hk1) (zws_at hk2) rfl rfl rfl hz hz hn (by rw [hzc, hnc]; omega) (by rw [hzc, hnc]; omega) (fun i _ => rfl) hR.1 ?_ d ?_
  · have e9 : ((st.map (cv G.1)).map fun v => v.category) = st.map zcat1 := by
      rw [List.map_map]
      exact List.map_congr_left (fun v _ => zcat_eq G.1 v)
    rw [e9]
    have : nativeFrameWords "java/lang/System" "arraycopy" 5 ≤ 40 := by decide
    omega
  · intro H1 locs1 hP1 hD1 hS1
    refine kk hG p e s m args below meth c H1 locs1 lsA hC hl ?_ hS1.2.2
    refine ⟨⟨hH.1.1, Or.inr ⟨hL, ?_⟩, fun q hq => ?_⟩, fun j kd hj => ?_⟩
    · have h1 := hH.1.2.1
      have h2 := hS1.1
      omega
    · rw [hS1.2.1 q (by have h1 := hH.1.2.1; omega) (fun z => by unfold zA at z; omega)]
      exact hH.1.2.2 q hq
    · by_cases ej : j = q2 + 2
      · subst ej
        rw [hk2] at hj
        cases hj
        have hc := hP1 q2 (G.1 (q2 + 2), .inl (G.2.2.1 0, N, .inl (va_cpy (fun i => Int32.ofInt (M (q1 + 2) (i : Int))) (fun i => Int32.ofInt (M (q2 + 2) (i : Int))) (Int32.ofInt 0).toNatClampNeg (Int32.ofInt 0).toNatClampNeg (Int32.ofInt (N : Int)).toNatClampNeg))) (by rw [List.getElem?_set_self (List.getElem?_eq_some_iff.mp (zws_at hk2)).1])
        refine ⟨Or.inl ⟨by omega, ?_⟩, fun i i0 i1 => ?_⟩
        · have e8 : (fun i : Nat => Int32.ofInt (cpM M (q1 + 2) (q2 + 2) N (q2 + 2) (i : Int))) = va_cpy (fun i => Int32.ofInt (M (q1 + 2) (i : Int))) (fun i => Int32.ofInt (M (q2 + 2) (i : Int))) (Int32.ofInt 0).toNatClampNeg (Int32.ofInt 0).toNatClampNeg (Int32.ofInt (N : Int)).toNatClampNeg := by
            funext i
            rw [hzc, hnc]
            unfold cpM va_cpy
            rw [ur_s]
            by_cases ci : i < N
            · rw [if_pos ⟨by omega, by omega⟩, if_pos ⟨by omega, by omega⟩]
              simp
            · rw [if_neg (by omega), if_neg (by omega)]
          show va_at G.2.1 vwCl (G.1 (q2 + 2), .inl (G.2.2.1 0, N, .inl (fun i : Nat => Int32.ofInt (cpM M (q1 + 2) (q2 + 2) N (q2 + 2) (i : Int))))) H1
          rw [e8]
          exact hc
        · show inR (cpM M (q1 + 2) (q2 + 2) N (q2 + 2) i)
          unfold cpM
          rw [ur_s, if_pos ⟨i0, i1⟩]
          exact (hH.2 _ _ hk1).2 i i0 i1
      · have e7 : cpM M (q1 + 2) (q2 + 2) N j = M j := by unfold cpM; rw [ur_n ej]
        have e70 : zat G P (cpM M (q1 + 2) (q2 + 2) N) j kd H1 = zat G P M j kd H1 := by unfold zat ZX; rw [zE_off (P := P) (M := M) rfl e7, e7]
        rw [e70, e7]
        refine ⟨?_, (hH.2 j kd hj).2⟩
        match j, hj, ej with
        | 0, hj, _ => exact (hH.2 0 kd hj).1.kept (hS1.2.1 _ (hH.2 0 kd hj).1.lt (fun z => by unfold zA at z; have := hG.2.1.1; omega))
        | 1, hj, _ => exact (hH.2 1 kd hj).1.kept (hS1.2.1 _ (hH.2 1 kd hj).1.lt (fun z => by unfold zA at z; have := hG.2.1.2; omega))
        | j + 2, hj, ej =>
          refine Or.inl ⟨by omega, hP1 j (G.1 (j + 2), zE G P M (j + 2) kd) ?_⟩
          rw [List.getElem?_set_ne (by omega)]
          exact zws_at hj
theorem c_acopy {q1 q2 N : Nat} (d : decode md.2.2.1 pc = .ok (.invokestatic 44, 3)) (ho : md.1 = RX5) (h1 : 2 ≤ q1) (h2 : 2 ≤ q2) (hk1 : lay[q1]? = some (.inl (0, N))) (hk2 : lay[q2]? = some (.inl (0, N))) (hN : N < 2147483648) (hL : 244 ≤ lay.length) (hcat : (st.map zcat1).sum ≤ 8) (hR : 1 ≤ md.2.2.2.2.2.frames ∧ 64 ≤ md.2.2.2.2.2.locals) {w : Int} (hw : w = (N : Int))
    (kk : AW G l md Z (pc + 3) ls st lay P (cpM M q1 q2 w) k n) : AW G l md Z pc ls (aI w :: aI 0 :: aR q2 :: aI 0 :: aR q1 :: st) lay P M k n := by
  subst hw
  obtain ⟨p1, rfl⟩ : ∃ p1, q1 = p1 + 2 := ⟨q1 - 2, by omega⟩
  obtain ⟨p2, rfl⟩ : ∃ p2, q2 = p2 + 2 := ⟨q2 - 2, by omega⟩
  exact a_acopy d ho hk1 hk2 hN hL hcat hR kk
/-- the state a is made like the state b -/
def CyR (M : zM) (a b : Nat) (M' : zM) : Prop := (∀ j : Int, 0 ≤ j → j < 6 → M' (a + 1) j = M (b + 1) j ∧ M' (a + 2) j = M (b + 2) j ∧ M' (a + 3) j = M (b + 3) j ∧ M' (a + 4) j = M (b + 4) j) ∧ (∀ j : Int, 0 ≤ j → j < 36 → M' (a + 5) j = M (b + 5) j) ∧ M' a 5 = M b 5 ∧ M' a 6 = M b 6 ∧ Fa a M M'
/-- the state a begins as the text t tells -/
def BgR (M : zM) (a t : Nat) (M' : zM) : Prop := (∀ j : Int, 0 ≤ j → j < 6 → M' (a + 1) j = (if j < M t 2 then M (t + 2) j else 0) ∧ M' (a + 2) j = (if j < M t 2 then M (t + 3) j else 0) ∧ M' (a + 3) j = 0 ∧ M' (a + 4) j = 0) ∧ (∀ j : Int, 0 ≤ j → j < 36 → M' (a + 5) j = 0) ∧ M' a 5 = 0 ∧ M' a 6 = M (t + 10) 3 ∧ Fa a M M'
theorem CyR.sti {M M' : zM} {a b : Nat} (h : CyR M a b M') (hI : StI M b) : StI M' a := by
  obtain ⟨h1, h2, h3, h4, h5⟩ := h
  refine ⟨fun j j0 j1 => ?_, fun j j0 j1 => ?_, fun j j0 j1 => ?_, fun j j0 j1 => ?_, fun j j0 j1 => ?_, ?_, ?_⟩
  · rw [(h1 j j0 j1).1]; exact hI.1 j j0 j1
  · rw [(h1 j j0 j1).2.1]; exact hI.2.1 j j0 j1
  · rw [(h1 j j0 j1).2.2.1]; exact hI.2.2.1 j j0 j1
  · rw [(h1 j j0 j1).2.2.2]; exact hI.2.2.2.1 j j0 j1
  · rw [h2 j j0 j1]; exact hI.2.2.2.2.1 j j0 j1
  · rw [h3]; exact hI.2.2.2.2.2.1
  · rw [h4]; exact hI.2.2.2.2.2.2
theorem BgR.sti {M M' : zM} {a t : Nat} (h : BgR M a t M') (hI : ToI M t) : StI M' a := by
  obtain ⟨h1, h2, h3, h4, h5⟩ := h
  refine ⟨fun j j0 j1 => ?_, fun j j0 j1 => ?_, fun j j0 j1 => ?_, fun j j0 j1 => ?_, fun j j0 j1 => ?_, ?_, ?_⟩
  · rw [(h1 j j0 j1).1]; split
    · exact hI.2.2.2.1 j j0 j1
    · omega
  · rw [(h1 j j0 j1).2.1]; split
    · exact hI.2.2.2.2.1 j j0 j1
    · omega
  · rw [(h1 j j0 j1).2.2.1]; omega
  · rw [(h1 j j0 j1).2.2.2]; omega
  · rw [h2 j j0 j1]; omega
  · rw [h3]; omega
  · rw [h4]; have := hI.2.2.2.2.2.2.2.2.2.2; omega
end ZCP
