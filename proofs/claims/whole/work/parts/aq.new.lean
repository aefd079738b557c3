section ZNW
/-- one cell more -/
theorem HR.push {G : zG} {lay : List zKd} {P : zP} {M : zM} {H H1 : Heap} {kd : zKd} (h : HR G lay P M H) (h4 : lay.length < 244) (z1 : H1.size = H.size + 1) (o1 : ∀ q : Nat, q < H.size → H1[q]? = H[q]?) (hc : va_at G.2.1 vwCl (G.1 lay.length, zE G P M lay.length kd) H1) (hz : zcan kd (M lay.length)) : HR G (lay ++ [kd]) P M H1 := by
  have h2 := h.1.1
  have h3 : H.size + 2 = G.2.2.2.1.size + lay.length := by rcases h.1.2.1 with q | q <;> omega
  refine ⟨⟨by rw [List.length_append]; simp; omega, Or.inl (by rw [List.length_append, z1]; simp; omega), fun q hq => (o1 q (by omega)).trans (h.1.2.2 q hq)⟩, fun k kq hk => ?_⟩
  rw [List.getElem?_append] at hk
  split at hk
  · exact ⟨(h.2 k kq hk).1.kept (o1 _ (h.2 k kq hk).1.lt), (h.2 k kq hk).2⟩
  · rename_i hlt
    have hk1 : k - lay.length < 1 := (List.getElem?_eq_some_iff.mp hk).1
    have e : k = lay.length := by omega
    subst e
    rw [Nat.sub_self] at hk
    cases hk
    exact ⟨Or.inl ⟨h2, hc⟩, hz⟩
theorem HR.next {G : zG} (hG : GK G) {lay : List zKd} {P : zP} {M : zM} {H : Heap} (h : HR G lay P M H) (h4 : lay.length < 244) : G.1 lay.length = H.size := by
  have h2 := h.1.1
  have h3 : H.size + 2 = G.2.2.2.1.size + lay.length := by rcases h.1.2.1 with q | q <;> omega
  obtain ⟨n, hn⟩ : ∃ n, lay.length = n + 2 := ⟨lay.length - 2, by omega⟩
  rw [hn, hG.1 n]
  omega
theorem zrng_0 (c : Nat) : zrng c 0 := by
  unfold zrng
  split
  · exact ⟨by decide, by decide⟩
  · exact Or.inl rfl
  · exact ⟨by decide, by decide⟩
  · trivial
theorem zcan_0 {kd : zKd} {f : Int → Int} (h : ∀ i, f i = 0) : zcan kd f := by
  unfold zcan
  split
  · intro i _ _; rw [h]; exact zrng_0 _
  · intro j c _; rw [h]; exact zrng_0 _
theorem zV_0 (ad : Nat → Nat) (c : Nat) : zV ad c 0 none = zV (fun x => x) c 0 none := by
  unfold zV
  split <;> rfl
/-- what 'new' links -/
def NW (own : String) (idx ci : Nat) (C : String) (T : u_T) (N : Nat) : Prop := CL ci C T N ∧ Cond.classLink own idx C ∈ zt ∧ Cond.instantiable C N ∈ zt ∧ Cond.initialized C ∈ zt ∧ (zft ci).length = N ∧ ∀ j, j < N → (parseFieldDescriptor (T j).2.2.1).map defaultValue = some (zV (fun x => x) ((zft ci).getD j 0) 0 none)
/-- what a constructor's call links -/
def MI (own : String) (idx : Nat) (y : MethodName) (md2 : zMd) (nA : Nat) : Prop := (y.cls ≠ "java/lang/invoke/MethodHandle" ∧ y.cls ≠ "java/lang/invoke/VarHandle" ∧ (parseMethodDescriptor y.desc).map (fun d => d.parameters.length) = some nA) ∧ md2.2.2.2.2.1 = none ∧ y.name = "<init>" ∧ Cond.methodLink own idx y ∈ zt ∧ Cond.instanceMethod y ∈ zt ∧ Cond.initialized y.cls ∈ zt ∧ Cond.code y md2.2.2.1 md2.2.2.2.1 md2.2.2.2.2.1 ∈ zt
def MIN (own : String) (idx : Nat) (host : String) (y : MethodName) (md2 : zMd) (nA : Nat) : Prop := (y.cls ≠ "java/lang/invoke/MethodHandle" ∧ y.cls ≠ "java/lang/invoke/VarHandle" ∧ (parseMethodDescriptor y.desc).map (fun d => d.parameters.length) = some nA) ∧ md2.2.2.2.2.1 = none ∧ y.name = "<init>" ∧ Cond.methodLinkNest own idx y host ∈ zNest ∧ Cond.instanceMethod y ∈ zt ∧ Cond.initialized y.cls ∈ zt ∧ Cond.code y md2.2.2.1 md2.2.2.2.1 md2.2.2.2.2.1 ∈ zt
section ZNWa
variable {G : zG} {l : Launch} {md : zMd} {Z : zZ} {pc : Nat} {ls : List (Option av)} {st : List av} {lay : List zKd} {P : zP} {M : zM} {k n : Nat}
theorem a_new {idx ci n9 N : Nat} {C : String} {T : u_T} {lay' : List zKd} (d : decode md.2.2.1 pc = .ok (.new idx, 3)) (hn : NW md.1 idx ci C T N) (hl9 : lay.length = n9) (h44 : n9 < 244) (hM : ∀ i, M n9 i = 0) (hP : ∀ i, P n9 i = none) (hy : lay ++ [.inr ci] = lay') (hkn : k + 1 ≤ md.2.2.2.2.2.cells ∧ n + N ≤ md.2.2.2.2.2.slots) (kk : AW G l md Z (pc + 3) ls (aR n9 :: st) lay' P M (k + 1) (n + N)) : AW G l md Z (pc) ls (st) lay P M (k) (n) := by
  intro hG p e s m args below meth c H locs lsA hC hl hH hS
  obtain ⟨⟨hcl, hin9, ⟨ty0, hty⟩, hnm⟩, w1, w2, w3, hlen, hdf⟩ := hn
  subst hy
  subst hl9
  have hts := hC.2.2.2.2.2.2.1
  have hK := hC.2.2.2.2.2.2.2.1.1
  have hKn := hK.1 ci _ hcl
  have hsz := hH.next hG h44
  refine W.newcK (own := md.1) (C := C) hC.1 hC.2.1 hC.2.2.2.2.2.1 (hts _ w1) (hts _ w2) (hts _ w3) rfl d hkn.1 hkn.2 hKn.2.1 rfl fun H1 kC hkC e1 z1 o1 => ?_
  have h := kk hG p e s m args below meth c H1 locs lsA hC hl (hH.push h44 z1 o1 ?_ (zcan_0 hM)) hS
  · rw [List.map_cons, cv_R, hsz] at h
    exact h
  · rw [hsz]
    refine ⟨_, hcl, (u_born ty0 hts hin9 hKn hkC e1 hty).to (fun j hj => ?_)⟩
    have hj' : j < N := hj
    have h1 := hdf j hj'
    rw [hty j hj', Option.map_some] at h1
    rw [Option.some.inj h1]
    have h2 : (zft ci)[j]? = some ((zft ci).getD j 0) := by
      rw [List.getD_eq_getElem?_getD, List.getElem?_eq_getElem (by omega)]
      rfl
    have h3 : (zF G P M lay.length ci).getD j .null = zV G.1 ((zft ci).getD j 0) 0 none := by
      rw [List.getD_eq_getElem?_getD (l := zF G P M lay.length ci), zF_at h2, hM, hP]
      rfl
    exact (h3.trans (zV_0 _ _)).symm
theorem a_newa {at9 : ArrayType} {t N n9 : Nat} {w : Int} {lay' : List zKd} (d : decode md.2.2.1 pc = .ok (.newarray at9, 2)) (hw : Cond.arrayClass (newarray.typeOf at9) ∈ zt) (ht : (t = 0 ∧ at9 = .int) ∨ (t = 1 ∧ at9 = .boolean) ∨ (t = 2 ∧ at9 = .long)) (hN : (N : Int) = w) (hN2 : N ≤ 100000) (hl9 : lay.length = n9) (h44 : n9 < 244) (hM : ∀ i, M n9 i = 0) (hP : ∀ i, P n9 i = none) (hy : lay ++ [.inl (t, N)] = lay') (hkn : k + 1 ≤ md.2.2.2.2.2.cells ∧ n + N ≤ md.2.2.2.2.2.slots) (kk : AW G l md Z (pc + 2) ls (aR n9 :: st) lay' P M (k + 1) (n + N)) : AW G l md Z (pc) ls (aI w :: st) lay P M (k) (n) := by
  intro hG p e s m args below meth c H locs lsA hC hl hH hS
  subst hy
  subst hl9
  subst hN
  have hts := hC.2.2.2.2.2.2.1
  have hK := hC.2.2.2.2.2.2.2.1.1
  have hsz := hH.next hG h44
  have hb4 : componentBytes (newarray.typeOf at9) ≤ 8 := by rcases ht with ⟨-, rfl⟩ | ⟨-, rfl⟩ | ⟨-, rfl⟩ <;> decide
  refine va_newaK (n := Int32.ofInt (N : Int)) (N := N) hC.1 hC.2.1 (hts _ hw) rfl d rfl ?_ (zcl (by omega)) (Nat.le_trans (Nat.mul_le_mul hN2 hb4) (by decide)) hkn.1 hkn.2 rfl fun H1 cA e1 z1 o1 hAr hNm => ?_
  · rw [Int32.lt_iff_toInt_lt, z32 ⟨by omega, by omega⟩]
    simp
  have h := kk hG p e s m args below meth c H1 locs lsA hC hl (hH.push h44 z1 o1 ?_ (zcan_0 hM)) hS
  · rw [List.map_cons, cv_R, hsz] at h
    exact h
  · rw [hsz]
    show H1[H.size]? = some (vp_cell _ _)
    rw [e1]
    rcases ht with ⟨rfl, rfl⟩ | ⟨rfl, rfl⟩ | ⟨rfl, rfl⟩
    · have e9 : cA = G.2.2.1 0 := Option.some.inj (hNm.symm.trans (hK.2 0 _ rfl).2)
      rw [e9]
      show some (arrV _ _ _) = some (arrV _ _ (fun j => .int (Int32.ofInt (M lay.length (j : Int)))))
      congr 2
      funext j
      rw [hM]
      rfl
    · have e9 : cA = G.2.2.1 1 := Option.some.inj (hNm.symm.trans (hK.2 1 _ rfl).2)
      rw [e9]
      show some (arrV _ _ _) = some (arrV _ _ (fun j => .int (Int32.ofInt (M lay.length (j : Int)))))
      congr 2
      funext j
      rw [hM]
      rfl
    · have e9 : cA = G.2.2.1 2 := Option.some.inj (hNm.symm.trans (hK.2 2 _ rfl).2)
      rw [e9]
      show some (arrV _ _ _) = some (arrV _ _ (fun j => .long (Int64.ofInt (M lay.length (j : Int)))))
      congr 2
      funext j
      rw [hM]
      rfl
theorem a_anewa {idx t N n9 : Nat} {w : Int} {C : String} {lay' : List zKd} (d : decode md.2.2.1 pc = .ok (.anewarray idx, 3)) (hw : Cond.classLink md.1 idx C ∈ zt) (ht : (t = 3 ∧ C = "StaticDial$Law") ∨ (t = 4 ∧ C = "StaticDial$State")) (hN : (N : Int) = w) (hN2 : N ≤ 100000) (hl9 : lay.length = n9) (h44 : n9 < 244) (hM : ∀ i, M n9 i = 0) (hP : ∀ i, P n9 i = none) (hy : lay ++ [.inl (t, N)] = lay') (hkn : k + 1 ≤ md.2.2.2.2.2.cells ∧ n + N ≤ md.2.2.2.2.2.slots) (kk : AW G l md Z (pc + 3) ls (aR n9 :: st) lay' P M (k + 1) (n + N)) : AW G l md Z (pc) ls (aI w :: st) lay P M (k) (n) := by
  intro hG p e s m args below meth c H locs lsA hC hl hH hS
  subst hy
  subst hl9
  subst hN
  have hts := hC.2.2.2.2.2.2.1
  have hKK := hC.2.2.2.2.2.2.2.1
  have hK := hKK.1
  have hsz := hH.next hG h44
  have hAO : va_AO C s := by
    rcases ht with ⟨-, rfl⟩ | ⟨-, rfl⟩
    · exact hKK.2.2.1.1.1
    · exact hKK.2.2.1.2
  have hcl9 : (Int32.ofInt (N : Int)).toNatClampNeg = N := zcl (by omega)
  refine W.anew (n := Int32.ofInt (N : Int)) hC.1 hC.2.1 hC.2.2.2.2.2.1 (hts _ hw) (va_AO.use hAO) rfl d rfl ?_ (by rw [hcl9]; omega) hkn.1 (by rw [hcl9]; exact hkn.2) fun cA kA comp f1 f2 f3 f4 => ?_
  · rw [Int32.lt_iff_toInt_lt, z32 ⟨by omega, by omega⟩]
    simp
  rw [hcl9]
  generalize hH1 : H.push ({ cls := cA, slots := Array.replicate N .null, vm := .none } : Cell) = H1
  have z1 : H1.size = H.size + 1 := by rw [← hH1, Array.size_push]
  have e1 : H1[H.size]? = some (arrV cA N (fun _ => .null)) := by rw [← hH1, Array.getElem?_push_size, ← arrV_new]
  have o1 : ∀ q : Nat, q < H.size → H1[q]? = H[q]? := fun q hq => by rw [← hH1, Array.getElem?_push, if_neg (Nat.ne_of_lt hq)]
  have h := kk hG p e s m args below meth c H1 locs lsA hC hl (hH.push h44 z1 o1 ?_ (zcan_0 hM)) hS
  · rw [List.map_cons, cv_R, hsz] at h
    exact h
  · rw [hsz]
    show H1[H.size]? = some (vp_cell _ _)
    rw [e1]
    rcases ht with ⟨rfl, rfl⟩ | ⟨rfl, rfl⟩
    · obtain ⟨kB, cB, b1, b2, b3, b4⟩ := (hK.2 3 _ rfl).2
      have e9 : cA = G.2.2.1 3 := Option.some.inj (f1.symm.trans b4)
      rw [e9]
      show some (arrV _ _ _) = some (arrV _ _ (fun j => va_rf ((P lay.length (j : Int)).map G.1)))
      congr 2
      funext j
      rw [hP]
      rfl
    · obtain ⟨kB, cB, b1, b2, b3, b4⟩ := (hK.2 4 _ rfl).2
      have e9 : cA = G.2.2.1 4 := Option.some.inj (f1.symm.trans b4)
      rw [e9]
      show some (arrV _ _ _) = some (arrV _ _ (fun j => va_rf ((P lay.length (j : Int)).map G.1)))
      congr 2
      funext j
      rw [hP]
      rfl
theorem a_aast {q N t y ci : Nat} {i : Int} (d : decode md.2.2.1 pc = .ok (.aastore, 1)) (hk : lay[q]? = some (.inl (t, N))) (hq : 2 ≤ q) (ht : (t = 3 ∧ ci = 1) ∨ (t = 4 ∧ ci = 5)) (hN : N < 2147483648) (h0 : 0 ≤ i) (h1 : i < N) (hv : lay[y]? = some (.inr ci)) (kk : AW G l md Z (pc + 1) ls (st) lay (sp P q i (some y)) M (k) (n)) : AW G l md Z (pc) ls (aR y :: aI i :: aR q :: st) lay P M (k) (n) := by
  intro hG p e s m args below meth c H locs lsA hC hl hH hS
  have hc := hH.ar hq hk
  have hK := hC.2.2.2.2.2.2.2.1.1
  obtain ⟨hi, he⟩ := zI1 h0 h1 hN
  obtain ⟨r, hr, cellV, g1, g2, g3, -⟩ := hH.ob hv
  have hcls := (hK.1 ci r hr).2
  obtain ⟨kC, hkC, -⟩ := hcls.2
  have hf : zAc G P M q t = .inr (.inr (.inr (.inr (fun j => (P q (j : Int)).map G.1)))) := by rcases ht with ⟨rfl, -⟩ | ⟨rfl, -⟩ <;> rfl
  have hf2 : zAc G (sp P q i (some y)) M q t = .inr (.inr (.inr (.inr (fun j => (sp P q i (some y) q (j : Int)).map G.1)))) := by rcases ht with ⟨rfl, -⟩ | ⟨rfl, -⟩ <;> rfl
  have hcell : H[G.1 q]? = some (arrV (G.2.2.1 t) N (fun j => va_rf ((P q (j : Int)).map G.1))) := by
    have h9 : H[G.1 q]? = some (vp_cell (G.2.2.1 t) (N, zAc G P M q t)) := hc
    rw [hf] at h9
    exact h9
  obtain ⟨kA, comp, k1, k2, k3⟩ : ∃ (kA : Class) (comp : ClassId), s.vm.classes[G.2.2.1 t]? = some kA ∧ kA.kind = .array comp (zty t) ∧ s.vm.findClass r.1 = some comp := by
    rcases ht with ⟨rfl, rfl⟩ | ⟨rfl, rfl⟩
    · obtain ⟨kB, cB, b1, b2, b3, b4⟩ := (hK.2 3 _ rfl).2
      cases hr
      exact ⟨kB, cB, b1, b2, b3⟩
    · obtain ⟨kB, cB, b1, b2, b3, b4⟩ := (hK.2 4 _ rfl).2
      cases hr
      exact ⟨kB, cB, b1, b2, b3⟩
  have hcomp : comp = G.2.1.1 ci := Option.some.inj (k3.symm.trans hcls.1)
  subst hcomp
  refine W.aast hC.1 hC.2.1 hcell (fun q h => by cases h) (fun h => by cases h) k1 k2 (by rcases ht with ⟨rfl, -⟩ | ⟨rfl, -⟩ <;> rfl) hkC ⟨fun z => hi (Or.inl z), by show _ < (arrV _ _ _).slots.size; rw [arrV_size]; exact Nat.not_le.mp fun z => hi (Or.inr z)⟩ g1 (fun q h => by rw [g3] at h; cases h) (by rw [g2]; exact hkC) (by rw [g2]; exact va_assign hcls) rfl rfl d fun H1 e1 z oq => ?_
  refine kk hG p e s m args below meth c H1 _ lsA hC hl (hH.one hG hq hk ⟨?_, (hH.2 q _ hk).2⟩ z oq (fun q' hq' => sp_n hq') (fun _ _ => rfl)) (zlo_add hS (gk_A hG hq))
  show H1[G.1 q]? = some (vp_cell (G.2.2.1 t) (N, zAc G (sp P q i (some y)) M q t))
  rw [e1, hf2, vp_cell_q, arrV_store]
  congr 2
  funext j
  unfold updV
  by_cases hj : j = (Int32.ofInt i).toNatClampNeg
  · rw [if_pos hj, hj, he]
    simp [sp, va_rf]
  · rw [if_neg hj]
    have h9 : ¬ ((j : Int) = i) := fun z2 => hj (by omega)
    simp [sp, h9]
theorem a_objI {idx q : Nat} (d : decode md.2.2.1 pc = .ok (.invokespecial idx, 3)) (hw : Cond.methodLink md.1 idx Lib.objectInit ∈ zt ∧ Cond.instanceMethod Lib.objectInit ∈ zt ∧ Cond.code Lib.objectInit ⟨#[0xb1]⟩ 1 none ∈ zt) (hcat : (st.map zcat1).sum ≤ 8) (hR : 1 ≤ md.2.2.2.2.2.frames ∧ 20 ≤ md.2.2.2.2.2.locals) (kk : AW G l md Z (pc + 3) ls (st) lay P M (k) (n)) : AW G l md Z (pc) ls (aR q :: st) lay P M (k) (n) := by
  intro hG p e s m args below meth c H locs lsA hC hl hH hS
  have h := kk hG p e s m args below meth c H locs lsA hC hl hH hS
  have hts := hC.2.2.2.2.2.2.1
  have hz := zroom (G := G) (m := m) (pc := pc) (lsA := lsA) (x := (aR q :: st).map (cv G.1)) hcat
  exact W.objInit hC.1 hC.2.1 hC.2.2.2.2.2.1 (hts _ hw.1) (hts _ hw.2.1) (hts _ hw.2.2) rfl (zml hC hl).symm (a := G.1 q) (rest := st.map (cv G.1)) rfl d hR.1 (by omega) h
theorem a_invI {y : MethodName} {md2 : zMd} {idx nA : Nat} {C : String} {as : List av} {st0 : List av} {q : Nat} {Z2 : zZ} (d : decode md.2.2.1 pc = .ok (.invokespecial idx, 3)) (hm : MI md.1 idx y md2 nA) (hR : RM md md2) (hn : as.length = nA) (hst : as.reverse ++ aR q :: st = st0) (hcat : (st.map zcat1).sum ≤ 8) (hroom : k + md2.2.2.2.2.2.cells ≤ md.2.2.2.2.2.cells ∧ n + md2.2.2.2.2.2.slots ≤ md.2.2.2.2.2.slots) (hM : AM G l y md2 (aR q :: as) lay P M Z2)
    (kk : ∀ (r : Option av) (lay' : List zKd) (P' : zP) (M' : zM), Z2 r lay' P' M' → AW G l md Z (pc + 3) ls (r.toList ++ st) lay' P' M' (k + md2.2.2.2.2.2.cells) (n + md2.2.2.2.2.2.slots)) : AW G l md Z (pc) ls (st0) lay P M (k) (n) := by
  intro hG p e s m args below meth c H locs lsA hC hl hH hS
  subst hst
  have hts := hC.2.2.2.2.2.2.1
  have hr := va_runI (p := p) (l := l) (e := e) (R := md.2.2.2.2.2) (below := below) (meth := meth) (H := H) (locs := locs) (cells := k) (slots := n) (g := F0 m pc lsA ((as.reverse ++ aR q :: st).map (cv G.1))) (rest := st.map (cv G.1)) (b := G.1 q) (As := as.map (cv G.1)) (n := nA) ⟨hC.1, hC.2.1, hC.2.2.1, hC.2.2.2.2.2.1, hts⟩ (hM hG)
    (cwI nA hts (zgoodc hm.2.2.2.2.2.2) (by rw [hm.2.1]) rfl rfl (hts _ hm.2.2.2.2.2.1) (hts _ hm.2.2.2.1) (hts _ hm.2.2.2.2.1) hm.2.2.1 hm.1 hR)
    ⟨zblind hG, fun U hU hW => ⟨rfl, by rw [hU]; exact hH, KK.warm hG hW hC.2.2.2.2.2.2.2.1⟩⟩ rfl (by rw [List.length_map]; exact hn) hl.1 (by simp [cv_R]) (zroom hcat) d hroom
  intro T0 hT X
  obtain ⟨v, st₀, t, T', L, h0, X', hL, e1, e2, ⟨r, lay', P', M', hv, hz, hHt⟩, go⟩ := hr T0 hT X
  have hv' : v = r.map (cv G.1) := by cases hv; rfl
  subst hv'
  have h := kk r lay' P' M' hz hG p e s m args below meth c T'.heap (locs ++ L) lsA hC hl (by rw [e1]; exact hHt) (fun q hq => by
    rcases List.mem_append.mp hq with h | h
    · exact hS q h
    · exact hL q h)
  obtain ⟨t2, a1, b1⟩ := h T' rfl X'
  refine ⟨t2, go t2 ?_, b1⟩
  have e9 : ((r.toList ++ st).map (cv G.1)) = (r.map (cv G.1)).toList ++ st.map (cv G.1) := by cases r <;> simp
  rw [e9] at a1
  exact a1
theorem a_invIN {y : MethodName} {md2 : zMd} {idx nA : Nat} {C : String} {as : List av} {st0 : List av} {q : Nat} {Z2 : zZ} (d : decode md.2.2.1 pc = .ok (.invokespecial idx, 3)) (hm : MIN md.1 idx C y md2 nA) (hR : RM md md2) (hn : as.length = nA) (hst : as.reverse ++ aR q :: st = st0) (hcat : (st.map zcat1).sum ≤ 8) (hroom : k + md2.2.2.2.2.2.cells ≤ md.2.2.2.2.2.cells ∧ n + md2.2.2.2.2.2.slots ≤ md.2.2.2.2.2.slots) (hM : AM G l y md2 (aR q :: as) lay P M Z2)
    (kk : ∀ (r : Option av) (lay' : List zKd) (P' : zP) (M' : zM), Z2 r lay' P' M' → AW G l md Z (pc + 3) ls (r.toList ++ st) lay' P' M' (k + md2.2.2.2.2.2.cells) (n + md2.2.2.2.2.2.slots)) : AW G l md Z (pc) ls (st0) lay P M (k) (n) := by
  intro hG p e s m args below meth c H locs lsA hC hl hH hS
  subst hst
  have hts := hC.2.2.2.2.2.2.1
  have hr := va_runIN (p := p) (l := l) (e := e) (R := md.2.2.2.2.2) (below := below) (meth := meth) (H := H) (locs := locs) (cells := k) (slots := n) (g := F0 m pc lsA ((as.reverse ++ aR q :: st).map (cv G.1))) (rest := st.map (cv G.1)) (b := G.1 q) (As := as.map (cv G.1)) (n := nA) ⟨hC.1, hC.2.1, hC.2.2.1, hC.2.2.2.2.2.1, hts⟩ (hM hG)
    ⟨va_cnB nA hts (zgoodc hm.2.2.2.2.2.2) (by rw [hm.2.1]) rfl rfl (hC.2.2.2.2.2.2.2.1.2.1 _ hm.2.2.2.1) (hts _ hm.2.2.2.2.2.1) hm.1 hR, hm.2.2.1, hts _ hm.2.2.2.2.1⟩
    ⟨zblind hG, fun U hU hW => ⟨rfl, by rw [hU]; exact hH, KK.warm hG hW hC.2.2.2.2.2.2.2.1⟩⟩ rfl (by rw [List.length_map]; exact hn) hl.1 (by simp [cv_R]) (zroom hcat) d hroom
  intro T0 hT X
  obtain ⟨v, st₀, t, T', L, h0, X', hL, e1, e2, ⟨r, lay', P', M', hv, hz, hHt⟩, go⟩ := hr T0 hT X
  have hv' : v = r.map (cv G.1) := by cases hv; rfl
  subst hv'
  have h := kk r lay' P' M' hz hG p e s m args below meth c T'.heap (locs ++ L) lsA hC hl (by rw [e1]; exact hHt) (fun q hq => by
    rcases List.mem_append.mp hq with h | h
    · exact hS q h
    · exact hL q h)
  obtain ⟨t2, a1, b1⟩ := h T' rfl X'
  refine ⟨t2, go t2 ?_, b1⟩
  have e9 : ((r.toList ++ st).map (cv G.1)) = (r.map (cv G.1)).toList ++ st.map (cv G.1) := by cases r <;> simp
  rw [e9] at a1
  exact a1
end ZNWa
end ZNW
