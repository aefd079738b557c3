section ZHY
/-- as AQ, for one code (whose table is known) -/
def AC (c : Code) (G : zG) (l : Launch) (md : zMd) (Q : zQQ) (pc : Nat) (ls : List (Option av)) (st : List av) (lay : List zKd) (P : zP) (M : zM) (k n : Nat) : Prop :=
  GK G → ∀ (p : Program) (e : Env) (s : State) (m : MethodId) (args : Array Value) (below : List Frame) (meth : Method) (H : Heap) (locs : List Loc) (lsA : Array Slot),
    Cx G md p s m args meth c → lv_has lsA md.2.2.2.1 (zp G.1 ls) → HR G lay P M H → (∀ q ∈ locs, zA G q.base) →
    W p l e md.2.2.2.2.2 s m args below meth c H locs k n (Q below s args) (F0 m pc lsA (st.map (cv G.1)))
section ZHYa
variable {c : Code} {G : zG} {l : Launch} {md : zMd} {Z : zQQ} {pc : Nat} {ls : List (Option av)} {st : List av} {lay : List zKd} {P : zP} {M : zM} {k n : Nat}
theorem AQ.fx (h : AQ G l md Z pc ls st lay P M k n) (c : Code) : AC c G l md Z pc ls st lay P M k n := fun hG p e s m args below meth => h hG p e s m args below meth c
theorem y_iconst {v : Int} (d : decode md.2.2.1 pc = .ok (.iconst v, 1))  (kk : AC c G l md Z (pc + 1) ls (aI v :: st) lay P M (k) (n)) : AC c G l md Z (pc) ls (st) lay P M (k) (n) := by
  intro hG p e s m args below meth H locs lsA hC hl hH hS
  have h := kk hG p e s m args below meth H locs lsA hC hl hH hS
  exact lv_iconst hC.1 hC.2.1 d rfl h
theorem y_iloadn {i : Fin 4} {x : Int} (d : decode md.2.2.1 pc = .ok (.iload_n i, 1)) (hv : ls[(i : Nat)]? = some (some (aI x))) (kk : AC c G l md Z (pc + 1) ls (aI x :: st) lay P M (k) (n)) : AC c G l md Z (pc) ls (st) lay P M (k) (n) := by
  intro hG p e s m args below meth H locs lsA hC hl hH hS
  have h := kk hG p e s m args below meth H locs lsA hC hl hH hS
  exact lv_iload_n hC.1 hC.2.1 d rfl (zl_at hl hv) h
theorem y_aloadn {i : Fin 4} {x : Nat} (d : decode md.2.2.1 pc = .ok (.aload_n i, 1)) (hv : ls[(i : Nat)]? = some (some (aR x))) (kk : AC c G l md Z (pc + 1) ls (aR x :: st) lay P M (k) (n)) : AC c G l md Z (pc) ls (st) lay P M (k) (n) := by
  intro hG p e s m args below meth H locs lsA hC hl hH hS
  have h := kk hG p e s m args below meth H locs lsA hC hl hH hS
  exact lv_aload_n hC.1 hC.2.1 d rfl (zl_at hl hv) h
theorem y_if_ne {x : Int} {off : Int} {tgt : Nat} (d : decode md.2.2.1 pc = .ok (.ifCond .ne off, 3)) (ht : (pc : Int) + off = (tgt : Int)) (hx : inR x) (kt : x ≠ 0 → AC c G l md Z (tgt) ls (st) lay P M (k) (n)) (kf : x = 0 → AC c G l md Z (pc + 3) ls (st) lay P M (k) (n)) : AC c G l md Z (pc) ls (aI x :: st) lay P M (k) (n) := by
  intro hG p e s m args below meth H locs lsA hC hl hH hS
  exact lv_if_ne hC.1 hC.2.1 d ht (fun q => kt (fun z => q (by rw [z]; exact z0)) hG p e s m args below meth H locs lsA hC hl hH hS) (fun q => kf ((zeq hx r0).mp (q.trans z0.symm)) hG p e s m args below meth H locs lsA hC hl hH hS)
theorem y_tabOut {dflt lo hi : Int} {offs : Array Int} {len : Nat} {x : Int} {tgt : Nat} (d : decode md.2.2.1 pc = .ok (.tableswitch dflt lo hi offs, len)) (hx : inR x) (h1 : x < lo ∨ hi < x) (ht : (pc : Int) + dflt = (tgt : Int)) (kk : AC c G l md Z (tgt) ls (st) lay P M (k) (n)) : AC c G l md Z (pc) ls (aI x :: st) lay P M (k) (n) := by
  intro hG p e s m args below meth H locs lsA hC hl hH hS
  have h := kk hG p e s m args below meth H locs lsA hC hl hH hS
  exact lv_tableOut hC.1 hC.2.1 d (by rw [z32 hx]; exact h1) ht h
theorem y_invV {y : MethodName} {md2 : zMd} {idx nA : Nat} {C : String} {as : List av} {st0 : List av} {q ci : Nat} {T : u_T} {N : Nat} {Z2 : zZ} (d : decode md.2.2.1 pc = .ok (.invokevirtual idx, 3)) (hm : MV md.1 idx C y md2 nA) (hR : RM md md2) (hk : lay[q]? = some (.inr ci)) (hc : vwCl[ci]? = some (C, T, N)) (hn : as.length = nA) (hst : as.reverse ++ aR q :: st = st0) (hcat : (st.map zcat1).sum ≤ 8) (hroom : k + md2.2.2.2.2.2.cells ≤ md.2.2.2.2.2.cells ∧ n + md2.2.2.2.2.2.slots ≤ md.2.2.2.2.2.slots) (hM : AM G l y md2 (aR q :: as) lay P M Z2)
    (kk : ∀ (r : Option av) (lay' : List zKd) (P' : zP) (M' : zM), Z2 r lay' P' M' → AC c G l md Z (pc + 3) ls (r.toList ++ st) lay' P' M' (k + md2.2.2.2.2.2.cells) (n + md2.2.2.2.2.2.slots)) : AC c G l md Z (pc) ls (st0) lay P M (k) (n) := by
  intro hG p e s m args below meth H locs lsA hC hl hH hS
  subst hst
  have hts := hC.2.2.2.2.2.2.1
  have hr := va_runV (p := p) (l := l) (e := e) (R := md.2.2.2.2.2) (below := below) (meth := meth) (locs := locs) (cells := k) (slots := n) (g := F0 m pc lsA ((as.reverse ++ aR q :: st).map (cv G.1))) (rest := st.map (cv G.1)) (b := G.1 q) (As := as.map (cv G.1)) (n := nA) ⟨hC.1, hC.2.1, hC.2.2.1, hC.2.2.2.2.2.1, hts⟩ (hM hG)
    (cwV nA hts (fun w hw => by
      rcases List.mem_append.mp hw with hw | hw
      · simp only [List.mem_cons, List.not_mem_nil, or_false] at hw
        rcases hw with rfl | rfl | rfl | rfl
        · exact zgood _ hm.2.2.2.2.1
        · exact zgood _ hm.2.2.2.2.2.1
        · exact zgood _ hm.2.2.2.2.2.2.1
        · exact zgood _ hm.2.2.2.2.2.2.2.1
      · exact zgoodc hm.2.2.2.2.2.2.2.2 w hw) rfl rfl rfl ⟨hm.1, hm.2.1, hm.2.2.1, hm.2.2.2.1⟩ hR)
    ⟨zblind hG, va_recv (ws := [(G.1 q, zE G P M q (.inr ci))]) (q0 := 0) hC.2.2.2.2.2.2.2.1.1 (fun i x hx => by
      cases i with
      | zero => cases hx; exact (hH.ob hk)
      | succ i => cases hx) hc rfl, fun U hU hW => ⟨rfl, by rw [hU]; exact hH, KK.warm hG hW hC.2.2.2.2.2.2.2.1⟩⟩ rfl (by rw [List.length_map]; exact hn) hl.1 (by simp [cv_R]) (zroom hcat) d hroom
  intro T0 hT X
  obtain ⟨v, st₀, t, T', L, h0, X', hL, e1, e2, ⟨r, lay', P', M', hv, hz, hHt⟩, go⟩ := hr T0 hT X
  have hv' : v = r.map (cv G.1) := by cases hv; rfl
  subst hv'
  have h := kk r lay' P' M' hz hG p e s m args below meth T'.heap (locs ++ L) lsA hC hl (by rw [e1]; exact hHt) (fun q hq => by
    rcases List.mem_append.mp hq with h | h
    · exact hS q h
    · exact hL q h)
  obtain ⟨t2, a1, b1⟩ := h T' rfl X'
  refine ⟨t2, go t2 ?_, b1⟩
  have e9 : ((r.toList ++ st).map (cv G.1)) = (r.map (cv G.1)).toList ++ st.map (cv G.1) := by cases r <;> simp
  rw [e9] at a1
  exact a1
/-- a virtual call of a method that returns or throws -/
theorem y_invVX {y : MethodName} {md2 : zMd} {idx nA : Nat} {C : String} {as : List av} {st0 : List av} {q ci : Nat} {T : u_T} {N : Nat} {Z2 : zZ} {XC : String → State → State → Prop} (d : decode md.2.2.1 pc = .ok (.invokevirtual idx, 3)) (hm : MV md.1 idx C y md2 nA) (hR : RM md md2) (hk : lay[q]? = some (.inr ci)) (hc : vwCl[ci]? = some (C, T, N)) (hn : as.length = nA) (hst : as.reverse ++ aR q :: st = st0) (hcat : (st.map zcat1).sum ≤ 8) (hroom : k + md2.2.2.2.2.2.cells ≤ md.2.2.2.2.2.cells ∧ n + md2.2.2.2.2.2.slots ≤ md.2.2.2.2.2.slots)
    (hM : GK G → vx_Met l y (.code y md2.2.2.1 md2.2.2.2.1 md2.2.2.2.2.1 :: zt) md2.2.2.2.2.2 (fun v U => v = ((aR q :: as).map (cv G.1)).toArray ∧ HR G lay P M U.heap ∧ KK G U) (zQ G Z2) XC md2.2.2.2.2.2.cells md2.2.2.2.2.2.slots (zA G))
    (kk : ∀ (r : Option av) (lay' : List zKd) (P' : zP) (M' : zM), Z2 r lay' P' M' → AC c G l md Z (pc + 3) ls (r.toList ++ st) lay' P' M' (k + md2.2.2.2.2.2.cells) (n + md2.2.2.2.2.2.slots))
    (kx : GK G → ∀ (p : Program) (e : Env) (s : State) (m : MethodId) (args : Array Value) (below : List Frame) (meth : Method) (locs : List Loc) (lsA : Array Slot) (E : String) (ce : Cell) (qa : Addr) (s0 t : State), Cx G md p s m args meth c → lv_has lsA md.2.2.2.1 (zp G.1 ls) → (∀ q ∈ locs, zA G q.base) → XC E s0 t → t.heap[qa]? = some ce → ce.vm = .none → s.vm.findClass E = some ce.cls → vx_W p l e md.2.2.2.2.2 s m args below meth c t.heap locs (k + md2.2.2.2.2.2.cells) (n + md2.2.2.2.2.2.slots) (Z below s args) (F0 m pc lsA (st.map (cv G.1))) qa) : AC c G l md Z (pc) ls (st0) lay P M (k) (n) := by
  intro hG p e s m args below meth H locs lsA hC hl hH hS
  subst hst
  have hts := hC.2.2.2.2.2.2.1
  have hr := vx_runV (p := p) (l := l) (e := e) (R := md.2.2.2.2.2) (below := below) (meth := meth) (locs := locs) (cells := k) (slots := n) (g := F0 m pc lsA ((as.reverse ++ aR q :: st).map (cv G.1))) (rest := st.map (cv G.1)) (b := G.1 q) (As := as.map (cv G.1)) (n := nA) ⟨hC.1, hC.2.1, hC.2.2.1, hC.2.2.2.2.2.1, hts⟩ (hM hG)
    (cwV nA hts (fun w hw => by
      rcases List.mem_append.mp hw with hw | hw
      · simp only [List.mem_cons, List.not_mem_nil, or_false] at hw
        rcases hw with rfl | rfl | rfl | rfl
        · exact zgood _ hm.2.2.2.2.1
        · exact zgood _ hm.2.2.2.2.2.1
        · exact zgood _ hm.2.2.2.2.2.2.1
        · exact zgood _ hm.2.2.2.2.2.2.2.1
      · exact zgoodc hm.2.2.2.2.2.2.2.2 w hw) rfl rfl rfl ⟨hm.1, hm.2.1, hm.2.2.1, hm.2.2.2.1⟩ hR)
    ⟨zblind hG, va_recv (ws := [(G.1 q, zE G P M q (.inr ci))]) (q0 := 0) hC.2.2.2.2.2.2.2.1.1 (fun i x hx => by
      cases i with
      | zero => cases hx; exact (hH.ob hk)
      | succ i => cases hx) hc rfl, fun U hU hW => ⟨rfl, by rw [hU]; exact hH, KK.warm hG hW hC.2.2.2.2.2.2.2.1⟩⟩ rfl (by rw [List.length_map]; exact hn) hl.1 (by simp [cv_R]) (zroom hcat) d hroom
  intro T0 hT X
  have hSL : ∀ {L : List Loc}, (∀ q ∈ L, zA G q.base) → ∀ q ∈ locs ++ L, zA G q.base := fun hL q hq => by
    rcases List.mem_append.mp hq with h | h
    · exact hS q h
    · exact hL q h
  rcases hr T0 hT X with ⟨v, st₀, t, T', L, h0, X', hL, e1, e2, ⟨r, lay', P', M', hv, hz, hHt⟩, go⟩ | ⟨qa, st₀, t, T', L, E, ce, h0, X', hL, e1, e2, hx, hce, hcv, hcl, go⟩
  · have hv' : v = r.map (cv G.1) := by cases hv; rfl
    subst hv'
    have h := kk r lay' P' M' hz hG p e s m args below meth T'.heap (locs ++ L) lsA hC hl (by rw [e1]; exact hHt) (hSL hL)
    obtain ⟨t2, a1, b1⟩ := h T' rfl X'
    refine ⟨t2, go t2 ?_, b1⟩
    have e9 : ((r.toList ++ st).map (cv G.1)) = (r.map (cv G.1)).toList ++ st.map (cv G.1) := by cases r <;> simp
    rw [e9] at a1
    exact a1
  · obtain ⟨t2, a1, b1⟩ := kx hG p e s m args below meth (locs ++ L) lsA E ce qa st₀ t hC hl (hSL hL) hx hce hcv hcl T' e1 X'
    exact ⟨t2, go.trans a1, b1⟩
end ZHYa
/-- what a static call of a method with a table links -/
def MSX (own : String) (idx : Nat) (y : MethodName) (md2 : zMd) (nA : Nat) (hh : List (Nat × Nat × Nat × Nat)) : Prop := y.cls = own ∧ y.cls ≠ "java/lang/invoke/MethodHandle" ∧ y.cls ≠ "java/lang/invoke/VarHandle" ∧ (parseMethodDescriptor y.desc).map (fun d => d.parameters.length) = some nA ∧
  Cond.methodLink own idx y ∈ zt ∧ Cond.static y ∈ zt ∧ Cond.initialized own ∈ zt ∧ Cond.codeWith y md2.2.2.1 md2.2.2.2.1 md2.2.2.2.2.1 hh ∈ zt
section ZHYb
variable {G : zG} {l : Launch} {md : zMd} {Z : zZ} {pc : Nat} {ls : List (Option av)} {st : List av} {lay : List zKd} {P : zP} {M : zM} {k n : Nat}
/-- a static call of a method with a table, which lets nothing out -/
theorem a_invSX {y : MethodName} {md2 : zMd} {idx nA : Nat} {as : List av} {st0 : List av} {Z2 : zZ} {hh : List (Nat × Nat × Nat × Nat)} (d : decode md.2.2.1 pc = .ok (.invokestatic idx, 3)) (hm : MSX md.1 idx y md2 nA hh) (hR : RM md md2) (hn : as.length = nA) (hst : as.reverse ++ st = st0) (hcat : (st.map zcat1).sum ≤ 8) (hroom : k + md2.2.2.2.2.2.cells ≤ md.2.2.2.2.2.cells ∧ n + md2.2.2.2.2.2.slots ≤ md.2.2.2.2.2.slots)
    (hM : GK G → vx_Met l y (.codeWith y md2.2.2.1 md2.2.2.2.1 md2.2.2.2.2.1 hh :: zt) md2.2.2.2.2.2 (fun v U => v = (as.map (cv G.1)).toArray ∧ HR G lay P M U.heap ∧ KK G U) (zQ G Z2) (fun _ _ _ => False) md2.2.2.2.2.2.cells md2.2.2.2.2.2.slots (zA G))
    (kk : ∀ (r : Option av) (lay' : List zKd) (P' : zP) (M' : zM), Z2 r lay' P' M' → AW G l md Z (pc + 3) ls (r.toList ++ st) lay' P' M' (k + md2.2.2.2.2.2.cells) (n + md2.2.2.2.2.2.slots)) : AW G l md Z (pc) ls (st0) lay P M (k) (n) := by
  intro hG p e s m args below meth c H locs lsA hC hl hH hS
  subst hst
  have hts := hC.2.2.2.2.2.2.1
  have hr := vx_runSX (p := p) (l := l) (e := e) (R := md.2.2.2.2.2) (below := below) (meth := meth) (H := H) (locs := locs) (cells := k) (slots := n) (g := F0 m pc lsA ((as.reverse ++ st).map (cv G.1))) (rest := st.map (cv G.1)) (As := as.map (cv G.1)) (n := nA) ⟨hC.1, hC.2.1, hC.2.2.1, hC.2.2.2.2.2.1, hts⟩ (hM hG)
    (vx_cwSW nA hts (fun w hw => by
      rcases List.mem_append.mp hw with hw | hw
      · simp only [List.mem_cons, List.not_mem_nil, or_false] at hw
        rcases hw with rfl | rfl | rfl
        · exact zgood _ hm.2.2.2.2.1
        · exact zgood _ hm.2.2.2.2.2.1
        · exact zgood _ (hm.1.symm ▸ hm.2.2.2.2.2.2.1)
      · rcases List.mem_cons.mp hw with rfl | hw
        · exact zgood _ hm.2.2.2.2.2.2.2
        · exact zgood _ hw) rfl rfl rfl ⟨hm.2.1, hm.2.2.1, hm.2.2.2.1⟩ hR)
    ⟨zblind hG, fun U hU hW => ⟨rfl, by rw [hU]; exact hH, KK.warm hG hW hC.2.2.2.2.2.2.2.1⟩⟩ rfl (by rw [List.length_map]; exact hn) hl.1 (by simp) (zroom hcat) d hroom
  intro T0 hT X
  rcases hr T0 hT X with ⟨v, st₀, t, T', L, h0, X', hL, e1, e2, ⟨r, lay', P', M', hv, hz, hHt⟩, go⟩ | ⟨qa, st₀, t, T', L, E, ce, h0, X', hL, e1, e2, hx, hce, hcv, hcl, go⟩
  · have hv' : v = r.map (cv G.1) := by cases hv; rfl
    subst hv'
    have h := kk r lay' P' M' hz hG p e s m args below meth c T'.heap (locs ++ L) lsA hC hl (by rw [e1]; exact hHt) (fun q hq => by
      rcases List.mem_append.mp hq with h | h
      · exact hS q h
      · exact hL q h)
    obtain ⟨t2, a1, b1⟩ := h T' rfl X'
    refine ⟨t2, go t2 ?_, b1⟩
    have e9 : ((r.toList ++ st).map (cv G.1)) = (r.map (cv G.1)).toList ++ st.map (cv G.1) := by cases r <;> simp
    rw [e9] at a1
    exact a1
  · exact False.elim hx
theorem AC.hls {ar : List av} {mL : Nat} {ls : List (Option av)} (hls : zent ar ++ List.replicate (mL - (zent ar).length) none = ls) (i : Nat) (v : av) (hv : ls[i]? = some (some v)) : (i, cv G.1 v) ∈ lv_args 0 (ar.map (cv G.1)) := by
  subst hls
  rw [List.getElem?_append] at hv
  split at hv
  · have := zent_ok G.1 ar 0 i v hv
    rwa [Nat.zero_add] at this
  · rw [List.getElem?_replicate] at hv
    split at hv
    · cases hv
    · cases hv
theorem AC.met {y : MethodName} {ar : List av} {XC : String → State → State → Prop} (hls : zent ar ++ List.replicate (md.2.2.2.1 - (zent ar).length) none = ls) (hlen : (zent ar).length ≤ md.2.2.2.1) (hy : plainName y.cls = true) (ho : y.cls = md.1) (hn : y.name = md.2.1)
    (h : ∀ c : Code, (∀ x ∈ c.exceptionTable.toList, False) → AC c G l md (fun below s args => vx_MQ below (zQ G Z) XC args s md.2.2.2.2.2.cells md.2.2.2.2.2.slots (zA G)) 0 ls [] lay P M 0 0) (hG : GK G) : vx_Met l y (.code y md.2.2.1 md.2.2.2.1 md.2.2.2.2.1 :: zt) md.2.2.2.2.2 (fun v U => v = (ar.map (cv G.1)).toArray ∧ HR G lay P M U.heap ∧ KK G U) (zQ G Z) XC md.2.2.2.2.2.cells md.2.2.2.2.2.slots (zA G) := by
  refine vx_ofW (cc := md.2.2.1) (maxL := md.2.2.2.1) (ret := md.2.2.2.2.1) hy rfl ?_
  intro p e s m args below meth c s₁ B hml ht hv
  obtain ⟨rfl, hH, hK⟩ := hv
  have hts := atoms_spec (ws := .code y md.2.2.1 md.2.2.2.1 md.2.2.2.2.1 :: zt) B.pre
  have hown : s.vm.findClass y.cls = some m.cls := findClass_of_methodNamed B.named
  have hl := lv_entry (ar.map (cv G.1)) (n := md.2.2.2.1) (by rw [zent_len]; exact hlen)
  rw [lg_entry_eq]
  exact h c ht hG p e s m _ below meth s.heap [] _ ⟨B.exec, B.bytes, hml, B.returns, B.notSynchronized, ho ▸ hown, fun w hw => hts w (List.mem_cons_of_mem _ hw), hK, (name_of_methodNamed B.named B.method).1.trans hn, hH.1.2.2⟩ (zl_sub hl (AC.hls hls)) hH (fun _ h => absurd h List.not_mem_nil)
theorem AC.metH {y : MethodName} {ar : List av} {XC : String → State → State → Prop} {hh : List (Nat × Nat × Nat × Nat)} (hls : zent ar ++ List.replicate (md.2.2.2.1 - (zent ar).length) none = ls) (hlen : (zent ar).length ≤ md.2.2.2.1) (hy : plainName y.cls = true) (ho : y.cls = md.1) (hn : y.name = md.2.1)
    (h : ∀ c : Code, c.exceptionTable.toList = tableOf hh → AC c G l md (fun below s args => vx_MQ below (zQ G Z) XC args s md.2.2.2.2.2.cells md.2.2.2.2.2.slots (zA G)) 0 ls [] lay P M 0 0) (hG : GK G) : vx_Met l y (.codeWith y md.2.2.1 md.2.2.2.1 md.2.2.2.2.1 hh :: zt) md.2.2.2.2.2 (fun v U => v = (ar.map (cv G.1)).toArray ∧ HR G lay P M U.heap ∧ KK G U) (zQ G Z) XC md.2.2.2.2.2.cells md.2.2.2.2.2.slots (zA G) := by
  refine vx_ofWH (cc := md.2.2.1) (maxL := md.2.2.2.1) (ret := md.2.2.2.2.1) (hh := hh) hy rfl ?_
  intro p e s m args below meth c s₁ B hml hv
  obtain ⟨rfl, hH, hK⟩ := hv
  have hts := atoms_spec (ws := .codeWith y md.2.2.1 md.2.2.2.1 md.2.2.2.2.1 hh :: zt) B.pre
  have hown : s.vm.findClass y.cls = some m.cls := findClass_of_methodNamed B.named
  have hl := lv_entry (ar.map (cv G.1)) (n := md.2.2.2.1) (by rw [zent_len]; exact hlen)
  rw [lg_entry_eq]
  exact h c (vx_table (x := y) B (hts _ List.mem_cons_self)) hG p e s m _ below meth s.heap [] _ ⟨B.exec, B.bytes, hml, B.returns, B.notSynchronized, ho ▸ hown, fun w hw => hts w (List.mem_cons_of_mem _ hw), hK, (name_of_methodNamed B.named B.method).1.trans hn, hH.1.2.2⟩ (zl_sub hl (AC.hls hls)) hH (fun _ h => absurd h List.not_mem_nil)
end ZHYb
/-- the layout stands in a heap that has grown beyond it -/
theorem HR.grow {G : zG} {lay : List zKd} {P : zP} {M : zM} {H H1 : Heap} (h : HR G lay P M H) (h4 : 244 ≤ lay.length) (hz : H.size ≤ H1.size) (hq : ∀ q : Nat, q < H.size → H1[q]? = H[q]?) : HR G lay P M H1 := by
  have h9 := h.1.2.1
  refine ⟨⟨h.1.1, Or.inr ⟨h4, by omega⟩, fun q hq9 => (hq q (by have := h.1.1; omega)).trans (h.1.2.2 q hq9)⟩, fun k kd hk => ⟨(h.2 k kd hk).1.kept (hq _ ?_), (h.2 k kd hk).2⟩⟩
  exact (h.2 k kd hk).1.lt
/-- what the throws want of every state -/
def XH (H0 : Heap) (U : State) : Prop := ((∃ sa, vk_R RX10 127 "no such house" sa U) ∧ ∃ sb, vk_R RX10 156 "no such what" sb U) ∧ (vx_Zq Bundle.tN "UNASSIGNED_STACK" Bundle.steD (fun q => H0.size ≤ q) U H0 ∧ vx_Zq Bundle.tN "SUPPRESSED_SENTINEL" Bundle.listD (fun q => H0.size ≤ q) U H0) ∧ va_Nc sNS sIO U ∧ ∀ w ∈ xw, va_Nw w U
theorem XH.warm {H0 : Heap} {s U : State} (hW : s.WarmedH U.vm) (h : XH H0 s) : XH H0 U := by
  obtain ⟨⟨⟨sa, ha⟩, sb, hb⟩, ⟨h1, h2⟩, h3, h4⟩ := h
  exact ⟨⟨⟨sa, vk_R.warm hW ha⟩, sb, vk_R.warm hW hb⟩, ⟨vx_Zq.moved hW.alike h1, vx_Zq.moved hW.alike h2⟩, va_Nc.moved hW.alike h3, xw_warm hW h4⟩
theorem XH.call {H0 : Heap} {U : State} {g : JFrame} {mk : MethodId} {a : Array Value} (h : XH H0 U) : XH H0 (U.calling g mk a) := by
  have hv : (U.calling g mk a).vm = U.vm := rfl
  have ha : U.vm.Alike (U.calling g mk a).vm := Vm.Alike.refl U.vm
  obtain ⟨⟨⟨sa, h1⟩, sb, h2⟩, ⟨h3, h4⟩, h5, h6⟩ := h
  exact ⟨⟨⟨sa, vk_R.same hv h1⟩, sb, vk_R.same hv h2⟩, ⟨vx_Zq.moved ha h3, vx_Zq.moved ha h4⟩, va_Nc.moved ha h5, fun w hw => va_Nw.same (xw_ot w hw) hv.symm (h6 w hw)⟩
def hsX (G : zG) (L : Nat) (P : zP) (M : zM) (t : Nat) (h w : Int) : String → State → State → Prop := fun E _ t2 => HR G (LAY L) P M t2.heap ∧ ((E = sIO ∧ ¬ (0 ≤ h ∧ h < M t 2)) ∨ (E = sNS ∧ (0 ≤ h ∧ h < M t 2) ∧ ¬ (0 ≤ w ∧ w ≤ 6)))
abbrev hsQ (G : zG) (L : Nat) (P : zP) (M : zM) (t : Nat) (h w : Int) : zQQ := fun below s args => vx_MQ below (zQ G (zany (LAY L) P (fun r M' => Cn t M M' ∧ (0 ≤ h ∧ h < M t 2) ∧ (0 ≤ w ∧ w ≤ 6) ∧ r = hsC9 M t w h))) (hsX G L P M t h w) args s 1 6 (zA G)
theorem hs_va {G : zG} {lay : List zKd} {P : zP} {M : zM} {p : Program} {s : State} {m : MethodId} {args : Array Value} {meth : Method} {c : Code} {md : zMd} {H : Heap} {locs : List Loc} (hC : Cx G md p s m args meth c) (hH : HR G lay P M H) (hS : ∀ q ∈ locs, zA G q.base) (hz : s.heap.size ≤ H.size) : va_S (zA G) s.heap H locs := by
  refine ⟨hz, fun q h1 h2 => ?_, hS⟩
  have h3 : q < G.2.2.2.1.size := Nat.not_le.mp h2
  rw [hH.1.2.2 q h3, hC.2.2.2.2.2.2.2.2.2 q h3]
set_option maxRecDepth 100000 in
theorem LAY_244 (L : Nat) : (LAY L).length = 244 := rfl
theorem hsX10_io {G : zG} {l : Launch} {L : Nat} {P : zP} {M : zM} {t : Nat} {h w : Int} {c : Code} {ls : List (Option av)} (hX : ∀ U, G.2.2.2.2 U → XH G.2.2.2.1 U) (hl : l.stackTraces = false) (ht : ∀ x ∈ c.exceptionTable.toList, False) (hb : ¬ (0 ≤ h ∧ h < M t 2)) : AC c G l mdX10h (hsQ G L P M t h w) 8 ls [] (LAY L) P M 0 0 := by
  intro hG p e s m args below meth H locs lsA hC hlv hH hS T hT X
  have hK := hC.2.2.2.2.2.2.2.1
  obtain ⟨⟨⟨sa, hsa⟩, -⟩, ⟨hU, hN⟩, -, hw9⟩ := hX s hK.2.2.2.2
  have hz : s.heap.size ≤ H.size := by rw [← hT]; exact (vx_frame (U := T) X.same).1
  have hkp : ∀ a : Nat, a < G.2.2.2.1.size → ¬ (zA G a) → s.heap[a]? = G.2.2.2.1[a]? := fun a ha _ => hC.2.2.2.2.2.2.2.2.2 a ha
  have hts : ∀ w, (w ∈ zt ∨ w ∈ xw) → w.before args s = true := fun w hw => hw.elim (hC.2.2.2.2.2.2.1 w) (fun h9 => va_Nw.use (xw_ot w h9) (hw9 w h9))
  refine xq_throw (cc := cX10_house) (A := zA G) (own := RX10) (cls := sIO) (text := "no such house") (names := ["java/lang/RuntimeException", "java/lang/Exception"]) (ik := 125) (is := 127) (ic := 129) (sa := sa) (rest := []) hC.1 hC.2.1 hl rx_io_0 rx_io_1 rx_io_2 rx_io_5 hC.2.2.2.2.2.1 (by decide) (by decide) (hts _ (at_io_t _ List.mem_cons_self)) (hts _ (at_io_t _ (List.mem_cons_of_mem _ List.mem_cons_self))) hsa (fun w hw => hts w (at_io_t w (List.mem_cons_of_mem _ (List.mem_cons_of_mem _ hw)))) (List.all_eq_true.mp at_io_g) (hU.kept hkp) (hN.kept hkp) (hs_va hC hH hS hz) (zml hC hlv).symm dX10_house_8 dX10_house_11 dX10_house_12 dX10_house_14 dX10_house_17 (fun x hx => (ht x hx).elim) (by decide) (by decide) (by decide) (by decide) hC.2.2.2.2.1 (fun t2 ha hz2 hq2 => ⟨hH.grow (by rw [LAY_244]; decide) hz2 hq2, Or.inl ⟨rfl, hb⟩⟩) hS (by decide) (by decide) T hT X
theorem hsX10_ns {G : zG} {l : Launch} {L : Nat} {P : zP} {M : zM} {t : Nat} {h w : Int} {c : Code} {ls : List (Option av)} (hX : ∀ U, G.2.2.2.2 U → XH G.2.2.2.1 U) (hl : l.stackTraces = false) (ht : ∀ x ∈ c.exceptionTable.toList, False) (hb : (0 ≤ h ∧ h < M t 2) ∧ ¬ (0 ≤ w ∧ w ≤ 6)) : AC c G l mdX10h (hsQ G L P M t h w) 135 ls [] (LAY L) P M 0 0 := by
  intro hG p e s m args below meth H locs lsA hC hlv hH hS T hT X
  have hK := hC.2.2.2.2.2.2.2.1
  obtain ⟨⟨-, sa, hsa⟩, ⟨hU, hN⟩, -, hw9⟩ := hX s hK.2.2.2.2
  have hz : s.heap.size ≤ H.size := by rw [← hT]; exact (vx_frame (U := T) X.same).1
  have hkp : ∀ a : Nat, a < G.2.2.2.1.size → ¬ (zA G a) → s.heap[a]? = G.2.2.2.1[a]? := fun a ha _ => hC.2.2.2.2.2.2.2.2.2 a ha
  have hts : ∀ w, (w ∈ zt ∨ w ∈ xw) → w.before args s = true := fun w hw => hw.elim (hC.2.2.2.2.2.2.1 w) (fun h9 => va_Nw.use (xw_ot w h9) (hw9 w h9))
  refine xq_throw (cc := cX10_house) (A := zA G) (own := RX10) (cls := sNS) (text := "no such what") (names := ["java/lang/RuntimeException", "java/lang/Exception"]) (ik := 154) (is := 156) (ic := 158) (sa := sa) (rest := []) hC.1 hC.2.1 hl rx_ns_0 rx_ns_1 rx_ns_2 rx_ns_5 hC.2.2.2.2.2.1 (by decide) (by decide) (hts _ (at_ns_t _ List.mem_cons_self)) (hts _ (at_ns_t _ (List.mem_cons_of_mem _ List.mem_cons_self))) hsa (fun w hw => hts w (at_ns_t w (List.mem_cons_of_mem _ (List.mem_cons_of_mem _ hw)))) (List.all_eq_true.mp at_ns_g) (hU.kept hkp) (hN.kept hkp) (hs_va hC hH hS hz) (zml hC hlv).symm dX10_house_135 dX10_house_138 dX10_house_139 dX10_house_141 dX10_house_144 (fun x hx => (ht x hx).elim) (by decide) (by decide) (by decide) (by decide) hC.2.2.2.2.1 (fun t2 ha hz2 hq2 => ⟨hH.grow (by rw [LAY_244]; decide) hz2 hq2, Or.inr ⟨rfl, hb⟩⟩) hS (by decide) (by decide) T hT X
set_option maxRecDepth 100000 in
set_option maxHeartbeats 4000000 in
theorem m_X10_house {G : zG} {l : Launch} {L : Nat} {P : zP} {M : zM} {t : Nat} {h w : Int} (hX : ∀ U, G.2.2.2.2 U → XH G.2.2.2.1 U) (hl : l.stackTraces = false) (hv : CV L P M t) (rh : inR h) (rw : inR w) (hG : GK G) : vx_Met l yX10_house (.code yX10_house mdX10h.2.2.1 mdX10h.2.2.2.1 mdX10h.2.2.2.2.1 :: zt) mdX10h.2.2.2.2.2 (fun v U => v = ([aR 2, aI h, aI w].map (cv G.1)).toArray ∧ HR G (LAY L) P M U.heap ∧ KK G U) (zQ G (zany (LAY L) P (fun r M' => Cn t M M' ∧ (0 ≤ h ∧ h < M t 2) ∧ (0 ≤ w ∧ w ≤ 6) ∧ r = hsC9 M t w h))) (hsX G L P M t h w) mdX10h.2.2.2.2.2.cells mdX10h.2.2.2.2.2.slots (zA G) := by
  refine AC.met (ls := [some (aR 2), some (aI h), some (aI w)]) rfl (Nat.le_of_ble_eq_true rfl) (by decide) rfl rfl (fun c ht => ?_) hG
  refine y_aloadn dX10_house_0 rfl ?_
  refine y_iloadn dX10_house_1 rfl ?_
  refine y_invV (as := [_]) (q := 2) dX10_house_2 mvX10_121 ⟨by decide, by decide⟩ (L2 L) rfl rfl rfl (Nat.le_of_ble_eq_true rfl) ⟨by decide, by decide⟩ (m_X10_isHouse hv rh) ?_
  rintro r9 lay9 P9 M9 ⟨z1, z2, z3, r, z4, hr⟩
  rw [z1, z2, z3, z4]
  refine y_if_ne (tgt := 18) dX10_house_5 (by decide) ⟨by omega, by omega⟩ (fun q => ?_) (fun q => ?_)
  · have hh : 0 ≤ h ∧ h < M t 2 := by omega
    by_cases cc : 0 ≤ w ∧ w ≤ 6
    · refine AQ.fx (AW.q (hsX10_good hv hh cc) (fun below s args t2 z => ?_)) c
      obtain ⟨o, s1, s2, ⟨r9, lay9, P9, M9, e1, ⟨z1, z2, x9, z3, z4, z5⟩, e3⟩, s4⟩ := z
      exact ⟨o, s1, s2, Or.inl ⟨⟨r9, lay9, P9, M9, e1, ⟨z1, z2, x9, z3, z4, hh, cc, z5⟩, e3⟩, s4⟩⟩
    · refine y_iloadn dX10_house_18 rfl ?_
      exact y_tabOut (tgt := 135) dX10_house_19 rw (by omega) (by decide) (hsX10_ns hX hl ht ⟨hh, cc⟩)
  · exact hsX10_io hX hl ht (by omega)
/-- the law's own row for house -/
abbrev mdL_house : zMd := (RL, "house", cL_house, 5, some .int, { frames := 15, cells := 1, slots := 6, locals := 1230 })
def lhZ (L : Nat) (P : zP) (M : zM) (t : Nat) (h w : Int) : zZ := fun r lay' P' M' => lay' = LAY L ∧ P' = P ∧ ((r = some (aI 1) ∧ ¬ (0 ≤ h ∧ h < M t 2) ∧ M' = M) ∨ (r = some (aI 2) ∧ (0 ≤ h ∧ h < M t 2) ∧ ¬ (0 ≤ w ∧ w ≤ 6) ∧ M' = M) ∨ (r = some (aI 0) ∧ (0 ≤ h ∧ h < M t 2) ∧ (0 ≤ w ∧ w ≤ 6) ∧ ∃ M1, Cn t M M1 ∧ M' = sm M1 243 0 (hsC9 M t w h)))
theorem kcX10_house : Cond.code yX10_house cX10_house 3 (some .int) ∈ zt := zmem (tm0 1150 (by decide +kernel)) rfl
theorem mvL_7 : MV RL 7 RX10 yX10_house mdX10h 2 := ⟨rfl, by decide, by decide, by decide +kernel, zmem (tm0 1147 (by decide +kernel)) rfl, zmem (tm0 1148 (by decide +kernel)) rfl, zmem (tm0 1149 (by decide +kernel)) rfl, zmem (tm0 1 (by decide +kernel)) rfl, kcX10_house⟩
abbrev hhL : List (Nat × Nat × Nat × Nat) := [(0, 10, 13, 13), (0, 10, 17, 15)]
theorem msL_39 : MSX RL 39 yL_house mdL_house 4 hhL := ⟨rfl, by decide, by decide, by decide +kernel, zmem (tm0 1142 (by decide +kernel)) rfl, zmem (tm0 1143 (by decide +kernel)) rfl, zmem (tm0 0 (by decide +kernel)) rfl, zmem (tm0 1144 (by decide +kernel)) rfl⟩
theorem clL_13 : Cond.classLink RL 13 sIO ∈ zt := zmem (tm0 1145 (by decide +kernel)) rfl
theorem clL_15 : Cond.classLink RL 15 sNS ∈ zt := zmem (tm0 1146 (by decide +kernel)) rfl
/-- an address beyond the heap at the entry is some number's -/
theorem gk_at {G : zG} (hG : GK G) {q : Nat} (h : G.2.2.2.1.size ≤ q) : ∃ k, G.1 k = q := ⟨q - G.2.2.2.1.size + 2, by rw [hG.1]; omega⟩
end ZHY
