section ZRE
variable {G : zG} {l : Launch} {md : zMd} {Z : zZ} {pc : Nat} {ls : List (Option av)} {st : List av} {lay : List zKd} {P : zP} {M : zM} {k n : Nat}
/-- an answer, and what holds of the numbers behind -/
def zrel (r : Option av) (lay : List zKd) (P : zP) (E : zM → Prop) : zZ := fun r' lay' P' M' => r' = r ∧ lay' = lay ∧ P' = P ∧ E M'
theorem zrel_I {x y : Int} {lay : List zKd} {P : zP} {M : zM} {E : zM → Prop} (hr : x = y) (h : E M) : zrel (some (aI y)) lay P E (some (aI x)) lay P M := ⟨by rw [hr], rfl, rfl, h⟩
theorem zrel_L {x y : Int} {lay : List zKd} {P : zP} {M : zM} {E : zM → Prop} (hr : x = y) (h : E M) : zrel (some (aL y)) lay P E (some (aL x)) lay P M := ⟨by rw [hr], rfl, rfl, h⟩
theorem zrel_V {lay : List zKd} {P : zP} {M : zM} {E : zM → Prop} (h : E M) : zrel none lay P E none lay P M := ⟨rfl, rfl, rfl, h⟩
/-- an answer of which something holds, and what holds of the numbers behind -/
def zany (lay : List zKd) (P : zP) (E : Int → zM → Prop) : zZ := fun r' lay' P' M' => lay' = lay ∧ P' = P ∧ ∃ x, r' = some (aI x) ∧ E x M'
def zanyL (lay : List zKd) (P : zP) (E : Int → zM → Prop) : zZ := fun r' lay' P' M' => lay' = lay ∧ P' = P ∧ ∃ x, r' = some (aL x) ∧ E x M'
theorem zany_i {x : Int} {lay : List zKd} {P : zP} {M : zM} {E : Int → zM → Prop} (h : E x M) : zany lay P E (some (aI x)) lay P M := ⟨rfl, rfl, x, rfl, h⟩
theorem zanyL_i {x : Int} {lay : List zKd} {P : zP} {M : zM} {E : Int → zM → Prop} (h : E x M) : zanyL lay P E (some (aL x)) lay P M := ⟨rfl, rfl, x, rfl, h⟩
theorem a_relV {y : MethodName} {md2 : zMd} {idx nA : Nat} {C : String} {as : List av} {st0 : List av} {q ci : Nat} {T : u_T} {N : Nat} {v : av} {E : zM → Prop} (d : decode md.2.2.1 pc = .ok (.invokevirtual idx, 3)) (hm : MV md.1 idx C y md2 nA) (hR : RM md md2) (hk : lay[q]? = some (.inr ci)) (hc : vwCl[ci]? = some (C, T, N)) (hn : as.length = nA) (hst : as.reverse ++ aR q :: st = st0) (hcat : (st.map zcat1).sum ≤ 8) (hz : md2.2.2.2.2.2.cells = 0 ∧ md2.2.2.2.2.2.slots = 0) (hkn : k ≤ md.2.2.2.2.2.cells ∧ n ≤ md.2.2.2.2.2.slots) (hM : AM G l y md2 (aR q :: as) lay P M (zrel (some v) lay P E))
    (kk : ∀ M', E M' → AW G l md Z (pc + 3) ls (v :: st) lay P M' (k) (n)) : AW G l md Z (pc) ls (st0) lay P M (k) (n) := by
  refine a_invV d hm hR hk hc hn hst hcat (by rw [hz.1, hz.2]; exact hkn) hM ?_
  rintro r lay' P'' M'' ⟨rfl, rfl, rfl, hE⟩
  rw [hz.1, hz.2]
  exact kk M'' hE
theorem a_relS {y : MethodName} {md2 : zMd} {idx nA : Nat}  {as : List av} {st0 : List av}  {v : av} {E : zM → Prop} (d : decode md.2.2.1 pc = .ok (.invokestatic idx, 3)) (hm : MS md.1 idx y md2 nA) (hR : RM md md2)  (hn : as.length = nA) (hst : as.reverse ++ st = st0) (hcat : (st.map zcat1).sum ≤ 8) (hz : md2.2.2.2.2.2.cells = 0 ∧ md2.2.2.2.2.2.slots = 0) (hkn : k ≤ md.2.2.2.2.2.cells ∧ n ≤ md.2.2.2.2.2.slots) (hM : AM G l y md2 as lay P M (zrel (some v) lay P E))
    (kk : ∀ M', E M' → AW G l md Z (pc + 3) ls (v :: st) lay P M' (k) (n)) : AW G l md Z (pc) ls (st0) lay P M (k) (n) := by
  refine a_invS (C := "") d hm hR  hn hst hcat (by rw [hz.1, hz.2]; exact hkn) hM ?_
  rintro r lay' P'' M'' ⟨rfl, rfl, rfl, hE⟩
  rw [hz.1, hz.2]
  exact kk M'' hE
theorem a_relVv {y : MethodName} {md2 : zMd} {idx nA : Nat} {C : String} {as : List av} {st0 : List av} {q ci : Nat} {T : u_T} {N : Nat}  {E : zM → Prop} (d : decode md.2.2.1 pc = .ok (.invokevirtual idx, 3)) (hm : MV md.1 idx C y md2 nA) (hR : RM md md2) (hk : lay[q]? = some (.inr ci)) (hc : vwCl[ci]? = some (C, T, N)) (hn : as.length = nA) (hst : as.reverse ++ aR q :: st = st0) (hcat : (st.map zcat1).sum ≤ 8) (hz : md2.2.2.2.2.2.cells = 0 ∧ md2.2.2.2.2.2.slots = 0) (hkn : k ≤ md.2.2.2.2.2.cells ∧ n ≤ md.2.2.2.2.2.slots) (hM : AM G l y md2 (aR q :: as) lay P M (zrel none lay P E))
    (kk : ∀ M', E M' → AW G l md Z (pc + 3) ls (st) lay P M' (k) (n)) : AW G l md Z (pc) ls (st0) lay P M (k) (n) := by
  refine a_invV d hm hR hk hc hn hst hcat (by rw [hz.1, hz.2]; exact hkn) hM ?_
  rintro r lay' P'' M'' ⟨rfl, rfl, rfl, hE⟩
  rw [hz.1, hz.2]
  exact kk M'' hE
theorem a_relSv {y : MethodName} {md2 : zMd} {idx nA : Nat}  {as : List av} {st0 : List av}   {E : zM → Prop} (d : decode md.2.2.1 pc = .ok (.invokestatic idx, 3)) (hm : MS md.1 idx y md2 nA) (hR : RM md md2)  (hn : as.length = nA) (hst : as.reverse ++ st = st0) (hcat : (st.map zcat1).sum ≤ 8) (hz : md2.2.2.2.2.2.cells = 0 ∧ md2.2.2.2.2.2.slots = 0) (hkn : k ≤ md.2.2.2.2.2.cells ∧ n ≤ md.2.2.2.2.2.slots) (hM : AM G l y md2 as lay P M (zrel none lay P E))
    (kk : ∀ M', E M' → AW G l md Z (pc + 3) ls (st) lay P M' (k) (n)) : AW G l md Z (pc) ls (st0) lay P M (k) (n) := by
  refine a_invS (C := "") d hm hR  hn hst hcat (by rw [hz.1, hz.2]; exact hkn) hM ?_
  rintro r lay' P'' M'' ⟨rfl, rfl, rfl, hE⟩
  rw [hz.1, hz.2]
  exact kk M'' hE
theorem a_anyV {y : MethodName} {md2 : zMd} {idx nA : Nat} {C : String} {as : List av} {st0 : List av} {q ci : Nat} {T : u_T} {N : Nat}  {E : Int → zM → Prop} (d : decode md.2.2.1 pc = .ok (.invokevirtual idx, 3)) (hm : MV md.1 idx C y md2 nA) (hR : RM md md2) (hk : lay[q]? = some (.inr ci)) (hc : vwCl[ci]? = some (C, T, N)) (hn : as.length = nA) (hst : as.reverse ++ aR q :: st = st0) (hcat : (st.map zcat1).sum ≤ 8) (hz : md2.2.2.2.2.2.cells = 0 ∧ md2.2.2.2.2.2.slots = 0) (hkn : k ≤ md.2.2.2.2.2.cells ∧ n ≤ md.2.2.2.2.2.slots) (hM : AM G l y md2 (aR q :: as) lay P M (zany lay P E))
    (kk : ∀ (x : Int) M', E x M' → AW G l md Z (pc + 3) ls (aI x :: st) lay P M' (k) (n)) : AW G l md Z (pc) ls (st0) lay P M (k) (n) := by
  refine a_invV d hm hR hk hc hn hst hcat (by rw [hz.1, hz.2]; exact hkn) hM ?_
  rintro r lay' P'' M'' ⟨rfl, rfl, x, rfl, hE⟩
  rw [hz.1, hz.2]
  exact kk x M'' hE
theorem a_anyS {y : MethodName} {md2 : zMd} {idx nA : Nat}  {as : List av} {st0 : List av}   {E : Int → zM → Prop} (d : decode md.2.2.1 pc = .ok (.invokestatic idx, 3)) (hm : MS md.1 idx y md2 nA) (hR : RM md md2)  (hn : as.length = nA) (hst : as.reverse ++ st = st0) (hcat : (st.map zcat1).sum ≤ 8) (hz : md2.2.2.2.2.2.cells = 0 ∧ md2.2.2.2.2.2.slots = 0) (hkn : k ≤ md.2.2.2.2.2.cells ∧ n ≤ md.2.2.2.2.2.slots) (hM : AM G l y md2 as lay P M (zany lay P E))
    (kk : ∀ (x : Int) M', E x M' → AW G l md Z (pc + 3) ls (aI x :: st) lay P M' (k) (n)) : AW G l md Z (pc) ls (st0) lay P M (k) (n) := by
  refine a_invS (C := "") d hm hR  hn hst hcat (by rw [hz.1, hz.2]; exact hkn) hM ?_
  rintro r lay' P'' M'' ⟨rfl, rfl, x, rfl, hE⟩
  rw [hz.1, hz.2]
  exact kk x M'' hE
theorem a_anyLV {y : MethodName} {md2 : zMd} {idx nA : Nat} {C : String} {as : List av} {st0 : List av} {q ci : Nat} {T : u_T} {N : Nat}  {E : Int → zM → Prop} (d : decode md.2.2.1 pc = .ok (.invokevirtual idx, 3)) (hm : MV md.1 idx C y md2 nA) (hR : RM md md2) (hk : lay[q]? = some (.inr ci)) (hc : vwCl[ci]? = some (C, T, N)) (hn : as.length = nA) (hst : as.reverse ++ aR q :: st = st0) (hcat : (st.map zcat1).sum ≤ 8) (hz : md2.2.2.2.2.2.cells = 0 ∧ md2.2.2.2.2.2.slots = 0) (hkn : k ≤ md.2.2.2.2.2.cells ∧ n ≤ md.2.2.2.2.2.slots) (hM : AM G l y md2 (aR q :: as) lay P M (zanyL lay P E))
    (kk : ∀ (x : Int) M', E x M' → AW G l md Z (pc + 3) ls (aL x :: st) lay P M' (k) (n)) : AW G l md Z (pc) ls (st0) lay P M (k) (n) := by
  refine a_invV d hm hR hk hc hn hst hcat (by rw [hz.1, hz.2]; exact hkn) hM ?_
  rintro r lay' P'' M'' ⟨rfl, rfl, x, rfl, hE⟩
  rw [hz.1, hz.2]
  exact kk x M'' hE
theorem a_anyLS {y : MethodName} {md2 : zMd} {idx nA : Nat}  {as : List av} {st0 : List av}   {E : Int → zM → Prop} (d : decode md.2.2.1 pc = .ok (.invokestatic idx, 3)) (hm : MS md.1 idx y md2 nA) (hR : RM md md2)  (hn : as.length = nA) (hst : as.reverse ++ st = st0) (hcat : (st.map zcat1).sum ≤ 8) (hz : md2.2.2.2.2.2.cells = 0 ∧ md2.2.2.2.2.2.slots = 0) (hkn : k ≤ md.2.2.2.2.2.cells ∧ n ≤ md.2.2.2.2.2.slots) (hM : AM G l y md2 as lay P M (zanyL lay P E))
    (kk : ∀ (x : Int) M', E x M' → AW G l md Z (pc + 3) ls (aL x :: st) lay P M' (k) (n)) : AW G l md Z (pc) ls (st0) lay P M (k) (n) := by
  refine a_invS (C := "") d hm hR  hn hst hcat (by rw [hz.1, hz.2]; exact hkn) hM ?_
  rintro r lay' P'' M'' ⟨rfl, rfl, x, rfl, hE⟩
  rw [hz.1, hz.2]
  exact kk x M'' hE
theorem a_ranks {idx : Nat} (d : decode md.2.2.1 pc = .ok (.getstatic idx, 3)) (hw : Cond.fieldLink md.1 idx "StaticDial$Reader" "RANKS" "[I" ∈ zt) (kk : AW G l md Z (pc + 3) ls (aR 1 :: st) lay P M (k) (n)) : AW G l md Z (pc) ls (st) lay P M (k) (n) := by
  intro hG p e s m args below meth c H locs lsA hC hl hH hS
  have h := kk hG p e s m args below meth c H locs lsA hC hl hH hS
  obtain ⟨cf, kf, fi, f, a, cell, h1, h2, h3, h4, h5, h6, h7, h8⟩ := hC.2.2.2.2.2.2.2.1.2.2.2.1
  have ha : a < G.2.2.2.1.size := (Array.getElem?_eq_some_iff.mp h5).1
  exact W.gets hC.1 hC.2.1 hC.2.2.2.2.2.1 (hC.2.2.2.2.2.2.1 _ hw) h1 h2 h3 h4 (by rw [hH.1.2.2 a ha]; exact h5) (fun e => by rw [e] at h6; cases h6) h7 rfl d h
theorem zfor {v : av} {i : Nat} : ∀ (is : List Nat) (ls : List (Option av)), (is.foldl (fun q i => q.set i none) ls)[i]? = some (some v) → ls[i]? = some (some v)
  | [], ls, h => h
  | j :: is, ls, h => by
    have h1 := zfor is (ls.set j none) h
    rw [List.getElem?_set] at h1
    split at h1
    · split at h1 <;> cases h1
    · exact h1
/-- the listed locals are forgotten -/
theorem a_forget (is : List Nat) {ls' : List (Option av)} (hs : is.foldl (fun q i => q.set i none) ls = ls') (kk : AW G l md Z (pc) ls' (st) lay P M (k) (n)) : AW G l md Z (pc) ls (st) lay P M (k) (n) := a_keep (fun i v h => by rw [← hs] at h; exact zfor is ls h) kk
theorem a_Z {Z' : zZ} (h : Z' = Z) (kk : AW G l md Z' pc ls st lay P M k n) : AW G l md Z (pc) ls (st) lay P M (k) (n) := h ▸ kk
end ZRE
