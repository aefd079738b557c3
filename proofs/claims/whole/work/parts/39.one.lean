section ZON
variable {G : zG} {l : Launch} {md : zMd} {Z : zZ} {pc : Nat} {ls : List (Option av)} {st : List av} {lay : List zKd} {P : zP} {M : zM} {k n : Nat}
/-- an answer of which something holds; the memory as it was -/
def zone (lay : List zKd) (P : zP) (M : zM) (E : Int → Prop) : zZ := fun r' lay' P' M' => lay' = lay ∧ P' = P ∧ M' = M ∧ ∃ x, r' = some (aI x) ∧ E x
theorem zone_i {x : Int} {lay : List zKd} {P : zP} {M : zM} {E : Int → Prop} (h : E x) : zone lay P M E (some (aI x)) lay P M := ⟨rfl, rfl, rfl, x, rfl, h⟩
theorem a_oneV {y : MethodName} {md2 : zMd} {idx nA : Nat} {C : String} {as : List av} {st0 : List av}  {q ci : Nat} {T : u_T} {N : Nat} {E : Int → Prop} (d : decode md.2.2.1 pc = .ok (.invokevirtual idx, 3)) (hm : MV md.1 idx C y md2 nA) (hR : RM md md2) (hk : lay[q]? = some (.inr ci)) (hc : vwCl[ci]? = some (C, T, N)) (hn : as.length = nA) (hst : as.reverse ++ aR q :: st = st0) (hcat : (st.map zcat1).sum ≤ 8) (hz : md2.2.2.2.2.2.cells = 0 ∧ md2.2.2.2.2.2.slots = 0) (hkn : k ≤ md.2.2.2.2.2.cells ∧ n ≤ md.2.2.2.2.2.slots) (hM : AM G l y md2 (aR q :: as) lay P M (zone lay P M E))
    (kk : ∀ (x : Int), E x → AW G l md Z (pc + 3) ls (aI x :: st) lay P M (k) (n)) : AW G l md Z (pc) ls (st0) lay P M (k) (n) := by
  refine a_invV d hm hR hk hc hn hst hcat (by rw [hz.1, hz.2]; exact hkn) hM ?_
  rintro r lay' P'' M'' ⟨rfl, rfl, rfl, x, rfl, hE⟩
  rw [hz.1, hz.2]
  exact kk x hE
theorem a_oneS {y : MethodName} {md2 : zMd} {idx nA : Nat}  {as : List av} {st0 : List av}   {E : Int → Prop} (d : decode md.2.2.1 pc = .ok (.invokestatic idx, 3)) (hm : MS md.1 idx y md2 nA) (hR : RM md md2)  (hn : as.length = nA) (hst : as.reverse ++ st = st0) (hcat : (st.map zcat1).sum ≤ 8) (hz : md2.2.2.2.2.2.cells = 0 ∧ md2.2.2.2.2.2.slots = 0) (hkn : k ≤ md.2.2.2.2.2.cells ∧ n ≤ md.2.2.2.2.2.slots) (hM : AM G l y md2 as lay P M (zone lay P M E))
    (kk : ∀ (x : Int), E x → AW G l md Z (pc + 3) ls (aI x :: st) lay P M (k) (n)) : AW G l md Z (pc) ls (st0) lay P M (k) (n) := by
  refine a_invS (C := "") d hm hR  hn hst hcat (by rw [hz.1, hz.2]; exact hkn) hM ?_
  rintro r lay' P'' M'' ⟨rfl, rfl, rfl, x, rfl, hE⟩
  rw [hz.1, hz.2]
  exact kk x hE
theorem a_oneSN {y : MethodName} {md2 : zMd} {idx nA : Nat} {C : String} {as : List av} {st0 : List av}   {E : Int → Prop} (d : decode md.2.2.1 pc = .ok (.invokestatic idx, 3)) (hm : MSN md.1 idx C y md2 nA) (hR : RM md md2)  (hn : as.length = nA) (hst : as.reverse ++ st = st0) (hcat : (st.map zcat1).sum ≤ 8) (hz : md2.2.2.2.2.2.cells = 0 ∧ md2.2.2.2.2.2.slots = 0) (hkn : k ≤ md.2.2.2.2.2.cells ∧ n ≤ md.2.2.2.2.2.slots) (hM : AM G l y md2 as lay P M (zone lay P M E))
    (kk : ∀ (x : Int), E x → AW G l md Z (pc + 3) ls (aI x :: st) lay P M (k) (n)) : AW G l md Z (pc) ls (st0) lay P M (k) (n) := by
  refine a_invSN (C := C) d hm hR  hn hst hcat (by rw [hz.1, hz.2]; exact hkn) hM ?_
  rintro r lay' P'' M'' ⟨rfl, rfl, rfl, x, rfl, hE⟩
  rw [hz.1, hz.2]
  exact kk x hE
theorem a_relPVv {y : MethodName} {md2 : zMd} {idx nA : Nat} {C : String} {as : List av} {st0 : List av} {P1 : zP} {q ci : Nat} {T : u_T} {N : Nat} {E : zM → Prop} (d : decode md.2.2.1 pc = .ok (.invokevirtual idx, 3)) (hm : MV md.1 idx C y md2 nA) (hR : RM md md2) (hk : lay[q]? = some (.inr ci)) (hc : vwCl[ci]? = some (C, T, N)) (hn : as.length = nA) (hst : as.reverse ++ aR q :: st = st0) (hcat : (st.map zcat1).sum ≤ 8) (hz : md2.2.2.2.2.2.cells = 0 ∧ md2.2.2.2.2.2.slots = 0) (hkn : k ≤ md.2.2.2.2.2.cells ∧ n ≤ md.2.2.2.2.2.slots) (hM : AM G l y md2 (aR q :: as) lay P M (zrel none lay P1 E))
    (kk : ∀ M', E M' → AW G l md Z (pc + 3) ls (st) lay P1 M' (k) (n)) : AW G l md Z (pc) ls (st0) lay P M (k) (n) := by
  refine a_invV d hm hR hk hc hn hst hcat (by rw [hz.1, hz.2]; exact hkn) hM ?_
  rintro r lay' P'' M'' ⟨rfl, rfl, rfl, hE⟩
  rw [hz.1, hz.2]
  exact kk M'' hE
theorem a_anyPV {y : MethodName} {md2 : zMd} {idx nA : Nat} {C : String} {as : List av} {st0 : List av} {P1 : zP} {q ci : Nat} {T : u_T} {N : Nat} {E : Int → zM → Prop} (d : decode md.2.2.1 pc = .ok (.invokevirtual idx, 3)) (hm : MV md.1 idx C y md2 nA) (hR : RM md md2) (hk : lay[q]? = some (.inr ci)) (hc : vwCl[ci]? = some (C, T, N)) (hn : as.length = nA) (hst : as.reverse ++ aR q :: st = st0) (hcat : (st.map zcat1).sum ≤ 8) (hz : md2.2.2.2.2.2.cells = 0 ∧ md2.2.2.2.2.2.slots = 0) (hkn : k ≤ md.2.2.2.2.2.cells ∧ n ≤ md.2.2.2.2.2.slots) (hM : AM G l y md2 (aR q :: as) lay P M (zany lay P1 E))
    (kk : ∀ (x : Int) M', E x M' → AW G l md Z (pc + 3) ls (aI x :: st) lay P1 M' (k) (n)) : AW G l md Z (pc) ls (st0) lay P M (k) (n) := by
  refine a_invV d hm hR hk hc hn hst hcat (by rw [hz.1, hz.2]; exact hkn) hM ?_
  rintro r lay' P'' M'' ⟨rfl, rfl, x, rfl, hE⟩
  rw [hz.1, hz.2]
  exact kk x M'' hE
theorem c_tabOut {dflt lo hi : Int} {offs : Array Int} {len : Nat} {x : Int} {tgt : Nat} (h1 : x < lo ∨ hi < x) (d : decode md.2.2.1 pc = .ok (.tableswitch dflt lo hi offs, len)) (hx : inR x) (ht : (pc : Int) + dflt = (tgt : Int)) (kk : AW G l md Z tgt ls st lay P M k n) : AW G l md Z pc ls (aI x :: st) lay P M k n := a_tabOut d hx h1 ht kk
theorem c_lkIn {dflt : Int} {ps : Array (Int × Int)} {len : Nat} {x c off : Int} {tgt : Nat} (e : x = c) (d : decode md.2.2.1 pc = .ok (.lookupswitch dflt ps, len)) (hp : (ps.toList.zip (ps.toList.drop 1)).all (fun (a, next) => a.1 < next.1) = true) (hx : inR c) (ho : Op.lookupswitch.offset ps.toList dflt c = off) (ht : (pc : Int) + off = (tgt : Int)) (kk : AW G l md Z tgt ls st lay P M k n) : AW G l md Z pc ls (aI x :: st) lay P M k n := by
  subst e
  exact a_lookup d hp hx ho ht kk
end ZON
