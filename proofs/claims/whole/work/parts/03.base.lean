section ZB
/-- an abstract value: an int, a long, a reference (by the number of its cell) or null -/
abbrev av : Type := Int ⊕ (Int ⊕ Option Nat)
abbrev aI (i : Int) : av := Sum.inl i
abbrev aL (i : Int) : av := Sum.inr (Sum.inl i)
abbrev aQ (o : Option Nat) : av := Sum.inr (Sum.inr o)
abbrev aR (k : Nat) : av := Sum.inr (Sum.inr (some k))
def cv (ad : Nat → Nat) (v : av) : Value := match v with
  | .inl i => .int (Int32.ofInt i)
  | .inr (.inl i) => .long (Int64.ofInt i)
  | .inr (.inr o) => va_rf (o.map ad)
theorem cv_I (ad : Nat → Nat) (i : Int) : cv ad (aI i) = .int (Int32.ofInt i) := rfl
theorem cv_L (ad : Nat → Nat) (i : Int) : cv ad (aL i) = .long (Int64.ofInt i) := rfl
theorem cv_R (ad : Nat → Nat) (k : Nat) : cv ad (aR k) = .ref (ad k) := rfl
/-- addresses of the cells by their numbers; class ids and slots; class ids of arrays; the heap at the law's entry; what else holds of every state -/
abbrev zG : Type := (Nat → Nat) × va_G × (Nat → ClassId) × Heap × (State → Prop)
abbrev zKd : Type := (Nat × Nat) ⊕ Nat
abbrev zP : Type := Nat → Int → Option Nat
abbrev zM : Type := Nat → Int → Int
def zty (t : Nat) : FieldType := match t with
  | 0 => .int
  | 1 => .boolean
  | 2 => .long
  | 3 => .object "StaticDial$Law"
  | _ => .object "StaticDial$State"
def zft (c : Nat) : List Nat := match c with
  | 0 => [3, 0, 0, 1, 1, 0, 3]
  | 1 => [3, 0]
  | 2 => [3, 3, 3, 3, 3, 3, 0, 0]
  | 3 => [3, 3, 3, 3, 3, 3, 0, 3, 0]
  | 4 => [3, 3, 3, 3, 0, 0, 0, 0]
  | 5 => [3, 3, 3, 3, 3, 0, 0]
  | 6 => [3, 3, 2]
  | 7 => [3, 3, 3, 3, 0, 0, 3, 0, 0, 0, 0, 0]
  | 8 => [0, 0, 0, 3, 3, 3, 0, 3, 3, 3, 0, 3, 3, 3, 3, 3, 3]
  | 9 => [3, 0, 0]
  | 10 => [3, 0, 3, 3, 3, 3, 3, 3, 3, 3, 1, 3, 3, 3]
  | 11 => [3, 0, 0, 3, 0, 0, 0, 0, 0, 0, 0, 0, 0, 0, 0, 0, 0, 0, 0, 0, 3, 3, 3, 3, 3, 3, 3, 3, 3, 3, 3, 3, 3, 3, 3, 3, 3, 3, 3, 0, 0, 0, 0, 1, 1, 3, 3, 1, 3, 3, 3, 3, 3, 3, 2, 1, 1, 1, 1, 0, 0, 0, 0, 3, 3, 0, 3, 1, 3, 0, 2]
  | _ => []
def zV (ad : Nat → Nat) (c : Nat) (x : Int) (o : Option Nat) : Value := match c with
  | 2 => .long (Int64.ofInt x)
  | 3 => va_rf (o.map ad)
  | _ => .int (Int32.ofInt x)
def zF (G : zG) (P : zP) (M : zM) (k ci : Nat) : List Value := (zft ci).mapIdx (fun j c => zV G.1 c (M k (j : Int)) (P k (j : Int)))
def zAc (G : zG) (P : zP) (M : zM) (k t : Nat) : (Nat → Int32) ⊕ (Nat → Int64) ⊕ (Nat → UInt32) ⊕ (Nat → UInt64) ⊕ (Nat → Option Nat) := match t with
  | 0 => .inl (fun i => Int32.ofInt (M k (i : Int)))
  | 1 => .inl (fun i => Int32.ofInt (M k (i : Int)))
  | 2 => .inr (.inl (fun i => Int64.ofInt (M k (i : Int))))
  | _ => .inr (.inr (.inr (.inr (fun i => (P k (i : Int)).map G.1))))
def zE (G : zG) (P : zP) (M : zM) (k : Nat) (kd : zKd) : va_E := match kd with
  | .inl q => .inl (G.2.2.1 q.1, q.2, zAc G P M k q.1)
  | .inr ci => .inr (ci, zF G P M k ci)
/-- a number of a type: an int, a boolean, a long -/
def zrng (c : Nat) (x : Int) : Prop := match c with
  | 0 => -2147483648 ≤ x ∧ x < 2147483648
  | 1 => x = 0 ∨ x = 1
  | 2 => -9223372036854775808 ≤ x ∧ x < 9223372036854775808
  | _ => True
def zcan (kd : zKd) (f : Int → Int) : Prop := match kd with
  | .inl q => ∀ i : Int, 0 ≤ i → i < q.2 → zrng q.1 (f i)
  | .inr ci => ∀ (j c : Nat), (zft ci)[j]? = some c → zrng c (f (j : Int))
/-- a given array of ints: its elements; its class by its number -/
def ZX (G : zG) (M : zM) (k : Nat) (kd : zKd) (H : Heap) : Prop := ∃ (N : Nat) (cell : Cell), kd = .inl (0, N) ∧ H[G.1 k]? = some cell ∧ (∀ v, cell.vm ≠ .statics v) ∧ cell.vm ≠ .unknown ∧ N ≤ cell.slots.size ∧ cell.slots.size.toInt32 = Int32.ofNat N ∧ (∀ j : Nat, j < N → cell.slots[j]? = some (.int (Int32.ofInt (M k (j : Int))))) ∧ cell.cls = G.2.2.1 (k + 5)
theorem ZX.kept {G : zG} {M : zM} {k : Nat} {kd : zKd} {H H1 : Heap} (h : ZX G M k kd H) (hq : H1[G.1 k]? = H[G.1 k]?) : ZX G M k kd H1 := by
  obtain ⟨N, cell, h1, h2, h3⟩ := h
  exact ⟨N, cell, h1, by rw [hq]; exact h2, h3⟩
/-- the cell k: one of the two given, or made here -/
def zat (G : zG) (P : zP) (M : zM) (k : Nat) (kd : zKd) (H : Heap) : Prop := (2 ≤ k ∧ va_at G.2.1 vwCl (G.1 k, zE G P M k kd) H) ∨ (k < 2 ∧ ZX G M k kd H)
theorem zat.kept {G : zG} {P : zP} {M : zM} {k : Nat} {kd : zKd} {H H1 : Heap} (h : zat G P M k kd H) (hq : H1[G.1 k]? = H[G.1 k]?) : zat G P M k kd H1 := by
  rcases h with ⟨a, b⟩ | ⟨a, b⟩
  · exact Or.inl ⟨a, b.kept hq⟩
  · exact Or.inr ⟨a, b.kept hq⟩
theorem zat.lt {G : zG} {P : zP} {M : zM} {k : Nat} {kd : zKd} {H : Heap} (h : zat G P M k kd H) : G.1 k < H.size := by
  rcases h with ⟨a, b⟩ | ⟨a, N, cell, h1, h2, h3⟩
  · exact b.lt
  · exact (Array.getElem?_eq_some_iff.mp h2).1
/-- the heap holds the layout with these pointers and numbers -/
def HR (G : zG) (lay : List zKd) (P : zP) (M : zM) (H : Heap) : Prop := (2 ≤ lay.length ∧ (H.size + 2 = G.2.2.2.1.size + lay.length ∨ (244 ≤ lay.length ∧ G.2.2.2.1.size + lay.length ≤ H.size + 2)) ∧ ∀ q, q < G.2.2.2.1.size → H[q]? = G.2.2.2.1[q]?) ∧ ∀ (k : Nat) (kd : zKd), lay[k]? = some kd → zat G P M k kd H ∧ zcan kd (M k)
theorem HR.ob {G : zG} {lay : List zKd} {P : zP} {M : zM} {H : Heap} {k ci : Nat} (h : HR G lay P M H) (hk : lay[k]? = some (.inr ci)) : va_at G.2.1 vwCl (G.1 k, zE G P M k (.inr ci)) H := by
  rcases (h.2 k _ hk).1 with ⟨a, b⟩ | ⟨a, N, cell, h1, h2⟩
  · exact b
  · cases h1
theorem HR.ar {G : zG} {lay : List zKd} {P : zP} {M : zM} {H : Heap} {k : Nat} {kd : zKd} (h : HR G lay P M H) (h2 : 2 ≤ k) (hk : lay[k]? = some kd) : va_at G.2.1 vwCl (G.1 k, zE G P M k kd) H := by
  rcases (h.2 k _ hk).1 with ⟨a, b⟩ | ⟨a, b⟩
  · exact b
  · omega
theorem HR.nz {G : zG} {lay : List zKd} {P : zP} {M : zM} {H : Heap} {k t N : Nat} (h : HR G lay P M H) (hk : lay[k]? = some (.inl (t, N))) (ht : t ≠ 0) : va_at G.2.1 vwCl (G.1 k, zE G P M k (.inl (t, N))) H := by
  rcases (h.2 k _ hk).1 with ⟨a, b⟩ | ⟨a, N, cell, h1, h2⟩
  · exact b
  · cases h1
    exact absurd rfl ht
def GK (G : zG) : Prop := (∀ k, G.1 (k + 2) = G.2.2.2.1.size + k) ∧ (G.1 0 < G.2.2.2.1.size ∧ G.1 1 < G.2.2.2.1.size) ∧ (∀ s U : State, s.WarmedH U.vm → G.2.2.2.2 s → G.2.2.2.2 U) ∧ ∀ (U : State) (g : JFrame) (mk : MethodId) (a : Array Value), G.2.2.2.2 U → G.2.2.2.2 (U.calling g mk a)
def zA (G : zG) : Nat → Prop := fun q => G.2.2.2.1.size ≤ q
/-- the tables' words that every call keeps -/
def zt : List Cond := lw_tbl.filter goodWord
def isNest (w : Cond) : Bool := match w with
  | .methodLinkNest .. => true
  | _ => false
def zNest : List Cond := lw_tbl.filter isNest
def ztys (G : zG) : List (ClassId × FieldType) := [(G.2.2.1 0, .int), (G.2.2.1 1, .boolean), (G.2.2.1 2, .long), (G.2.2.1 3, .object "StaticDial$Law"), (G.2.2.1 4, .object "StaticDial$State")]
def KK (G : zG) (U : State) : Prop := va_K G.2.1 vwCl (ztys G) U ∧ (∀ w ∈ zNest, va_Nw w U) ∧ ((va_AO "StaticDial$Law" U ∧ ArrOfT U (G.2.2.1 5) .int ∧ ArrOfT U (G.2.2.1 6) .int) ∧ va_AO "StaticDial$State" U) ∧ va_Z "StaticDial$Reader" "RANKS" "[I" (.ref (G.1 1)) (zA G) U G.2.2.2.1 ∧ G.2.2.2.2 U
theorem KK.warm {G : zG} (hG : GK G) {s U : State} (hW : s.WarmedH U.vm) (h : KK G s) : KK G U := by
  refine ⟨va_K.moved hW.alike h.1, fun w hw => ?_, ⟨⟨va_AO.moved hW.alike h.2.2.1.1.1, arrOfT_moved hW.alike h.2.2.1.1.2.1, arrOfT_moved hW.alike h.2.2.1.1.2.2⟩, va_AO.moved hW.alike h.2.2.1.2⟩, va_Z.moved hW.alike h.2.2.2.1, hG.2.2.1 s U hW h.2.2.2.2⟩
  have h1 := h.2.1 w hw
  have h2 := (List.mem_filter.mp hw).2
  cases w <;> first | (cases h2; done) | exact va_Nw.warmM hW h1
theorem KK.call {G : zG} (hG : GK G) {U : State} {g : JFrame} {mk : MethodId} {a : Array Value} (h : KK G U) : KK G (U.calling g mk a) := by
  have hv : U.vm = (U.calling g mk a).vm := rfl
  have ha : U.vm.Alike (U.calling g mk a).vm := Vm.Alike.refl U.vm
  refine ⟨va_K.moved ha h.1, fun w hw => ?_, ⟨⟨va_AO.moved ha h.2.2.1.1.1, arrOfT_moved ha h.2.2.1.1.2.1, arrOfT_moved ha h.2.2.1.1.2.2⟩, va_AO.moved ha h.2.2.1.2⟩, va_Z.moved ha h.2.2.2.1, hG.2.2.2 U g mk a h.2.2.2.2⟩
  have h1 := h.2.1 w hw
  have h2 := (List.mem_filter.mp hw).2
  cases w <;> first | (cases h2; done) | exact va_Nw.same rfl hv h1
/-- a method's data: its class, its name, its code, its locals, what it returns, its room -/
abbrev zMd : Type := String × String × ByteArray × Nat × Option FieldType × Room
def Cx (G : zG) (md : zMd) (p : Program) (s : State) (m : MethodId) (args : Array Value) (meth : Method) (c : Code) : Prop :=
  p.tables.exec = Jvm.exec ∧ c.code = md.2.2.1 ∧ c.maxLocals = md.2.2.2.1 ∧ meth.sig.returnType = md.2.2.2.2.1 ∧ meth.locks = false ∧ s.vm.findClass md.1 = some m.cls ∧ (∀ w ∈ zt, w.before args s = true) ∧ KK G s ∧ meth.name = md.2.1 ∧ ∀ q, q < G.2.2.2.1.size → s.heap[q]? = G.2.2.2.1[q]?
/-- the listed locals as places and values -/
def zp (ad : Nat → Nat) (ls : List (Option av)) : List (Nat × Value) := (List.range ls.length).filterMap (fun i => (ls.getD i none).map (fun v => (i, cv ad v)))
abbrev zZ : Type := Option av → List zKd → zP → zM → Prop
def zQ (G : zG) (Z : zZ) : Array Value → State → Outcome → State → Prop := fun _ _ oc t => ∃ (r : Option av) (lay : List zKd) (P : zP) (M : zM), oc = .returned (r.map (cv G.1)) ∧ Z r lay P M ∧ HR G lay P M t.heap
def AW (G : zG) (l : Launch) (md : zMd) (Z : zZ) (pc : Nat) (ls : List (Option av)) (st : List av) (lay : List zKd) (P : zP) (M : zM) (k n : Nat) : Prop :=
  GK G → ∀ (p : Program) (e : Env) (s : State) (m : MethodId) (args : Array Value) (below : List Frame) (meth : Method) (c : Code) (H : Heap) (locs : List Loc) (lsA : Array Slot),
    Cx G md p s m args meth c → lv_has lsA md.2.2.2.1 (zp G.1 ls) → HR G lay P M H → (∀ q ∈ locs, zA G q.base) →
    W p l e md.2.2.2.2.2 s m args below meth c H locs k n (MQ below (zQ G Z) args s md.2.2.2.2.2.cells md.2.2.2.2.2.slots (zA G)) (F0 m pc lsA (st.map (cv G.1)))
/-- a method's contract: on these arguments and this memory it returns with Z -/
def AM (G : zG) (l : Launch) (y : MethodName) (md : zMd) (ar : List av) (lay : List zKd) (P : zP) (M : zM) (Z : zZ) : Prop :=
  GK G → Met l y (.code y md.2.2.1 md.2.2.2.1 md.2.2.2.2.1 :: zt) md.2.2.2.2.2 (fun v U => v = (ar.map (cv G.1)).toArray ∧ HR G lay P M U.heap ∧ KK G U) (zQ G Z) md.2.2.2.2.2.cells md.2.2.2.2.2.slots (zA G)
-- ranges
theorem z32 {a : Int} (h : -2147483648 ≤ a ∧ a < 2147483648) : (Int32.ofInt a).toInt = a := Int32.toInt_ofInt_of_le (by have := h.1; simpa using this) (by have := h.2; simpa using this)
theorem z64 {a : Int} (h : -9223372036854775808 ≤ a ∧ a < 9223372036854775808) : (Int64.ofInt a).toInt = a := Int64.toInt_ofInt_of_le (by have := h.1; simpa using this) (by have := h.2; simpa using this)
abbrev inR (a : Int) : Prop := -2147483648 ≤ a ∧ a < 2147483648
abbrev inL (a : Int) : Prop := -9223372036854775808 ≤ a ∧ a < 9223372036854775808
theorem zlt {a b : Int} (ha : inR a) (hb : inR b) : Int32.ofInt a < Int32.ofInt b ↔ a < b := by rw [Int32.lt_iff_toInt_lt, z32 ha, z32 hb]
theorem zle {a b : Int} (ha : inR a) (hb : inR b) : Int32.ofInt a ≤ Int32.ofInt b ↔ a ≤ b := by rw [Int32.le_iff_toInt_le, z32 ha, z32 hb]
theorem zeq {a b : Int} (ha : inR a) (hb : inR b) : Int32.ofInt a = Int32.ofInt b ↔ a = b := by rw [← Int32.toInt_inj, z32 ha, z32 hb]
theorem zlt64 {a b : Int} (ha : inL a) (hb : inL b) : Int64.ofInt a < Int64.ofInt b ↔ a < b := by rw [Int64.lt_iff_toInt_lt, z64 ha, z64 hb]
theorem zle64 {a b : Int} (ha : inL a) (hb : inL b) : Int64.ofInt a ≤ Int64.ofInt b ↔ a ≤ b := by rw [Int64.le_iff_toInt_le, z64 ha, z64 hb]
theorem zeq64 {a b : Int} (ha : inL a) (hb : inL b) : Int64.ofInt a = Int64.ofInt b ↔ a = b := by rw [← Int64.toInt_inj, z64 ha, z64 hb]
theorem z0 : Int32.ofInt 0 = 0 := by decide
theorem z0L : Int64.ofInt 0 = 0 := by decide
theorem zcl {i : Nat} (h : i < 2147483648) : (Int32.ofInt (i : Int)).toNatClampNeg = i := by
  rw [Int32.ofInt_eq_ofNat]; exact Int32.toNatClampNeg_ofNat_of_lt (by simpa using h)
theorem zin {i n : Nat} (h : i < n) (hn : n < 2147483648) : vp_in (Int32.ofInt (i : Int)) n := by
  intro q
  rcases q with q | q
  · rw [Int32.lt_iff_toInt_lt, z32 ⟨by omega, by omega⟩] at q
    simp at q
    omega
  · rw [zcl (by omega)] at q
    omega
-- locals
theorem zp_mem {ad : Nat → Nat} {ls : List (Option av)} {q : Nat × Value} : q ∈ zp ad ls ↔ ∃ v, ls[q.1]? = some (some v) ∧ q.2 = cv ad v := by
  unfold zp
  rw [List.mem_filterMap]
  constructor
  · rintro ⟨i, hi, h⟩
    have hlt := List.mem_range.mp hi
    cases hg : ls.getD i none with
    | none => rw [hg] at h; cases h
    | some v =>
      rw [hg] at h
      simp only [Option.map_some, Option.some.injEq] at h
      subst h
      refine ⟨v, ?_, rfl⟩
      rw [List.getD_eq_getElem?_getD] at hg
      rw [List.getElem?_eq_getElem hlt] at hg ⊢
      simpa using hg
  · rintro ⟨v, h1, h2⟩
    refine ⟨q.1, List.mem_range.mpr (List.getElem?_eq_some_iff.mp h1).1, ?_⟩
    rw [List.getD_eq_getElem?_getD, h1]
    simp [← h2]
theorem zl_at {ad : Nat → Nat} {lsA : Array Slot} {n : Nat} {ls : List (Option av)} (h : lv_has lsA n (zp ad ls)) {i : Nat} {v : av} (hv : ls[i]? = some (some v)) : lsA[i]? = some (.val (cv ad v)) :=
  h.2.2 (i, cv ad v) (zp_mem.mpr ⟨v, hv, rfl⟩)
theorem zl_sub {ad : Nat → Nat} {lsA : Array Slot} {n : Nat} {l : List (Nat × Value)} {ls : List (Option av)} (h : lv_has lsA n l) (hs : ∀ i v, ls[i]? = some (some v) → (i, cv ad v) ∈ l) : lv_has lsA n (zp ad ls) := by
  refine ⟨h.1, h.2.1, fun q hq => ?_⟩
  obtain ⟨v, h1, h2⟩ := zp_mem.mp hq
  have := h.2.2 _ (hs q.1 v h1)
  rw [h2]; exact this
def zL (v : Option av) : Bool := match v with
  | some (.inr (.inl _)) => true
  | _ => false
/-- a value of one slot is stored at i -/
def zs1 (ls : List (Option av)) (i : Nat) (v : av) : List (Option av) := (ls.mapIdx (fun j w => if j + 1 = i ∧ zL w = true then none else w)).set i (some v)
/-- a long is stored at i -/
def zs2 (ls : List (Option av)) (i : Nat) (v : av) : List (Option av) := ((ls.mapIdx (fun j w => if j + 1 = i ∧ zL w = true then none else w)).set i (some v)).set (i + 1) none
theorem zcat {ad : Nat → Nat} {v : av} : (cv ad v).category = 2 → zL (some v) = true := by
  intro h
  match v, h with
  | .inl i, h => cases h
  | .inr (.inl i), h => rfl
  | .inr (.inr none), h => cases h
  | .inr (.inr (some a)), h => cases h
theorem zs1_ok {ad : Nat → Nat} {lsA : Array Slot} {n i : Nat} {ls : List (Option av)} {v : av} (h : lv_has lsA n ((i, cv ad v) :: (zp ad ls).filter (fun q => !(q.1 == i) && !(q.1 + 1 == i && q.2.category == 2)))) : lv_has lsA n (zp ad (zs1 ls i v)) := by
  refine zl_sub h fun j w hw => ?_
  unfold zs1 at hw
  rw [List.getElem?_set] at hw
  by_cases hij : i = j
  · subst hij
    rw [if_pos rfl] at hw
    split at hw
    · simp only [Option.some.injEq] at hw
      subst hw
      exact List.mem_cons_self
    · cases hw
  · rw [if_neg hij, List.getElem?_mapIdx] at hw
    cases hj : ls[j]? with
    | none => rw [hj] at hw; cases hw
    | some x =>
      rw [hj] at hw
      simp only [Option.map_some, Option.some.injEq] at hw
      split at hw
      · cases hw
      · rename_i hc
        subst hw
        refine List.mem_cons_of_mem _ (List.mem_filter.mpr ⟨zp_mem.mpr ⟨w, hj, rfl⟩, ?_⟩)
        simp only [Bool.and_eq_true, Bool.not_eq_true', beq_eq_false_iff_ne, ne_eq, Bool.and_eq_false_iff]
        refine ⟨fun e => hij e.symm, ?_⟩
        by_cases hji : j + 1 = i
        · right
          exact fun e => hc ⟨hji, zcat e⟩
        · left
          exact hji
theorem zs2_ok {ad : Nat → Nat} {lsA : Array Slot} {n i : Nat} {ls : List (Option av)} {v : av} (h : lv_has lsA n ((i, cv ad v) :: (zp ad ls).filter (fun q => !(q.1 == i) && (!(q.1 == i + 1) && !(q.1 + 1 == i && q.2.category == 2))))) : lv_has lsA n (zp ad (zs2 ls i v)) := by
  refine zl_sub h fun j w hw => ?_
  unfold zs2 at hw
  rw [List.getElem?_set] at hw
  by_cases hij1 : i + 1 = j
  · subst hij1
    rw [if_pos rfl] at hw
    split at hw
    · cases hw
    · cases hw
  rw [if_neg hij1, List.getElem?_set] at hw
  by_cases hij : i = j
  · subst hij
    rw [if_pos rfl] at hw
    split at hw
    · simp only [Option.some.injEq] at hw
      subst hw
      exact List.mem_cons_self
    · cases hw
  · rw [if_neg hij, List.getElem?_mapIdx] at hw
    cases hj : ls[j]? with
    | none => rw [hj] at hw; cases hw
    | some x =>
      rw [hj] at hw
      simp only [Option.map_some, Option.some.injEq] at hw
      split at hw
      · cases hw
      · rename_i hc
        subst hw
        refine List.mem_cons_of_mem _ (List.mem_filter.mpr ⟨zp_mem.mpr ⟨w, hj, rfl⟩, ?_⟩)
        simp only [Bool.and_eq_true, Bool.not_eq_true', beq_eq_false_iff_ne, ne_eq, Bool.and_eq_false_iff]
        refine ⟨fun e => hij e.symm, fun e => hij1 e.symm, ?_⟩
        by_cases hji : j + 1 = i
        · right
          exact fun e => hc ⟨hji, zcat e⟩
        · left
          exact hji
-- memory
def us (f : Int → Int) (i : Int) (v : Int) : Int → Int := fun j => if j = i then v else f j
def ur (M : zM) (k : Nat) (f : Int → Int) : zM := fun q => if q = k then f else M q
def sm (M : zM) (k : Nat) (i v : Int) : zM := ur M k (us (M k) i v)
def sp (P : zP) (k : Nat) (i : Int) (v : Option Nat) : zP := fun q => if q = k then (fun j => if j = i then v else P k j) else P q
theorem us_s (f : Int → Int) (i v : Int) : us f i v i = v := by simp [us]
theorem us_n {f : Int → Int} {i j v : Int} (h : j ≠ i) : us f i v j = f j := by simp [us, h]
theorem ur_s (M : zM) (k : Nat) (f : Int → Int) : ur M k f k = f := by simp [ur]
theorem ur_n {M : zM} {k q : Nat} {f : Int → Int} (h : q ≠ k) : ur M k f q = M q := by simp [ur, h]
theorem sm_k (M : zM) (k : Nat) (i v : Int) : sm M k i v k = us (M k) i v := by simp [sm, ur]
theorem sm_s (M : zM) (k : Nat) (i v : Int) : sm M k i v k i = v := by simp [sm, ur, us]
theorem sm_n {M : zM} {k q : Nat} {i v : Int} (h : q ≠ k) : sm M k i v q = M q := by simp [sm, ur, h]
theorem sp_n {P : zP} {k q : Nat} {i : Int} {v : Option Nat} (h : q ≠ k) : sp P k i v q = P q := by simp [sp, h]
theorem gk_ne {G : zG} (hG : GK G) {k q : Nat} (hk : 2 ≤ k) (h : q ≠ k) : G.1 q ≠ G.1 k := by
  obtain ⟨h1, ⟨h2, h3⟩, -⟩ := hG
  obtain ⟨k', rfl⟩ : ∃ k', k = k' + 2 := ⟨k - 2, by omega⟩
  rw [h1 k']
  match q, h with
  | 0, _ => omega
  | 1, _ => omega
  | q + 2, h => rw [h1 q]; omega
theorem gk_A {G : zG} (hG : GK G) {k : Nat} (hk : 2 ≤ k) : zA G (G.1 k) := by
  obtain ⟨k', rfl⟩ : ∃ k', k = k' + 2 := ⟨k - 2, by omega⟩
  unfold zA
  rw [hG.1 k']; omega
theorem zE_off {G : zG} {P P' : zP} {M M' : zM} {k : Nat} (h1 : P' k = P k) (h2 : M' k = M k) (kd : zKd) : zE G P' M' k kd = zE G P M k kd := by
  unfold zE zF zAc
  rw [h1, h2]
/-- one cell is written: the others stay -/
theorem HR.one {G : zG} (hG : GK G) {lay : List zKd} {P P' : zP} {M M' : zM} {H H1 : Heap} {k : Nat} {kd : zKd} (h : HR G lay P M H) (hk : 2 ≤ k) (hl : lay[k]? = some kd) (hc : va_at G.2.1 vwCl (G.1 k, zE G P' M' k kd) H1 ∧ zcan kd (M' k)) (z : H1.size = H.size) (oq : ∀ q, q ≠ G.1 k → H1[q]? = H[q]?)
    (hp : ∀ q, q ≠ k → P' q = P q) (hm : ∀ q, q ≠ k → M' q = M q) : HR G lay P' M' H1 := by
  refine ⟨⟨h.1.1, by rw [z]; exact h.1.2.1, fun q hq => (oq q (fun e => ?_)).trans (h.1.2.2 q hq)⟩, fun q kq hq => ?_⟩
  · have h9 := gk_A hG hk
    unfold zA at h9
    omega
  by_cases e : q = k
  · subst e
    rw [hl] at hq
    cases hq
    exact ⟨Or.inl ⟨hk, hc.1⟩, hc.2⟩
  · have h9 := (h.2 q kq hq).1.kept (oq _ (gk_ne hG hk e))
    refine ⟨?_, by rw [hm q e]; exact (h.2 q kq hq).2⟩
    unfold zat ZX at h9 ⊢
    rw [zE_off (hp q e) (hm q e), hm q e]
    exact h9
theorem zlo_add {G : zG} {locs : List Loc} (h : ∀ q ∈ locs, zA G q.base) {a i : Nat} (ha : zA G a) : ∀ q ∈ locs ++ [(⟨a, i⟩ : Loc)], zA G q.base := fun q hq => by
  rcases List.mem_append.mp hq with h1 | h1
  · exact h q h1
  · rw [List.mem_singleton.mp h1]
    exact ha
theorem zcan_a {t N : Nat} {M : zM} {q : Nat} {i x : Int} (h : zcan (.inl (t, N)) (M q)) (hx : zrng t x) : zcan (.inl (t, N)) (sm M q i x q) := by
  intro j h0 h1
  rw [sm_k]
  unfold us
  split
  · exact hx
  · exact h j h0 h1
theorem zcan_f {ci j c : Nat} {M : zM} {q : Nat} {x : Int} (h : zcan (.inr ci) (M q)) (ht : (zft ci)[j]? = some c) (hx : zrng c x) : zcan (.inr ci) (sm M q (j : Int) x q) := by
  intro j' c' h'
  rw [sm_k]
  unfold us
  split
  · rename_i e
    have e2 : j' = j := by omega
    subst e2
    rw [ht] at h'
    cases h'
    exact hx
  · exact h j' c' h'
theorem zF_len (G : zG) (P : zP) (M : zM) (k ci : Nat) : (zF G P M k ci).length = (zft ci).length := by simp [zF]
theorem zF_at {G : zG} {P : zP} {M : zM} {k ci j c : Nat} (h : (zft ci)[j]? = some c) : (zF G P M k ci)[j]? = some (zV G.1 c (M k (j : Int)) (P k (j : Int))) := by
  unfold zF
  rw [List.getElem?_mapIdx, h]
  rfl
theorem zF_set {G : zG} {P P' : zP} {M M' : zM} {k ci j c : Nat} (h : (zft ci)[j]? = some c) (hp : ∀ i : Int, i ≠ (j : Int) → P' k i = P k i) (hm : ∀ i : Int, i ≠ (j : Int) → M' k i = M k i) : zF G P' M' k ci = (zF G P M k ci).set j (zV G.1 c (M' k (j : Int)) (P' k (j : Int))) := by
  refine List.ext_getElem? fun i => ?_
  rw [List.getElem?_set]
  by_cases e : j = i
  · subst e
    rw [if_pos rfl, zF_at h, if_pos (by rw [zF_len]; exact (List.getElem?_eq_some_iff.mp h).1)]
  · rw [if_neg e]
    unfold zF
    rw [List.getElem?_mapIdx, List.getElem?_mapIdx, hp (i : Int) (fun q => e (by omega)), hm (i : Int) (fun q => e (by omega))]
theorem zgood : GoodIn zt zt := fun w hw => ⟨hw, good_of_word (List.mem_filter.mp hw).2⟩
theorem zmem {w : Cond} (h : w ∈ lw_tbl) (hg : goodWord w = true) : w ∈ zt := List.mem_filter.mpr ⟨h, hg⟩
theorem AM.of {G : zG} {l : Launch} {y : MethodName} {md : zMd} {ar : List av} {lay : List zKd} {P : zP} {M : zM} {Z : zZ} (hy : plainName y.cls = true) (ho : y.cls = md.1) (hn : y.name = md.2.1) (ls : List (Option av)) (hls : ∀ (i : Nat) (v : av), ls[i]? = some (some v) → (i, cv G.1 v) ∈ lv_args 0 (ar.map (cv G.1))) (hlen : (lg_sl (ar.map (cv G.1))).length ≤ md.2.2.2.1)
    (h : AW G l md Z 0 ls [] lay P M 0 0) : AM G l y md ar lay P M Z := by
  intro hG
  refine Met.ofW (cc := md.2.2.1) (maxL := md.2.2.2.1) (ret := md.2.2.2.2.1) hy rfl ?_
  intro p e s m args below meth c s₁ B hml hv
  obtain ⟨rfl, hH, hK⟩ := hv
  have hts := atoms_spec (ws := .code y md.2.2.1 md.2.2.2.1 md.2.2.2.2.1 :: zt) B.pre
  have hown : s.vm.findClass y.cls = some m.cls := findClass_of_methodNamed B.named
  have hl := lv_entry (ar.map (cv G.1)) (n := md.2.2.2.1) hlen
  rw [lg_entry_eq]
  exact h hG p e s m _ below meth c s.heap [] _ ⟨B.exec, B.bytes, hml, B.returns, B.notSynchronized, ho ▸ hown, fun w hw => hts w (List.mem_cons_of_mem _ hw), hK, (name_of_methodNamed B.named B.method).1.trans hn, hH.1.2.2⟩ (zl_sub hl hls) hH (fun _ h => absurd h List.not_mem_nil)
/-- a given array, as the kit reads it -/
theorem ZX.T {G : zG} {lay : List zKd} {P : zP} {M : zM} {H : Heap} {md : zMd} {p : Program} {l : Launch} {e : Env} {R : Room} {s T : State} {m : MethodId} {args : Array Value} {below : List Frame} {meth : Method} {c : Code} {locs : List Loc} {cells slots k t N : Nat} (hG : GK G) (hC : Cx G md p s m args meth c) (hH : HR G lay P M H) (hS : ∀ q ∈ locs, zA G q.base) (hk2 : k < 2) (hz : ZX G M k (.inl (t, N)) H) (hT : T.heap = H) (X : Stand p l e R s m args below meth c T locs cells slots) : va_T .int (G.1 k) N (fun j => .int (Int32.ofInt (M k (j : Int)))) (zA G) s s.heap ∧ va_S (zA G) s.heap H locs := by
  obtain ⟨N9, cell, h1, h2, h3, h4, h5, h6, h7, h8⟩ := hz
  cases h1
  have hlt : G.1 k < G.2.2.2.1.size := by
    rcases (show k = 0 ∨ k = 1 by omega) with rfl | rfl
    · exact hG.2.1.1
    · exact hG.2.1.2
  have hA : ArrOfT s (G.2.2.1 (k + 5)) .int := by
    rcases (show k = 0 ∨ k = 1 by omega) with rfl | rfl
    · exact hC.2.2.2.2.2.2.2.1.2.2.1.1.2.1
    · exact hC.2.2.2.2.2.2.2.1.2.2.1.1.2.2
  have hsz : s.heap.size ≤ H.size := by rw [← hT]; exact (vx_frame (U := T) X.same).1
  refine ⟨⟨cell, by rw [hC.2.2.2.2.2.2.2.2.2 _ hlt, ← hH.1.2.2 _ hlt]; exact h2, ⟨h3, ?_⟩, h4, h5, h6, h7, fun z => ?_⟩, hsz, fun q a b => ?_, hS⟩
  · rw [h8]; exact (hA 0 (fun _ => .null)).2
  · unfold zA at z; omega
  · have h9 : q < G.2.2.2.1.size := Nat.not_le.mp b
    rw [hH.1.2.2 q h9, hC.2.2.2.2.2.2.2.2.2 q h9]
end ZB
