section ZEN
/-- the locals at a method's entry -/
def zent : List av → List (Option av)
  | [] => []
  | v :: vs => if zL (some v) = true then some v :: none :: zent vs else some v :: zent vs
theorem zcatL (ad : Nat → Nat) (v : av) : ((cv ad v).category = 2) = (zL (some v) = true) := by
  match v with
  | .inl i => simp [cv, zL, Value.category]
  | .inr (.inl i) => simp [cv, zL, Value.category]
  | .inr (.inr none) => simp [cv, zL, Value.category, va_rf]
  | .inr (.inr (some a)) => simp [cv, zL, Value.category, va_rf]
theorem zent_ok (ad : Nat → Nat) : ∀ (ar : List av) (off i : Nat) (v : av), (zent ar)[i]? = some (some v) → (off + i, cv ad v) ∈ lv_args off (ar.map (cv ad))
  | [], off, i, v, h => by simp [zent] at h
  | a :: ar, off, i, v, h => by
    unfold zent at h
    rw [List.map_cons, lv_args]
    by_cases hL : zL (some a) = true
    · rw [if_pos hL] at h
      rw [if_pos (by rw [zcatL]; exact hL)]
      match i, h with
      | 0, h =>
        simp only [List.getElem?_cons_zero, Option.some.injEq] at h
        subst h
        exact List.mem_cons_self
      | 1, h => simp at h
      | i + 2, h =>
        simp only [List.getElem?_cons_succ] at h
        have := zent_ok ad ar (off + 2) i v h
        rw [show off + (i + 2) = off + 2 + i by omega]
        exact List.mem_cons_of_mem _ this
    · rw [if_neg hL] at h
      rw [if_neg (by rw [zcatL]; exact hL)]
      match i, h with
      | 0, h =>
        simp only [List.getElem?_cons_zero, Option.some.injEq] at h
        subst h
        exact List.mem_cons_self
      | i + 1, h =>
        simp only [List.getElem?_cons_succ] at h
        have := zent_ok ad ar (off + 1) i v h
        rw [show off + (i + 1) = off + 1 + i by omega]
        exact List.mem_cons_of_mem _ this
theorem zent_len (ad : Nat → Nat) : ∀ ar : List av, (lg_sl (ar.map (cv ad))).length = (zent ar).length
  | [] => rfl
  | a :: ar => by
    have ih := zent_len ad ar
    unfold zent
    rw [List.map_cons]
    unfold lg_sl at ih ⊢
    rw [List.flatMap_cons, List.length_append]
    by_cases hL : zL (some a) = true
    · rw [if_pos hL, if_pos (by rw [zcatL]; exact hL), ih]
      simp
      omega
    · rw [if_neg hL, if_neg (by rw [zcatL]; exact hL), ih]
      simp
      omega
theorem AM.go {G : zG} {l : Launch} {y : MethodName} {md : zMd} {ar : List av} {lay : List zKd} {P : zP} {M : zM} {Z : zZ} (ls : List (Option av)) (hls : zent ar ++ List.replicate (md.2.2.2.1 - (zent ar).length) none = ls) (hlen : (zent ar).length ≤ md.2.2.2.1) (h : AW G l md Z 0 ls [] lay P M 0 0) (hy : plainName y.cls = true) (ho : y.cls = md.1) (hn : y.name = md.2.1) : AM G l y md ar lay P M Z := by
  refine AM.of hy ho hn ls (fun i v hv => ?_) (by rw [zent_len]; exact hlen) h
  subst hls
  rw [List.getElem?_append] at hv
  split at hv
  · have := zent_ok G.1 ar 0 i v hv
    rwa [Nat.zero_add] at this
  · rw [List.getElem?_replicate] at hv
    split at hv
    · cases hv
    · cases hv
theorem zdet_i {r : Option av} {lay : List zKd} {P : zP} {M : zM} : zdet r lay P M r lay P M := ⟨rfl, rfl, rfl, rfl⟩
theorem zdet_M {r r' : Option av} {lay : List zKd} {P : zP} {M M' : zM} (h : M' = M) (hr : r' = r) : zdet r lay P M r' lay P M' := ⟨hr, rfl, rfl, h⟩
end ZEN
section ZEN2
variable {G : zG} {l : Launch} {md : zMd} {Z : zZ} {pc : Nat} {ls : List (Option av)} {st : List av} {lay : List zKd} {P : zP} {M : zM} {k n : Nat}
theorem b_iald {q N : Nat} {x : Int} (d : decode md.2.2.1 pc = .ok (.iaload, 1)) (hk : lay[q]? = some (.inl (0, N))) (hN : N < 2147483648) (h0 : 0 ≤ x) (h1 : x < N) (kk : inR (M q x) → AW G l md Z (pc + 1) ls (aI (M q x) :: st) lay P M k n) : AW G l md Z pc ls (aI x :: aR q :: st) lay P M k n := a_iald d hk hN h0 h1 kk
theorem b_zald {q N : Nat} {x : Int} (d : decode md.2.2.1 pc = .ok (.baload, 1)) (hk : lay[q]? = some (.inl (1, N))) (hN : N < 2147483648) (h0 : 0 ≤ x) (h1 : x < N) (kk : (M q x = 0 ∨ M q x = 1) → AW G l md Z (pc + 1) ls (aI (M q x) :: st) lay P M k n) : AW G l md Z pc ls (aI x :: aR q :: st) lay P M k n := a_zald d hk hN h0 h1 kk
theorem b_lald {q N : Nat} {x : Int} (d : decode md.2.2.1 pc = .ok (.laload, 1)) (hk : lay[q]? = some (.inl (2, N))) (hN : N < 2147483648) (h0 : 0 ≤ x) (h1 : x < N) (kk : inL (M q x) → AW G l md Z (pc + 1) ls (aL (M q x) :: st) lay P M k n) : AW G l md Z pc ls (aI x :: aR q :: st) lay P M k n := a_lald d hk hN h0 h1 kk
theorem b_getI {q ci j idx : Nat} {ty : FieldType} {fin : Bool} {dcl : String} {j' : Int} (d : decode md.2.2.1 pc = .ok (.getfield idx, 3)) (hf : FL md.1 idx ci j ty fin dcl) (ht : (zft ci)[j]? = some 0) (hj : (j : Int) = j') (hk : lay[q]? = some (.inr ci)) (kk : inR (M q j') → AW G l md Z (pc + 3) ls (aI (M q j') :: st) lay P M k n) : AW G l md Z pc ls (aR q :: st) lay P M k n := a_getI d hf ht hj hk kk
theorem b_getZ {q ci j idx : Nat} {ty : FieldType} {fin : Bool} {dcl : String} {j' : Int} (d : decode md.2.2.1 pc = .ok (.getfield idx, 3)) (hf : FL md.1 idx ci j ty fin dcl) (ht : (zft ci)[j]? = some 1) (hj : (j : Int) = j') (hk : lay[q]? = some (.inr ci)) (kk : (M q j' = 0 ∨ M q j' = 1) → AW G l md Z (pc + 3) ls (aI (M q j') :: st) lay P M k n) : AW G l md Z pc ls (aR q :: st) lay P M k n := a_getZ d hf ht hj hk kk
theorem b_getL {q ci j idx : Nat} {ty : FieldType} {fin : Bool} {dcl : String} {j' : Int} (d : decode md.2.2.1 pc = .ok (.getfield idx, 3)) (hf : FL md.1 idx ci j ty fin dcl) (ht : (zft ci)[j]? = some 2) (hj : (j : Int) = j') (hk : lay[q]? = some (.inr ci)) (kk : inL (M q j') → AW G l md Z (pc + 3) ls (aL (M q j') :: st) lay P M k n) : AW G l md Z pc ls (aR q :: st) lay P M k n := a_getL d hf ht hj hk kk
def iabs (x : Int) : Int := if 0 ≤ x then x else -x
theorem iabs_b (x : Int) : 0 ≤ iabs x ∧ (iabs x = x ∨ iabs x = -x) := by
  unfold iabs
  split <;> omega
def zok (ls : List (Option av)) (i : Nat) : Bool := match i with
  | 0 => true
  | j + 1 => !(zL (ls.getD j none))
theorem zok_map {ls : List (Option av)} {i : Nat} (h : zok ls i = true) : ls.mapIdx (fun j w => if j + 1 = i ∧ zL w = true then none else w) = ls := by
  refine List.ext_getElem? fun j => ?_
  rw [List.getElem?_mapIdx]
  cases hj : ls[j]? with
  | none => rfl
  | some w =>
    simp only [Option.map_some]
    rw [if_neg]
    rintro ⟨e, hw⟩
    subst e
    have h : (!zL (ls.getD j none)) = true := h
    rw [List.getD_eq_getElem?_getD, hj] at h
    simp [hw] at h
theorem zs1_set {ls : List (Option av)} {i : Nat} {v : av} (h : zok ls i = true) : zs1 ls i v = ls.set i (some v) := by unfold zs1; rw [zok_map h]
theorem zs2_set {ls : List (Option av)} {i : Nat} {v : av} (h : zok ls i = true) : zs2 ls i v = (ls.set i (some v)).set (i + 1) none := by unfold zs2; rw [zok_map h]
theorem c_istore {i : Nat} {x : Int} {ls' : List (Option av)} (d : decode md.2.2.1 pc = .ok (.istore i, 2)) (hi : i < md.2.2.2.1) (ho : zok ls i = true) (hs : ls.set i (some (aI x)) = ls') (kk : AW G l md Z (pc + 2) ls' st lay P M k n) : AW G l md Z pc ls (aI x :: st) lay P M k n := a_istore d hi ((zs1_set ho).trans hs) kk
theorem c_istoren {i : Fin 4} {x : Int} {ls' : List (Option av)} (d : decode md.2.2.1 pc = .ok (.istore_n i, 1)) (hi : (i : Nat) < md.2.2.2.1) (ho : zok ls i = true) (hs : ls.set i (some (aI x)) = ls') (kk : AW G l md Z (pc + 1) ls' st lay P M k n) : AW G l md Z pc ls (aI x :: st) lay P M k n := a_istoren d hi ((zs1_set ho).trans hs) kk
theorem c_astore {i : Nat} {x : Nat} {ls' : List (Option av)} (d : decode md.2.2.1 pc = .ok (.astore i, 2)) (hi : i < md.2.2.2.1) (ho : zok ls i = true) (hs : ls.set i (some (aR x)) = ls') (kk : AW G l md Z (pc + 2) ls' st lay P M k n) : AW G l md Z pc ls (aR x :: st) lay P M k n := a_astore d hi ((zs1_set ho).trans hs) kk
theorem c_astoren {i : Fin 4} {x : Nat} {ls' : List (Option av)} (d : decode md.2.2.1 pc = .ok (.astore_n i, 1)) (hi : (i : Nat) < md.2.2.2.1) (ho : zok ls i = true) (hs : ls.set i (some (aR x)) = ls') (kk : AW G l md Z (pc + 1) ls' st lay P M k n) : AW G l md Z pc ls (aR x :: st) lay P M k n := a_astoren d hi ((zs1_set ho).trans hs) kk
theorem c_lstore {i : Nat} {x : Int} {ls' : List (Option av)} (d : decode md.2.2.1 pc = .ok (.lstore i, 2)) (hi : i + 1 < md.2.2.2.1) (ho : zok ls i = true) (hs : (ls.set i (some (aL x))).set (i + 1) none = ls') (kk : AW G l md Z (pc + 2) ls' st lay P M k n) : AW G l md Z pc ls (aL x :: st) lay P M k n := a_lstore d hi ((zs2_set ho).trans hs) kk
theorem c_lstoren {i : Fin 4} {x : Int} {ls' : List (Option av)} (d : decode md.2.2.1 pc = .ok (.lstore_n i, 1)) (hi : (i : Nat) + 1 < md.2.2.2.1) (ho : zok ls i = true) (hs : (ls.set i (some (aL x))).set (i + 1) none = ls') (kk : AW G l md Z (pc + 1) ls' st lay P M k n) : AW G l md Z pc ls (aL x :: st) lay P M k n := a_lstoren d hi ((zs2_set ho).trans hs) kk
theorem c_iinc {i : Nat} {x v : Int} {ls' : List (Option av)} (d : decode md.2.2.1 pc = .ok (.iinc i v, 3)) (hv : ls[i]? = some (some (aI x))) (hi : i < md.2.2.2.1) (ho : zok ls i = true) (hs : ls.set i (some (aI (x + v))) = ls') (kk : AW G l md Z (pc + 3) ls' st lay P M k n) : AW G l md Z pc ls st lay P M k n := a_iinc d hv hi ((zs1_set ho).trans hs) kk
theorem c_abs {x : Int} {idx : Nat} (d : decode md.2.2.1 pc = .ok (.invokestatic idx, 3)) (hw : Cond.methodLink md.1 idx Lib.Math.abs.name ∈ zt ∧ Cond.static Lib.Math.abs.name ∈ zt ∧ Cond.initialized "java/lang/Math" ∈ zt ∧ Cond.code Lib.Math.abs.name Lib.Math.abs.code 1 (some .int) ∈ zt) (hcat : (st.map zcat1).sum ≤ 8) (hR : 1 ≤ md.2.2.2.2.2.frames ∧ 21 ≤ md.2.2.2.2.2.locals) (hkn : k ≤ md.2.2.2.2.2.cells ∧ n ≤ md.2.2.2.2.2.slots) (hx : inR x) (kk : AW G l md Z (pc + 3) ls (aI (iabs x) :: st) lay P M k n) : AW G l md Z pc ls (aI x :: st) lay P M k n := a_abs d hw hcat hR hkn hx kk
theorem zdet_I {x y : Int} {lay : List zKd} {P : zP} {M M' : zM} (hr : x = y) (h : M = M') : zdet (some (aI y)) lay P M' (some (aI x)) lay P M := ⟨by rw [hr], rfl, rfl, h⟩
theorem zdet_L {x y : Int} {lay : List zKd} {P : zP} {M M' : zM} (hr : x = y) (h : M = M') : zdet (some (aL y)) lay P M' (some (aL x)) lay P M := ⟨by rw [hr], rfl, rfl, h⟩
theorem zdet_V {lay : List zKd} {P : zP} {M M' : zM} (h : M = M') : zdet none lay P M' none lay P M := ⟨rfl, rfl, rfl, h⟩
end ZEN2
