section ZAQ
abbrev zQQ : Type := List Frame → State → Array Value → State → Prop
/-- the machine at a pc, with any end -/
def AQ (G : zG) (l : Launch) (md : zMd) (Q : zQQ) (pc : Nat) (ls : List (Option av)) (st : List av) (lay : List zKd) (P : zP) (M : zM) (k n : Nat) : Prop :=
  GK G → ∀ (p : Program) (e : Env) (s : State) (m : MethodId) (args : Array Value) (below : List Frame) (meth : Method) (c : Code) (H : Heap) (locs : List Loc) (lsA : Array Slot),
    Cx G md p s m args meth c → lv_has lsA md.2.2.2.1 (zp G.1 ls) → HR G lay P M H → (∀ q ∈ locs, zA G q.base) →
    W p l e md.2.2.2.2.2 s m args below meth c H locs k n (Q below s args) (F0 m pc lsA (st.map (cv G.1)))
variable {G : zG} {l : Launch} {md : zMd} {Z : zQQ} {pc : Nat} {ls : List (Option av)} {st : List av} {lay : List zKd} {P : zP} {M : zM} {k n : Nat}
theorem x_iconst {v : Int} (d : decode md.2.2.1 pc = .ok (.iconst v, 1))  (kk : AQ G l md Z (pc + 1) ls (aI v :: st) lay P M (k) (n)) : AQ G l md Z (pc) ls (st) lay P M (k) (n) := by
  intro hG p e s m args below meth c H locs lsA hC hl hH hS
  have h := kk hG p e s m args below meth c H locs lsA hC hl hH hS
  exact lv_iconst hC.1 hC.2.1 d rfl h
theorem x_bipush {v w : Int} (d : decode md.2.2.1 pc = .ok (.bipush v, 2)) (hv : (Int8.ofInt v).toInt32 = Int32.ofInt w) (kk : AQ G l md Z (pc + 2) ls (aI w :: st) lay P M (k) (n)) : AQ G l md Z (pc) ls (st) lay P M (k) (n) := by
  intro hG p e s m args below meth c H locs lsA hC hl hH hS
  have h := kk hG p e s m args below meth c H locs lsA hC hl hH hS
  exact lv_bipush hC.1 hC.2.1 d hv h
theorem x_sipush {v w : Int} (d : decode md.2.2.1 pc = .ok (.sipush v, 3)) (hv : (Int16.ofInt v).toInt32 = Int32.ofInt w) (kk : AQ G l md Z (pc + 3) ls (aI w :: st) lay P M (k) (n)) : AQ G l md Z (pc) ls (st) lay P M (k) (n) := by
  intro hG p e s m args below meth c H locs lsA hC hl hH hS
  have h := kk hG p e s m args below meth c H locs lsA hC hl hH hS
  exact lv_sipush hC.1 hC.2.1 d hv h
theorem x_lconst {v : Fin 2} {w : Int} (d : decode md.2.2.1 pc = .ok (.lconst v, 1)) (hv : Int64.ofNat (v : Nat) = Int64.ofInt w) (kk : AQ G l md Z (pc + 1) ls (aL w :: st) lay P M (k) (n)) : AQ G l md Z (pc) ls (st) lay P M (k) (n) := by
  intro hG p e s m args below meth c H locs lsA hC hl hH hS
  have h := kk hG p e s m args below meth c H locs lsA hC hl hH hS
  exact lv_lconst hC.1 hC.2.1 d hv h
theorem x_ldc {i : Nat} {v : Int32} {w : Int} (d : decode md.2.2.1 pc = .ok (.ldc i, 2)) (hw : Cond.constant md.1 i v ∈ zt) (hv : Int32.ofInt w = v) (kk : AQ G l md Z (pc + 2) ls (aI w :: st) lay P M (k) (n)) : AQ G l md Z (pc) ls (st) lay P M (k) (n) := by
  intro hG p e s m args below meth c H locs lsA hC hl hH hS
  have h := kk hG p e s m args below meth c H locs lsA hC hl hH hS
  subst hv
  exact lv_ldc hC.1 hC.2.1 hC.2.2.2.2.2.1 (hC.2.2.2.2.2.2.1 _ hw) d h
theorem x_ldcw {i : Nat} {v : Int32} {w : Int} (d : decode md.2.2.1 pc = .ok (.ldc_w i, 3)) (hw : Cond.constant md.1 i v ∈ zt) (hv : Int32.ofInt w = v) (kk : AQ G l md Z (pc + 3) ls (aI w :: st) lay P M (k) (n)) : AQ G l md Z (pc) ls (st) lay P M (k) (n) := by
  intro hG p e s m args below meth c H locs lsA hC hl hH hS
  have h := kk hG p e s m args below meth c H locs lsA hC hl hH hS
  subst hv
  exact lv_ldcw hC.1 hC.2.1 hC.2.2.2.2.2.1 (hC.2.2.2.2.2.2.1 _ hw) d h
theorem x_ldc2 {i : Nat} {v : Int64} {w : Int} (d : decode md.2.2.1 pc = .ok (.ldc2_w i, 3)) (hw : Cond.constantLong md.1 i v ∈ zt) (hv : Int64.ofInt w = v) (kk : AQ G l md Z (pc + 3) ls (aL w :: st) lay P M (k) (n)) : AQ G l md Z (pc) ls (st) lay P M (k) (n) := by
  intro hG p e s m args below meth c H locs lsA hC hl hH hS
  have h := kk hG p e s m args below meth c H locs lsA hC hl hH hS
  subst hv
  exact lv_ldc2 hC.1 hC.2.1 hC.2.2.2.2.2.1 (hC.2.2.2.2.2.2.1 _ hw) d h
theorem x_iload {i : Nat} {x : Int} (d : decode md.2.2.1 pc = .ok (.iload i, 2)) (hv : ls[i]? = some (some (aI x))) (kk : AQ G l md Z (pc + 2) ls (aI x :: st) lay P M (k) (n)) : AQ G l md Z (pc) ls (st) lay P M (k) (n) := by
  intro hG p e s m args below meth c H locs lsA hC hl hH hS
  have h := kk hG p e s m args below meth c H locs lsA hC hl hH hS
  exact lv_iload hC.1 hC.2.1 d (zl_at hl hv) h
theorem x_iloadn {i : Fin 4} {x : Int} (d : decode md.2.2.1 pc = .ok (.iload_n i, 1)) (hv : ls[(i : Nat)]? = some (some (aI x))) (kk : AQ G l md Z (pc + 1) ls (aI x :: st) lay P M (k) (n)) : AQ G l md Z (pc) ls (st) lay P M (k) (n) := by
  intro hG p e s m args below meth c H locs lsA hC hl hH hS
  have h := kk hG p e s m args below meth c H locs lsA hC hl hH hS
  exact lv_iload_n hC.1 hC.2.1 d rfl (zl_at hl hv) h
theorem x_lload {i : Nat} {x : Int} (d : decode md.2.2.1 pc = .ok (.lload i, 2)) (hv : ls[i]? = some (some (aL x))) (kk : AQ G l md Z (pc + 2) ls (aL x :: st) lay P M (k) (n)) : AQ G l md Z (pc) ls (st) lay P M (k) (n) := by
  intro hG p e s m args below meth c H locs lsA hC hl hH hS
  have h := kk hG p e s m args below meth c H locs lsA hC hl hH hS
  exact lv_lload hC.1 hC.2.1 d (zl_at hl hv) h
theorem x_lloadn {i : Fin 4} {x : Int} (d : decode md.2.2.1 pc = .ok (.lload_n i, 1)) (hv : ls[(i : Nat)]? = some (some (aL x))) (kk : AQ G l md Z (pc + 1) ls (aL x :: st) lay P M (k) (n)) : AQ G l md Z (pc) ls (st) lay P M (k) (n) := by
  intro hG p e s m args below meth c H locs lsA hC hl hH hS
  have h := kk hG p e s m args below meth c H locs lsA hC hl hH hS
  exact lv_lload_n hC.1 hC.2.1 d rfl (zl_at hl hv) h
theorem x_aload {i x : Nat} (d : decode md.2.2.1 pc = .ok (.aload i, 2)) (hv : ls[i]? = some (some (aR x))) (kk : AQ G l md Z (pc + 2) ls (aR x :: st) lay P M (k) (n)) : AQ G l md Z (pc) ls (st) lay P M (k) (n) := by
  intro hG p e s m args below meth c H locs lsA hC hl hH hS
  have h := kk hG p e s m args below meth c H locs lsA hC hl hH hS
  exact lv_aload hC.1 hC.2.1 d (zl_at hl hv) h
theorem x_aloadn {i : Fin 4} {x : Nat} (d : decode md.2.2.1 pc = .ok (.aload_n i, 1)) (hv : ls[(i : Nat)]? = some (some (aR x))) (kk : AQ G l md Z (pc + 1) ls (aR x :: st) lay P M (k) (n)) : AQ G l md Z (pc) ls (st) lay P M (k) (n) := by
  intro hG p e s m args below meth c H locs lsA hC hl hH hS
  have h := kk hG p e s m args below meth c H locs lsA hC hl hH hS
  exact lv_aload_n hC.1 hC.2.1 d rfl (zl_at hl hv) h
theorem x_istore {i : Nat} {x : Int} {ls' : List (Option av)} (d : decode md.2.2.1 pc = .ok (.istore i, 2)) (hi : i < md.2.2.2.1) (hs : zs1 ls i (aI x) = ls') (kk : AQ G l md Z (pc + 2) ls' (st) lay P M (k) (n)) : AQ G l md Z (pc) ls (aI x :: st) lay P M (k) (n) := by
  intro hG p e s m args below meth c H locs lsA hC hl hH hS
  subst hs
  exact lv_istore hC.1 hC.2.1 d hl hi rfl (fun ls2 h2 => kk hG p e s m args below meth c H locs ls2 hC (zs1_ok h2) hH hS)
theorem x_istoren {i : Fin 4} {x : Int} {ls' : List (Option av)} (d : decode md.2.2.1 pc = .ok (.istore_n i, 1)) (hi : (i : Nat) < md.2.2.2.1) (hs : zs1 ls (i : Nat) (aI x) = ls') (kk : AQ G l md Z (pc + 1) ls' (st) lay P M (k) (n)) : AQ G l md Z (pc) ls (aI x :: st) lay P M (k) (n) := by
  intro hG p e s m args below meth c H locs lsA hC hl hH hS
  subst hs
  exact lv_istore_n hC.1 hC.2.1 d rfl hl hi rfl (fun ls2 h2 => kk hG p e s m args below meth c H locs ls2 hC (zs1_ok h2) hH hS)
theorem x_lstore {i : Nat} {x : Int} {ls' : List (Option av)} (d : decode md.2.2.1 pc = .ok (.lstore i, 2)) (hi : i + 1 < md.2.2.2.1) (hs : zs2 ls i (aL x) = ls') (kk : AQ G l md Z (pc + 2) ls' (st) lay P M (k) (n)) : AQ G l md Z (pc) ls (aL x :: st) lay P M (k) (n) := by
  intro hG p e s m args below meth c H locs lsA hC hl hH hS
  subst hs
  exact lv_lstore hC.1 hC.2.1 d hl hi rfl (fun ls2 h2 => kk hG p e s m args below meth c H locs ls2 hC (zs2_ok h2) hH hS)
theorem x_lstoren {i : Fin 4} {x : Int} {ls' : List (Option av)} (d : decode md.2.2.1 pc = .ok (.lstore_n i, 1)) (hi : (i : Nat) + 1 < md.2.2.2.1) (hs : zs2 ls (i : Nat) (aL x) = ls') (kk : AQ G l md Z (pc + 1) ls' (st) lay P M (k) (n)) : AQ G l md Z (pc) ls (aL x :: st) lay P M (k) (n) := by
  intro hG p e s m args below meth c H locs lsA hC hl hH hS
  subst hs
  exact lv_lstore_n hC.1 hC.2.1 d rfl hl hi rfl (fun ls2 h2 => kk hG p e s m args below meth c H locs ls2 hC (zs2_ok h2) hH hS)
theorem x_astore {i : Nat} {x : Nat} {ls' : List (Option av)} (d : decode md.2.2.1 pc = .ok (.astore i, 2)) (hi : i < md.2.2.2.1) (hs : zs1 ls i (aR x) = ls') (kk : AQ G l md Z (pc + 2) ls' (st) lay P M (k) (n)) : AQ G l md Z (pc) ls (aR x :: st) lay P M (k) (n) := by
  intro hG p e s m args below meth c H locs lsA hC hl hH hS
  subst hs
  exact lv_astore hC.1 hC.2.1 d hl hi rfl (fun ls2 h2 => kk hG p e s m args below meth c H locs ls2 hC (zs1_ok h2) hH hS)
theorem x_astoren {i : Fin 4} {x : Nat} {ls' : List (Option av)} (d : decode md.2.2.1 pc = .ok (.astore_n i, 1)) (hi : (i : Nat) < md.2.2.2.1) (hs : zs1 ls (i : Nat) (aR x) = ls') (kk : AQ G l md Z (pc + 1) ls' (st) lay P M (k) (n)) : AQ G l md Z (pc) ls (aR x :: st) lay P M (k) (n) := by
  intro hG p e s m args below meth c H locs lsA hC hl hH hS
  subst hs
  exact lv_astore_n hC.1 hC.2.1 d rfl hl hi rfl (fun ls2 h2 => kk hG p e s m args below meth c H locs ls2 hC (zs1_ok h2) hH hS)
theorem x_iinc {i : Nat} {x v : Int} {ls' : List (Option av)} (d : decode md.2.2.1 pc = .ok (.iinc i v, 3)) (hv : ls[i]? = some (some (aI x))) (hi : i < md.2.2.2.1) (hs : zs1 ls i (aI (x + v)) = ls') (kk : AQ G l md Z (pc + 3) ls' (st) lay P M (k) (n)) : AQ G l md Z (pc) ls (st) lay P M (k) (n) := by
  intro hG p e s m args below meth c H locs lsA hC hl hH hS
  subst hs
  have hm := zp_mem (ad := G.1) (q := (i, cv G.1 (aI x))).mpr ⟨aI x, hv, rfl⟩
  obtain ⟨q, hq⟩ := List.getElem?_of_mem hm
  exact lv_iinc (v := Int32.ofInt (x + v)) hC.1 hC.2.1 d hl hq (Int32.ofInt_add x v).symm hi rfl (fun ls2 h2 => kk hG p e s m args below meth c H locs ls2 hC (zs1_ok h2) hH hS)
theorem x_iadd {x y : Int} (d : decode md.2.2.1 pc = .ok (.iadd, 1))  (kk : AQ G l md Z (pc + 1) ls (aI (x + y) :: st) lay P M (k) (n)) : AQ G l md Z (pc) ls (aI y :: aI x :: st) lay P M (k) (n) := by
  intro hG p e s m args below meth c H locs lsA hC hl hH hS
  have h := kk hG p e s m args below meth c H locs lsA hC hl hH hS
  rw [List.map_cons, cv_I, Int32.ofInt_add] at h
  exact lv_iadd hC.1 hC.2.1 d h
theorem x_isub {x y : Int} (d : decode md.2.2.1 pc = .ok (.isub, 1))  (kk : AQ G l md Z (pc + 1) ls (aI (x - y) :: st) lay P M (k) (n)) : AQ G l md Z (pc) ls (aI y :: aI x :: st) lay P M (k) (n) := by
  intro hG p e s m args below meth c H locs lsA hC hl hH hS
  have h := kk hG p e s m args below meth c H locs lsA hC hl hH hS
  rw [List.map_cons, cv_I, Int32.ofInt_sub] at h
  exact lv_isub hC.1 hC.2.1 d h
theorem x_imul {x y : Int} (d : decode md.2.2.1 pc = .ok (.imul, 1))  (kk : AQ G l md Z (pc + 1) ls (aI (x * y) :: st) lay P M (k) (n)) : AQ G l md Z (pc) ls (aI y :: aI x :: st) lay P M (k) (n) := by
  intro hG p e s m args below meth c H locs lsA hC hl hH hS
  have h := kk hG p e s m args below meth c H locs lsA hC hl hH hS
  rw [List.map_cons, cv_I, Int32.ofInt_mul] at h
  exact lv_imul hC.1 hC.2.1 d h
theorem x_ladd {x y : Int} (d : decode md.2.2.1 pc = .ok (.ladd, 1))  (kk : AQ G l md Z (pc + 1) ls (aL (x + y) :: st) lay P M (k) (n)) : AQ G l md Z (pc) ls (aL y :: aL x :: st) lay P M (k) (n) := by
  intro hG p e s m args below meth c H locs lsA hC hl hH hS
  have h := kk hG p e s m args below meth c H locs lsA hC hl hH hS
  rw [List.map_cons, cv_L, Int64.ofInt_add] at h
  exact lv_ladd hC.1 hC.2.1 d h
theorem x_lsub {x y : Int} (d : decode md.2.2.1 pc = .ok (.lsub, 1))  (kk : AQ G l md Z (pc + 1) ls (aL (x - y) :: st) lay P M (k) (n)) : AQ G l md Z (pc) ls (aL y :: aL x :: st) lay P M (k) (n) := by
  intro hG p e s m args below meth c H locs lsA hC hl hH hS
  have h := kk hG p e s m args below meth c H locs lsA hC hl hH hS
  rw [List.map_cons, cv_L, Int64.ofInt_sub] at h
  exact lv_lsub hC.1 hC.2.1 d h
theorem x_lmul {x y : Int} (d : decode md.2.2.1 pc = .ok (.lmul, 1))  (kk : AQ G l md Z (pc + 1) ls (aL (x * y) :: st) lay P M (k) (n)) : AQ G l md Z (pc) ls (aL y :: aL x :: st) lay P M (k) (n) := by
  intro hG p e s m args below meth c H locs lsA hC hl hH hS
  have h := kk hG p e s m args below meth c H locs lsA hC hl hH hS
  rw [List.map_cons, cv_L, Int64.ofInt_mul] at h
  exact lv_lmul hC.1 hC.2.1 d h
theorem x_ineg {x : Int} (d : decode md.2.2.1 pc = .ok (.ineg, 1))  (kk : AQ G l md Z (pc + 1) ls (aI (-x) :: st) lay P M (k) (n)) : AQ G l md Z (pc) ls (aI x :: st) lay P M (k) (n) := by
  intro hG p e s m args below meth c H locs lsA hC hl hH hS
  have h := kk hG p e s m args below meth c H locs lsA hC hl hH hS
  rw [List.map_cons, cv_I, Int32.ofInt_neg] at h
  exact lv_ineg hC.1 hC.2.1 d h
theorem x_lneg {x : Int} (d : decode md.2.2.1 pc = .ok (.lneg, 1))  (kk : AQ G l md Z (pc + 1) ls (aL (-x) :: st) lay P M (k) (n)) : AQ G l md Z (pc) ls (aL x :: st) lay P M (k) (n) := by
  intro hG p e s m args below meth c H locs lsA hC hl hH hS
  have h := kk hG p e s m args below meth c H locs lsA hC hl hH hS
  rw [List.map_cons, cv_L, Int64.ofInt_neg] at h
  exact lv_lneg hC.1 hC.2.1 d h
theorem x_iand {x y : Int} (d : decode md.2.2.1 pc = .ok (.iand, 1))  (kk : AQ G l md Z (pc + 1) ls (aI (b_iand x y) :: st) lay P M (k) (n)) : AQ G l md Z (pc) ls (aI y :: aI x :: st) lay P M (k) (n) := by
  intro hG p e s m args below meth c H locs lsA hC hl hH hS
  have h := kk hG p e s m args below meth c H locs lsA hC hl hH hS
  rw [List.map_cons, cv_I, b_iand, Int32.ofInt_toInt] at h
  exact lv_iand hC.1 hC.2.1 d h
theorem x_ior {x y : Int} (d : decode md.2.2.1 pc = .ok (.ior, 1))  (kk : AQ G l md Z (pc + 1) ls (aI (b_ior x y) :: st) lay P M (k) (n)) : AQ G l md Z (pc) ls (aI y :: aI x :: st) lay P M (k) (n) := by
  intro hG p e s m args below meth c H locs lsA hC hl hH hS
  have h := kk hG p e s m args below meth c H locs lsA hC hl hH hS
  rw [List.map_cons, cv_I, b_ior, Int32.ofInt_toInt] at h
  exact lv_ior hC.1 hC.2.1 d h
theorem x_ixor {x y : Int} (d : decode md.2.2.1 pc = .ok (.ixor, 1))  (kk : AQ G l md Z (pc + 1) ls (aI (b_ixor x y) :: st) lay P M (k) (n)) : AQ G l md Z (pc) ls (aI y :: aI x :: st) lay P M (k) (n) := by
  intro hG p e s m args below meth c H locs lsA hC hl hH hS
  have h := kk hG p e s m args below meth c H locs lsA hC hl hH hS
  rw [List.map_cons, cv_I, b_ixor, Int32.ofInt_toInt] at h
  exact lv_ixor hC.1 hC.2.1 d h
theorem x_ishl {x y : Int} (d : decode md.2.2.1 pc = .ok (.ishl, 1))  (kk : AQ G l md Z (pc + 1) ls (aI (b_ishl x y) :: st) lay P M (k) (n)) : AQ G l md Z (pc) ls (aI y :: aI x :: st) lay P M (k) (n) := by
  intro hG p e s m args below meth c H locs lsA hC hl hH hS
  have h := kk hG p e s m args below meth c H locs lsA hC hl hH hS
  rw [List.map_cons, cv_I, b_ishl, Int32.ofInt_toInt] at h
  exact lv_ishl hC.1 hC.2.1 d h
theorem x_ishr {x y : Int} (d : decode md.2.2.1 pc = .ok (.ishr, 1))  (kk : AQ G l md Z (pc + 1) ls (aI (b_ishr x y) :: st) lay P M (k) (n)) : AQ G l md Z (pc) ls (aI y :: aI x :: st) lay P M (k) (n) := by
  intro hG p e s m args below meth c H locs lsA hC hl hH hS
  have h := kk hG p e s m args below meth c H locs lsA hC hl hH hS
  rw [List.map_cons, cv_I, b_ishr, Int32.ofInt_toInt] at h
  exact lv_ishr hC.1 hC.2.1 d h
theorem x_iushr {x y : Int} (d : decode md.2.2.1 pc = .ok (.iushr, 1))  (kk : AQ G l md Z (pc + 1) ls (aI (b_iushr x y) :: st) lay P M (k) (n)) : AQ G l md Z (pc) ls (aI y :: aI x :: st) lay P M (k) (n) := by
  intro hG p e s m args below meth c H locs lsA hC hl hH hS
  have h := kk hG p e s m args below meth c H locs lsA hC hl hH hS
  rw [List.map_cons, cv_I, b_iushr, Int32.ofInt_toInt] at h
  exact lv_iushr hC.1 hC.2.1 d rfl h
theorem x_land {x y : Int} (d : decode md.2.2.1 pc = .ok (.land, 1))  (kk : AQ G l md Z (pc + 1) ls (aL (b_land x y) :: st) lay P M (k) (n)) : AQ G l md Z (pc) ls (aL y :: aL x :: st) lay P M (k) (n) := by
  intro hG p e s m args below meth c H locs lsA hC hl hH hS
  have h := kk hG p e s m args below meth c H locs lsA hC hl hH hS
  rw [List.map_cons, cv_L, b_land, Int64.ofInt_toInt] at h
  exact lv_land hC.1 hC.2.1 d h
theorem x_idiv {x y : Int} (d : decode md.2.2.1 pc = .ok (.idiv, 1)) (hx : inR x) (hy : inR y) (h0 : y ≠ 0) (h1 : y ≠ -1) (kk : AQ G l md Z (pc + 1) ls (aI (x.tdiv y) :: st) lay P M (k) (n)) : AQ G l md Z (pc) ls (aI y :: aI x :: st) lay P M (k) (n) := by
  intro hG p e s m args below meth c H locs lsA hC hl hH hS
  have h := kk hG p e s m args below meth c H locs lsA hC hl hH hS
  rw [List.map_cons, cv_I, ← zdiv32 hx hy h0 h1] at h
  exact lv_idiv hC.1 hC.2.1 d (fun q => h0 ((zeq hy ⟨by omega, by omega⟩).mp (q.trans z0.symm))) h
theorem x_irem {x y : Int} (d : decode md.2.2.1 pc = .ok (.irem, 1)) (hx : inR x) (hy : inR y) (h0 : y ≠ 0) (h1 : y ≠ -1) (kk : AQ G l md Z (pc + 1) ls (aI (x.tmod y) :: st) lay P M (k) (n)) : AQ G l md Z (pc) ls (aI y :: aI x :: st) lay P M (k) (n) := by
  intro hG p e s m args below meth c H locs lsA hC hl hH hS
  have h := kk hG p e s m args below meth c H locs lsA hC hl hH hS
  rw [List.map_cons, cv_I, Int.tmod_def, Int.mul_comm, Int32.ofInt_sub, Int32.ofInt_mul, ← zdiv32 hx hy h0 h1] at h
  exact lv_irem hC.1 hC.2.1 d (fun q => h0 ((zeq hy ⟨by omega, by omega⟩).mp (q.trans z0.symm))) h
theorem x_ldiv {x y : Int} (d : decode md.2.2.1 pc = .ok (.ldiv, 1)) (hx : inL x) (hy : inL y) (h0 : y ≠ 0) (h1 : x ≠ -9223372036854775808) (kk : AQ G l md Z (pc + 1) ls (aL (x.tdiv y) :: st) lay P M (k) (n)) : AQ G l md Z (pc) ls (aL y :: aL x :: st) lay P M (k) (n) := by
  intro hG p e s m args below meth c H locs lsA hC hl hH hS
  have h := kk hG p e s m args below meth c H locs lsA hC hl hH hS
  rw [List.map_cons, cv_L, ← zdiv64 hx hy h0 h1] at h
  exact lv_ldiv hC.1 hC.2.1 d (fun q => h0 ((zeq64 hy ⟨by omega, by omega⟩).mp (q.trans z0L.symm))) h
theorem x_lrem {x y : Int} (d : decode md.2.2.1 pc = .ok (.lrem, 1)) (hx : inL x) (hy : inL y) (h0 : y ≠ 0) (h1 : x ≠ -9223372036854775808) (kk : AQ G l md Z (pc + 1) ls (aL (x.tmod y) :: st) lay P M (k) (n)) : AQ G l md Z (pc) ls (aL y :: aL x :: st) lay P M (k) (n) := by
  intro hG p e s m args below meth c H locs lsA hC hl hH hS
  have h := kk hG p e s m args below meth c H locs lsA hC hl hH hS
  rw [List.map_cons, cv_L, Int.tmod_def, Int.mul_comm, Int64.ofInt_sub, Int64.ofInt_mul, ← zdiv64 hx hy h0 h1] at h
  exact lv_lrem hC.1 hC.2.1 d (fun q => h0 ((zeq64 hy ⟨by omega, by omega⟩).mp (q.trans z0L.symm))) h
theorem x_i2l {x : Int} (d : decode md.2.2.1 pc = .ok (.i2l, 1)) (hx : inR x) (kk : AQ G l md Z (pc + 1) ls (aL x :: st) lay P M (k) (n)) : AQ G l md Z (pc) ls (aI x :: st) lay P M (k) (n) := by
  intro hG p e s m args below meth c H locs lsA hC hl hH hS
  have h := kk hG p e s m args below meth c H locs lsA hC hl hH hS
  exact lv_i2l hC.1 hC.2.1 d (Int32.toInt64_ofInt (by simpa using hx.1) (by rw [show Int32.maxValue.toInt = 2147483647 from by decide]; omega)) h
theorem x_l2i {x : Int} (d : decode md.2.2.1 pc = .ok (.l2i, 1))  (kk : AQ G l md Z (pc + 1) ls (aI x :: st) lay P M (k) (n)) : AQ G l md Z (pc) ls (aL x :: st) lay P M (k) (n) := by
  intro hG p e s m args below meth c H locs lsA hC hl hH hS
  have h := kk hG p e s m args below meth c H locs lsA hC hl hH hS
  exact lv_l2i hC.1 hC.2.1 d Int64.toInt32_ofInt h
theorem x_dupI {x : Int} (d : decode md.2.2.1 pc = .ok (.dup, 1))  (kk : AQ G l md Z (pc + 1) ls (aI x :: aI x :: st) lay P M (k) (n)) : AQ G l md Z (pc) ls (aI x :: st) lay P M (k) (n) := by
  intro hG p e s m args below meth c H locs lsA hC hl hH hS
  have h := kk hG p e s m args below meth c H locs lsA hC hl hH hS
  exact lv_dup hC.1 hC.2.1 d (zc1I G.1 x) h
theorem x_popI {x : Int} (d : decode md.2.2.1 pc = .ok (.pop, 1))  (kk : AQ G l md Z (pc + 1) ls (st) lay P M (k) (n)) : AQ G l md Z (pc) ls (aI x :: st) lay P M (k) (n) := by
  intro hG p e s m args below meth c H locs lsA hC hl hH hS
  have h := kk hG p e s m args below meth c H locs lsA hC hl hH hS
  exact lv_pop hC.1 hC.2.1 d (zc1I G.1 x) h
theorem x_dupR {x : Nat} (d : decode md.2.2.1 pc = .ok (.dup, 1))  (kk : AQ G l md Z (pc + 1) ls (aR x :: aR x :: st) lay P M (k) (n)) : AQ G l md Z (pc) ls (aR x :: st) lay P M (k) (n) := by
  intro hG p e s m args below meth c H locs lsA hC hl hH hS
  have h := kk hG p e s m args below meth c H locs lsA hC hl hH hS
  exact lv_dup hC.1 hC.2.1 d (zc1R G.1 (some x)) h
theorem x_popR {x : Nat} (d : decode md.2.2.1 pc = .ok (.pop, 1))  (kk : AQ G l md Z (pc + 1) ls (st) lay P M (k) (n)) : AQ G l md Z (pc) ls (aR x :: st) lay P M (k) (n) := by
  intro hG p e s m args below meth c H locs lsA hC hl hH hS
  have h := kk hG p e s m args below meth c H locs lsA hC hl hH hS
  exact lv_pop hC.1 hC.2.1 d (zc1R G.1 (some x)) h
theorem x_dup2IR {x : Int} {y : Nat} (d : decode md.2.2.1 pc = .ok (.dup2, 1))  (kk : AQ G l md Z (pc + 1) ls (aI x :: aR y :: aI x :: aR y :: st) lay P M (k) (n)) : AQ G l md Z (pc) ls (aI x :: aR y :: st) lay P M (k) (n) := by
  intro hG p e s m args below meth c H locs lsA hC hl hH hS
  have h := kk hG p e s m args below meth c H locs lsA hC hl hH hS
  exact lv_dup2_11 hC.1 hC.2.1 d (zc1I G.1 x) (zc1R G.1 (some y)) h
theorem x_icmp_eq {x y : Int} {off : Int} {tgt : Nat} (d : decode md.2.2.1 pc = .ok (.if_icmp .eq off, 3)) (ht : (pc : Int) + off = (tgt : Int)) (hx : inR x) (hy : inR y) (kt : x = y → AQ G l md Z (tgt) ls (st) lay P M (k) (n)) (kf : ¬ (x = y) → AQ G l md Z (pc + 3) ls (st) lay P M (k) (n)) : AQ G l md Z (pc) ls (aI y :: aI x :: st) lay P M (k) (n) := by
  intro hG p e s m args below meth c H locs lsA hC hl hH hS
  exact lv_icmp_eq hC.1 hC.2.1 d ht (fun q => kt ((zeq hx hy).mp q) hG p e s m args below meth c H locs lsA hC hl hH hS) (fun q => kf (fun z => q ((zeq hx hy).mpr z)) hG p e s m args below meth c H locs lsA hC hl hH hS)
theorem x_if_eq {x : Int} {off : Int} {tgt : Nat} (d : decode md.2.2.1 pc = .ok (.ifCond .eq off, 3)) (ht : (pc : Int) + off = (tgt : Int)) (hx : inR x) (kt : x = 0 → AQ G l md Z (tgt) ls (st) lay P M (k) (n)) (kf : ¬ (x = 0) → AQ G l md Z (pc + 3) ls (st) lay P M (k) (n)) : AQ G l md Z (pc) ls (aI x :: st) lay P M (k) (n) := by
  intro hG p e s m args below meth c H locs lsA hC hl hH hS
  exact lv_if_eq hC.1 hC.2.1 d ht (fun q => kt ((z0 ▸ zeq hx r0).mp q) hG p e s m args below meth c H locs lsA hC hl hH hS) (fun q => kf (fun z => q ((z0 ▸ zeq hx r0).mpr z)) hG p e s m args below meth c H locs lsA hC hl hH hS)
theorem x_icmp_lt {x y : Int} {off : Int} {tgt : Nat} (d : decode md.2.2.1 pc = .ok (.if_icmp .lt off, 3)) (ht : (pc : Int) + off = (tgt : Int)) (hx : inR x) (hy : inR y) (kt : x < y → AQ G l md Z (tgt) ls (st) lay P M (k) (n)) (kf : ¬ (x < y) → AQ G l md Z (pc + 3) ls (st) lay P M (k) (n)) : AQ G l md Z (pc) ls (aI y :: aI x :: st) lay P M (k) (n) := by
  intro hG p e s m args below meth c H locs lsA hC hl hH hS
  exact lv_icmp_lt hC.1 hC.2.1 d ht (fun q => kt ((zlt hx hy).mp q) hG p e s m args below meth c H locs lsA hC hl hH hS) (fun q => kf (fun z => q ((zlt hx hy).mpr z)) hG p e s m args below meth c H locs lsA hC hl hH hS)
theorem x_if_lt {x : Int} {off : Int} {tgt : Nat} (d : decode md.2.2.1 pc = .ok (.ifCond .lt off, 3)) (ht : (pc : Int) + off = (tgt : Int)) (hx : inR x) (kt : x < 0 → AQ G l md Z (tgt) ls (st) lay P M (k) (n)) (kf : ¬ (x < 0) → AQ G l md Z (pc + 3) ls (st) lay P M (k) (n)) : AQ G l md Z (pc) ls (aI x :: st) lay P M (k) (n) := by
  intro hG p e s m args below meth c H locs lsA hC hl hH hS
  exact lv_if_lt hC.1 hC.2.1 d ht (fun q => kt ((z0 ▸ zlt hx r0).mp q) hG p e s m args below meth c H locs lsA hC hl hH hS) (fun q => kf (fun z => q ((z0 ▸ zlt hx r0).mpr z)) hG p e s m args below meth c H locs lsA hC hl hH hS)
theorem x_icmp_gt {x y : Int} {off : Int} {tgt : Nat} (d : decode md.2.2.1 pc = .ok (.if_icmp .gt off, 3)) (ht : (pc : Int) + off = (tgt : Int)) (hx : inR x) (hy : inR y) (kt : y < x → AQ G l md Z (tgt) ls (st) lay P M (k) (n)) (kf : ¬ (y < x) → AQ G l md Z (pc + 3) ls (st) lay P M (k) (n)) : AQ G l md Z (pc) ls (aI y :: aI x :: st) lay P M (k) (n) := by
  intro hG p e s m args below meth c H locs lsA hC hl hH hS
  exact lv_icmp_gt hC.1 hC.2.1 d ht (fun q => kt ((zlt hy hx).mp q) hG p e s m args below meth c H locs lsA hC hl hH hS) (fun q => kf (fun z => q ((zlt hy hx).mpr z)) hG p e s m args below meth c H locs lsA hC hl hH hS)
theorem x_if_gt {x : Int} {off : Int} {tgt : Nat} (d : decode md.2.2.1 pc = .ok (.ifCond .gt off, 3)) (ht : (pc : Int) + off = (tgt : Int)) (hx : inR x) (kt : 0 < x → AQ G l md Z (tgt) ls (st) lay P M (k) (n)) (kf : ¬ (0 < x) → AQ G l md Z (pc + 3) ls (st) lay P M (k) (n)) : AQ G l md Z (pc) ls (aI x :: st) lay P M (k) (n) := by
  intro hG p e s m args below meth c H locs lsA hC hl hH hS
  exact lv_if_gt hC.1 hC.2.1 d ht (fun q => kt ((z0 ▸ zlt r0 hx).mp q) hG p e s m args below meth c H locs lsA hC hl hH hS) (fun q => kf (fun z => q ((z0 ▸ zlt r0 hx).mpr z)) hG p e s m args below meth c H locs lsA hC hl hH hS)
theorem x_icmp_le {x y : Int} {off : Int} {tgt : Nat} (d : decode md.2.2.1 pc = .ok (.if_icmp .le off, 3)) (ht : (pc : Int) + off = (tgt : Int)) (hx : inR x) (hy : inR y) (kt : x ≤ y → AQ G l md Z (tgt) ls (st) lay P M (k) (n)) (kf : ¬ (x ≤ y) → AQ G l md Z (pc + 3) ls (st) lay P M (k) (n)) : AQ G l md Z (pc) ls (aI y :: aI x :: st) lay P M (k) (n) := by
  intro hG p e s m args below meth c H locs lsA hC hl hH hS
  exact lv_icmp_le hC.1 hC.2.1 d ht (fun q => kt ((zle hx hy).mp q) hG p e s m args below meth c H locs lsA hC hl hH hS) (fun q => kf (fun z => q ((zle hx hy).mpr z)) hG p e s m args below meth c H locs lsA hC hl hH hS)
theorem x_if_le {x : Int} {off : Int} {tgt : Nat} (d : decode md.2.2.1 pc = .ok (.ifCond .le off, 3)) (ht : (pc : Int) + off = (tgt : Int)) (hx : inR x) (kt : x ≤ 0 → AQ G l md Z (tgt) ls (st) lay P M (k) (n)) (kf : ¬ (x ≤ 0) → AQ G l md Z (pc + 3) ls (st) lay P M (k) (n)) : AQ G l md Z (pc) ls (aI x :: st) lay P M (k) (n) := by
  intro hG p e s m args below meth c H locs lsA hC hl hH hS
  exact lv_if_le hC.1 hC.2.1 d ht (fun q => kt ((z0 ▸ zle hx r0).mp q) hG p e s m args below meth c H locs lsA hC hl hH hS) (fun q => kf (fun z => q ((z0 ▸ zle hx r0).mpr z)) hG p e s m args below meth c H locs lsA hC hl hH hS)
theorem x_icmp_ge {x y : Int} {off : Int} {tgt : Nat} (d : decode md.2.2.1 pc = .ok (.if_icmp .ge off, 3)) (ht : (pc : Int) + off = (tgt : Int)) (hx : inR x) (hy : inR y) (kt : y ≤ x → AQ G l md Z (tgt) ls (st) lay P M (k) (n)) (kf : ¬ (y ≤ x) → AQ G l md Z (pc + 3) ls (st) lay P M (k) (n)) : AQ G l md Z (pc) ls (aI y :: aI x :: st) lay P M (k) (n) := by
  intro hG p e s m args below meth c H locs lsA hC hl hH hS
  exact lv_icmp_ge hC.1 hC.2.1 d ht (fun q => kt ((zle hy hx).mp q) hG p e s m args below meth c H locs lsA hC hl hH hS) (fun q => kf (fun z => q ((zle hy hx).mpr z)) hG p e s m args below meth c H locs lsA hC hl hH hS)
theorem x_if_ge {x : Int} {off : Int} {tgt : Nat} (d : decode md.2.2.1 pc = .ok (.ifCond .ge off, 3)) (ht : (pc : Int) + off = (tgt : Int)) (hx : inR x) (kt : 0 ≤ x → AQ G l md Z (tgt) ls (st) lay P M (k) (n)) (kf : ¬ (0 ≤ x) → AQ G l md Z (pc + 3) ls (st) lay P M (k) (n)) : AQ G l md Z (pc) ls (aI x :: st) lay P M (k) (n) := by
  intro hG p e s m args below meth c H locs lsA hC hl hH hS
  exact lv_if_ge hC.1 hC.2.1 d ht (fun q => kt ((z0 ▸ zle r0 hx).mp q) hG p e s m args below meth c H locs lsA hC hl hH hS) (fun q => kf (fun z => q ((z0 ▸ zle r0 hx).mpr z)) hG p e s m args below meth c H locs lsA hC hl hH hS)
theorem x_icmp_ne {x y : Int} {off : Int} {tgt : Nat} (d : decode md.2.2.1 pc = .ok (.if_icmp .ne off, 3)) (ht : (pc : Int) + off = (tgt : Int)) (hx : inR x) (hy : inR y) (kt : x ≠ y → AQ G l md Z (tgt) ls (st) lay P M (k) (n)) (kf : x = y → AQ G l md Z (pc + 3) ls (st) lay P M (k) (n)) : AQ G l md Z (pc) ls (aI y :: aI x :: st) lay P M (k) (n) := by
  intro hG p e s m args below meth c H locs lsA hC hl hH hS
  exact lv_icmp_ne hC.1 hC.2.1 d ht (fun q => kt (fun z => q ((zeq hx hy).mpr z)) hG p e s m args below meth c H locs lsA hC hl hH hS) (fun q => kf ((zeq hx hy).mp q) hG p e s m args below meth c H locs lsA hC hl hH hS)
theorem x_if_ne {x : Int} {off : Int} {tgt : Nat} (d : decode md.2.2.1 pc = .ok (.ifCond .ne off, 3)) (ht : (pc : Int) + off = (tgt : Int)) (hx : inR x) (kt : x ≠ 0 → AQ G l md Z (tgt) ls (st) lay P M (k) (n)) (kf : x = 0 → AQ G l md Z (pc + 3) ls (st) lay P M (k) (n)) : AQ G l md Z (pc) ls (aI x :: st) lay P M (k) (n) := by
  intro hG p e s m args below meth c H locs lsA hC hl hH hS
  exact lv_if_ne hC.1 hC.2.1 d ht (fun q => kt (fun z => q (by rw [z]; exact z0)) hG p e s m args below meth c H locs lsA hC hl hH hS) (fun q => kf ((zeq hx r0).mp (q.trans z0.symm)) hG p e s m args below meth c H locs lsA hC hl hH hS)
theorem x_goto {off : Int} {tgt : Nat} (d : decode md.2.2.1 pc = .ok (.goto off, 3)) (ht : (pc : Int) + off = (tgt : Int)) (kk : AQ G l md Z (tgt) ls (st) lay P M (k) (n)) : AQ G l md Z (pc) ls (st) lay P M (k) (n) := by
  intro hG p e s m args below meth c H locs lsA hC hl hH hS
  have h := kk hG p e s m args below meth c H locs lsA hC hl hH hS
  exact lv_goto hC.1 hC.2.1 d ht h
theorem x_lcmp {x y : Int} (d : decode md.2.2.1 pc = .ok (.lcmp, 1)) (hx : inL x) (hy : inL y) (kk : AQ G l md Z (pc + 1) ls (aI (b_lcmp x y) :: st) lay P M (k) (n)) : AQ G l md Z (pc) ls (aL y :: aL x :: st) lay P M (k) (n) := by
  intro hG p e s m args below meth c H locs lsA hC hl hH hS
  have h := kk hG p e s m args below meth c H locs lsA hC hl hH hS
  refine W.lcmp hC.1 hC.2.1 d ?_
  rw [List.map_cons, cv_I] at h
  have e : Int32.ofInt (b_lcmp x y) = lg_cmp (Int64.ofInt x) (Int64.ofInt y) := by
    unfold b_lcmp lg_cmp
    rcases Int.lt_trichotomy x y with q | q | q
    · rw [if_pos q, if_neg (by rw [gt_iff_lt, zlt64 hy hx]; omega), if_neg (by rw [zeq64 hx hy]; omega)]
      rfl
    · subst q
      rw [if_neg (by omega), if_pos rfl, if_neg (by rw [gt_iff_lt, zlt64 hx hx]; omega), if_pos rfl]
      rfl
    · rw [if_neg (by omega), if_neg (by omega), if_pos (by rw [gt_iff_lt, zlt64 hy hx]; exact q)]
      rfl
  rw [e] at h
  exact h
theorem x_tabIn {dflt lo hi : Int} {offs : Array Int} {len : Nat} {x off : Int} {tgt : Nat} (d : decode md.2.2.1 pc = .ok (.tableswitch dflt lo hi offs, len)) (hx : inR x) (h1 : lo ≤ x) (h2 : x ≤ hi) (ho : offs[(x - lo).toNat]? = some off) (ht : (pc : Int) + off = (tgt : Int)) (kk : AQ G l md Z (tgt) ls (st) lay P M (k) (n)) : AQ G l md Z (pc) ls (aI x :: st) lay P M (k) (n) := by
  intro hG p e s m args below meth c H locs lsA hC hl hH hS
  have h := kk hG p e s m args below meth c H locs lsA hC hl hH hS
  exact lv_tableIn hC.1 hC.2.1 d (by rw [z32 hx]; omega) (by rw [z32 hx]; omega) (by rw [z32 hx]; exact ho) ht h
theorem x_tabOut {dflt lo hi : Int} {offs : Array Int} {len : Nat} {x : Int} {tgt : Nat} (d : decode md.2.2.1 pc = .ok (.tableswitch dflt lo hi offs, len)) (hx : inR x) (h1 : x < lo ∨ hi < x) (ht : (pc : Int) + dflt = (tgt : Int)) (kk : AQ G l md Z (tgt) ls (st) lay P M (k) (n)) : AQ G l md Z (pc) ls (aI x :: st) lay P M (k) (n) := by
  intro hG p e s m args below meth c H locs lsA hC hl hH hS
  have h := kk hG p e s m args below meth c H locs lsA hC hl hH hS
  exact lv_tableOut hC.1 hC.2.1 d (by rw [z32 hx]; exact h1) ht h
theorem x_lookup {dflt : Int} {ps : Array (Int × Int)} {len : Nat} {x off : Int} {tgt : Nat} (d : decode md.2.2.1 pc = .ok (.lookupswitch dflt ps, len)) (hp : (ps.toList.zip (ps.toList.drop 1)).all (fun (a, next) => a.1 < next.1) = true) (hx : inR x) (ho : Op.lookupswitch.offset ps.toList dflt x = off) (ht : (pc : Int) + off = (tgt : Int)) (kk : AQ G l md Z (tgt) ls (st) lay P M (k) (n)) : AQ G l md Z (pc) ls (aI x :: st) lay P M (k) (n) := by
  intro hG p e s m args below meth c H locs lsA hC hl hH hS
  have h := kk hG p e s m args below meth c H locs lsA hC hl hH hS
  exact lv_lookup hC.1 hC.2.1 d hp (by rw [z32 hx]; exact ho) ht h
theorem x_keep {ls' : List (Option av)} (hs : ∀ (i : Nat) (v : av), ls'[i]? = some (some v) → ls[i]? = some (some v)) (kk : AQ G l md Z (pc) ls' (st) lay P M (k) (n)) : AQ G l md Z (pc) ls (st) lay P M (k) (n) := by
  intro hG p e s m args below meth c H locs lsA hC hl hH hS
  exact kk hG p e s m args below meth c H locs lsA hC (zl_sub hl (fun i v h => zp_mem.mpr ⟨v, hs i v h, rfl⟩)) hH hS
theorem x_mem {M' : zM} (hM : M = M') (kk : AQ G l md Z (pc) ls (st) lay P M' (k) (n)) : AQ G l md Z (pc) ls (st) lay P M (k) (n) := hM ▸ kk
theorem x_stk {st' : List av} (hM : st = st') (kk : AQ G l md Z (pc) ls (st') lay P M (k) (n)) : AQ G l md Z (pc) ls (st) lay P M (k) (n) := hM ▸ kk
theorem x_loc {ls' : List (Option av)} (hM : ls = ls') (kk : AQ G l md Z (pc) ls' (st) lay P M (k) (n)) : AQ G l md Z (pc) ls (st) lay P M (k) (n) := hM ▸ kk
theorem x_widen {k' n' : Nat} (h1 : k ≤ k') (h2 : n ≤ n') (kk : AQ G l md Z (pc) ls (st) lay P M (k') (n')) : AQ G l md Z (pc) ls (st) lay P M (k) (n) := by
  intro hG p e s m args below meth c H locs lsA hC hl hH hS
  have h := kk hG p e s m args below meth c H locs lsA hC hl hH hS
  exact W.widen h1 h2 h
theorem x_alen {q t N : Nat} {w : Int} (d : decode md.2.2.1 pc = .ok (.arraylength, 1)) (hk : lay[q]? = some (.inl (t, N))) (ht : t ≤ 4) (hN : (N : Int) = w) (kk : AQ G l md Z (pc + 1) ls (aI w :: st) lay P M (k) (n)) : AQ G l md Z (pc) ls (aR q :: st) lay P M (k) (n) := by
  intro hG p e s m args below meth c H locs lsA hC hl hH hS
  have h := kk hG p e s m args below meth c H locs lsA hC hl hH hS
  rcases (hH.2 q _ hk).1 with ⟨h2, hc⟩ | ⟨h2, hc⟩
  · have hT : (ztys G)[t]? = some (G.2.2.1 t, zty t) := by
      rcases (show t = 0 ∨ t = 1 ∨ t = 2 ∨ t = 3 ∨ t = 4 by omega) with rfl | rfl | rfl | rfl | rfl <;> rfl
    exact va_alen (ws := [(G.1 q, zE G P M q (.inl (t, N)))]) hC.1 hC.2.1 hC.2.2.2.2.2.2.2.1.1 (fun i x hx => by
      cases i with
      | zero => cases hx; exact hc
      | succ i => cases hx) 0 t rfl hT (by rw [← hN]; exact Int32.ofInt_eq_ofNat.symm) d h
  · intro T0 hT0 X
    obtain ⟨hT9, hS9⟩ := ZX.T hG hC hH hS h2 hc hT0 X
    exact va_tlen hC.1 hC.2.1 hT9 hS9 (by rw [← hN]; exact Int32.ofInt_eq_ofNat.symm) d h T0 hT0 X
theorem x_iald {q N : Nat} {x : Int} (d : decode md.2.2.1 pc = .ok (.iaload, 1)) (hk : lay[q]? = some (.inl (0, N))) (hN : N < 2147483648) (h0 : 0 ≤ x) (h1 : x < N) (kk : zrng 0 (M q x) → AQ G l md Z (pc + 1) ls (aI (M q x) :: st) lay P M (k) (n)) : AQ G l md Z (pc) ls (aI x :: aR q :: st) lay P M (k) (n) := by
  intro hG p e s m args below meth c H locs lsA hC hl hH hS
  have h := kk ((hH.2 q _ hk).2 x h0 h1) hG p e s m args below meth c H locs lsA hC hl hH hS
  obtain ⟨hi, he⟩ := zI1 h0 h1 hN
  rcases (hH.2 q _ hk).1 with ⟨h2, hc⟩ | ⟨h2, hc⟩
  · refine va_iald (ws := [(G.1 q, zE G P M q (.inl (0, N)))]) (f := fun i => Int32.ofInt (M q (i : Int))) hC.1 hC.2.1 hC.2.2.2.2.2.2.2.1.1 (fun i x hx => by
      cases i with
      | zero => cases hx; exact hc
      | succ i => cases hx) 0 0 rfl rfl hi d ?_
    rw [he]
    exact h
  · intro T0 hT0 X
    obtain ⟨hT9, hS9⟩ := ZX.T hG hC hH hS h2 hc hT0 X
    exact va_ti (v := .int (Int32.ofInt (M q x))) hC.1 hC.2.1 hT9 hS9 hi (by rw [he]) d h T0 hT0 X
theorem x_zald {q N : Nat} {x : Int} (d : decode md.2.2.1 pc = .ok (.baload, 1)) (hk : lay[q]? = some (.inl (1, N))) (hN : N < 2147483648) (h0 : 0 ≤ x) (h1 : x < N) (kk : zrng 1 (M q x) → AQ G l md Z (pc + 1) ls (aI (M q x) :: st) lay P M (k) (n)) : AQ G l md Z (pc) ls (aI x :: aR q :: st) lay P M (k) (n) := by
  intro hG p e s m args below meth c H locs lsA hC hl hH hS
  have h := kk ((hH.2 q _ hk).2 x h0 h1) hG p e s m args below meth c H locs lsA hC hl hH hS
  have hc := hH.nz hk (by decide)
  obtain ⟨hi, he⟩ := zI1 h0 h1 hN
  refine va_zald (ws := [(G.1 q, zE G P M q (.inl (1, N)))]) (f := fun i => Int32.ofInt (M q (i : Int))) hC.1 hC.2.1 hC.2.2.2.2.2.2.2.1.1 (fun i x hx => by
    cases i with
    | zero => cases hx; exact hc
    | succ i => cases hx) 0 1 rfl rfl hi d ?_
  rw [he]
  exact h
theorem x_lald {q N : Nat} {x : Int} (d : decode md.2.2.1 pc = .ok (.laload, 1)) (hk : lay[q]? = some (.inl (2, N))) (hN : N < 2147483648) (h0 : 0 ≤ x) (h1 : x < N) (kk : zrng 2 (M q x) → AQ G l md Z (pc + 1) ls (aL (M q x) :: st) lay P M (k) (n)) : AQ G l md Z (pc) ls (aI x :: aR q :: st) lay P M (k) (n) := by
  intro hG p e s m args below meth c H locs lsA hC hl hH hS
  have h := kk ((hH.2 q _ hk).2 x h0 h1) hG p e s m args below meth c H locs lsA hC hl hH hS
  have hc := hH.nz hk (by decide)
  obtain ⟨hi, he⟩ := zI1 h0 h1 hN
  refine va_lald (ws := [(G.1 q, zE G P M q (.inl (2, N)))]) (f := fun i => Int64.ofInt (M q (i : Int))) hC.1 hC.2.1 hC.2.2.2.2.2.2.2.1.1 (fun i x hx => by
    cases i with
    | zero => cases hx; exact hc
    | succ i => cases hx) 0 2 rfl rfl hi d ?_
  rw [he]
  exact h
theorem x_aald3 {q N y : Nat} {x : Int} (d : decode md.2.2.1 pc = .ok (.aaload, 1)) (hk : lay[q]? = some (.inl (3, N))) (hN : N < 2147483648) (h0 : 0 ≤ x) (h1 : x < N) (hy : P q x = some y) (kk : AQ G l md Z (pc + 1) ls (aR y :: st) lay P M (k) (n)) : AQ G l md Z (pc) ls (aI x :: aR q :: st) lay P M (k) (n) := by
  intro hG p e s m args below meth c H locs lsA hC hl hH hS
  have h := kk hG p e s m args below meth c H locs lsA hC hl hH hS
  have hc := hH.nz hk (by decide)
  obtain ⟨hi, he⟩ := zI1 h0 h1 hN
  refine va_aldq (ws := [(G.1 q, zE G P M q (.inl (3, N)))]) (f := fun i => (P q (i : Int)).map G.1) hC.1 hC.2.1 hC.2.2.2.2.2.2.2.1.1 (fun i x hx => by
    cases i with
    | zero => cases hx; exact hc
    | succ i => cases hx) 0 3 rfl rfl hi d ?_
  rw [he, hy]
  exact h
theorem x_aald4 {q N y : Nat} {x : Int} (d : decode md.2.2.1 pc = .ok (.aaload, 1)) (hk : lay[q]? = some (.inl (4, N))) (hN : N < 2147483648) (h0 : 0 ≤ x) (h1 : x < N) (hy : P q x = some y) (kk : AQ G l md Z (pc + 1) ls (aR y :: st) lay P M (k) (n)) : AQ G l md Z (pc) ls (aI x :: aR q :: st) lay P M (k) (n) := by
  intro hG p e s m args below meth c H locs lsA hC hl hH hS
  have h := kk hG p e s m args below meth c H locs lsA hC hl hH hS
  have hc := hH.nz hk (by decide)
  obtain ⟨hi, he⟩ := zI1 h0 h1 hN
  refine va_aldq (ws := [(G.1 q, zE G P M q (.inl (4, N)))]) (f := fun i => (P q (i : Int)).map G.1) hC.1 hC.2.1 hC.2.2.2.2.2.2.2.1.1 (fun i x hx => by
    cases i with
    | zero => cases hx; exact hc
    | succ i => cases hx) 0 4 rfl rfl hi d ?_
  rw [he, hy]
  exact h
theorem x_iast {q N : Nat} {i x : Int} (d : decode md.2.2.1 pc = .ok (.iastore, 1)) (hk : lay[q]? = some (.inl (0, N))) (hq : 2 ≤ q) (hN : N < 2147483648) (h0 : 0 ≤ i) (h1 : i < N) (hx : inR x) (kk : AQ G l md Z (pc + 1) ls (st) lay P (sm M q i x) (k) (n)) : AQ G l md Z (pc) ls (aI x :: aI i :: aR q :: st) lay P M (k) (n) := by
  intro hG p e s m args below meth c H locs lsA hC hl hH hS
  have hc := hH.ar hq hk
  obtain ⟨hi, he⟩ := zI1 h0 h1 hN
  refine W.iast hC.1 hC.2.1 hc ((hC.2.2.2.2.2.2.2.1.1.2 0 _ rfl).1 N (fun j => .int <| Int32.ofInt (M q (j : Int)))) (fun q => by cases q) (by show ¬ (_ ∨ (arrV _ _ _).slots.size ≤ _); rw [arrV_size]; exact hi) rfl rfl d fun H1 e1 z oq => ?_
  refine kk hG p e s m args below meth c H1 _ lsA hC hl (hH.one hG hq hk ⟨?_, zcan_a (hH.2 q _ hk).2 hx⟩ z oq (fun _ _ => rfl) (fun q' hq' => sm_n hq')) (zlo_add hS (gk_A hG hq))
  show H1[G.1 q]? = some (vp_cell _ _)
  rw [e1]
  show some ((arrV (G.2.2.1 0) N (fun j => .int <| Int32.ofInt (M q (j : Int)))).setSlot _ _) = some (arrV (G.2.2.1 0) N (fun j => .int <| Int32.ofInt (sm M q i x q (j : Int))))
  rw [arrV_store]
  congr 2
  funext j
  unfold updV
  by_cases hj : j = (Int32.ofInt i).toNatClampNeg
  · rw [if_pos hj, hj, he, sm_s]
  · rw [if_neg hj, sm_k, us_n]
    intro z2
    exact hj (by omega)
theorem x_zast {q N : Nat} {i x : Int} (d : decode md.2.2.1 pc = .ok (.bastore, 1)) (hk : lay[q]? = some (.inl (1, N))) (hq : 2 ≤ q) (hN : N < 2147483648) (h0 : 0 ≤ i) (h1 : i < N) (hx : x = 0 ∨ x = 1) (kk : AQ G l md Z (pc + 1) ls (st) lay P (sm M q i x) (k) (n)) : AQ G l md Z (pc) ls (aI x :: aI i :: aR q :: st) lay P M (k) (n) := by
  intro hG p e s m args below meth c H locs lsA hC hl hH hS
  have hc := hH.ar hq hk
  obtain ⟨hi, he⟩ := zI1 h0 h1 hN
  refine W.zast hC.1 hC.2.1 hc ((hC.2.2.2.2.2.2.2.1.1.2 1 _ rfl).1 N (fun j => .int <| Int32.ofInt (M q (j : Int)))) (fun q => by cases q) (by show ¬ (_ ∨ (arrV _ _ _).slots.size ≤ _); rw [arrV_size]; exact hi) rfl rfl d fun H1 e1 z oq => ?_
  refine kk hG p e s m args below meth c H1 _ lsA hC hl (hH.one hG hq hk ⟨?_, zcan_a (hH.2 q _ hk).2 hx⟩ z oq (fun _ _ => rfl) (fun q' hq' => sm_n hq')) (zlo_add hS (gk_A hG hq))
  show H1[G.1 q]? = some (vp_cell _ _)
  rw [e1]
  show some ((arrV (G.2.2.1 1) N (fun j => .int <| Int32.ofInt (M q (j : Int)))).setSlot _ _) = some (arrV (G.2.2.1 1) N (fun j => .int <| Int32.ofInt (sm M q i x q (j : Int))))
  rw [arrV_store]
  congr 2
  funext j
  unfold updV
  by_cases hj : j = (Int32.ofInt i).toNatClampNeg
  · rw [if_pos hj, hj, he, sm_s]
    rcases hx with rfl | rfl <;> rfl
  · rw [if_neg hj, sm_k, us_n]
    intro z2
    exact hj (by omega)
theorem x_last {q N : Nat} {i x : Int} (d : decode md.2.2.1 pc = .ok (.lastore, 1)) (hk : lay[q]? = some (.inl (2, N))) (hq : 2 ≤ q) (hN : N < 2147483648) (h0 : 0 ≤ i) (h1 : i < N) (hx : inL x) (kk : AQ G l md Z (pc + 1) ls (st) lay P (sm M q i x) (k) (n)) : AQ G l md Z (pc) ls (aL x :: aI i :: aR q :: st) lay P M (k) (n) := by
  intro hG p e s m args below meth c H locs lsA hC hl hH hS
  have hc := hH.ar hq hk
  obtain ⟨hi, he⟩ := zI1 h0 h1 hN
  refine W.last hC.1 hC.2.1 hc ((hC.2.2.2.2.2.2.2.1.1.2 2 _ rfl).1 N (fun j => .long <| Int64.ofInt (M q (j : Int)))) (fun q => by cases q) (by show ¬ (_ ∨ (arrV _ _ _).slots.size ≤ _); rw [arrV_size]; exact hi) rfl rfl d fun H1 e1 z oq => ?_
  refine kk hG p e s m args below meth c H1 _ lsA hC hl (hH.one hG hq hk ⟨?_, zcan_a (hH.2 q _ hk).2 hx⟩ z oq (fun _ _ => rfl) (fun q' hq' => sm_n hq')) (zlo_add hS (gk_A hG hq))
  show H1[G.1 q]? = some (vp_cell _ _)
  rw [e1]
  show some ((arrV (G.2.2.1 2) N (fun j => .long <| Int64.ofInt (M q (j : Int)))).setSlot _ _) = some (arrV (G.2.2.1 2) N (fun j => .long <| Int64.ofInt (sm M q i x q (j : Int))))
  rw [arrV_store]
  congr 2
  funext j
  unfold updV
  by_cases hj : j = (Int32.ofInt i).toNatClampNeg
  · rw [if_pos hj, hj, he, sm_s]
  · rw [if_neg hj, sm_k, us_n]
    intro z2
    exact hj (by omega)
theorem x_getI {q ci j idx : Nat} {ty : FieldType} {fin : Bool} {dcl : String} {j' : Int}  (d : decode md.2.2.1 pc = .ok (.getfield idx, 3)) (hf : FL md.1 idx ci j ty fin dcl) (ht : (zft ci)[j]? = some 0) (hj : (j : Int) = j') (hk : lay[q]? = some (.inr ci))  (kk : zrng 0 (M q j') → AQ G l md Z (pc + 3) ls (aI (M q j') :: st) lay P M (k) (n)) : AQ G l md Z (pc) ls (aR q :: st) lay P M (k) (n) := by
  intro hG p e s m args below meth c H locs lsA hC hl hH hS
  have h := kk (hj ▸ (hH.2 q _ hk).2 j _ ht) hG p e s m args below meth c H locs lsA hC hl hH hS
  obtain ⟨C, T, N, hL, hjN, -, -, hw, -⟩ := hf
  subst hj
  refine va_get (ws := [(G.1 q, zE G P M q (.inr ci))]) (v := .int (Int32.ofInt (M q (j : Int)))) (ref := (T j).1) hC.1 hC.2.1 hC.2.2.2.2.2.2.1 hL.2.1 hC.2.2.2.2.2.1 hC.2.2.2.2.2.2.2.1.1 (fun i x hx => by
    cases i with
    | zero => cases hx; exact (hH.ob hk)
    | succ i => cases hx) 0 rfl hL.1 j hjN (hC.2.2.2.2.2.2.1 _ hw) (fun _ h9 => h9) (by rw [zF_at ht]; rfl) d ?_
  exact h
theorem x_getZ {q ci j idx : Nat} {ty : FieldType} {fin : Bool} {dcl : String} {j' : Int}  (d : decode md.2.2.1 pc = .ok (.getfield idx, 3)) (hf : FL md.1 idx ci j ty fin dcl) (ht : (zft ci)[j]? = some 1) (hj : (j : Int) = j') (hk : lay[q]? = some (.inr ci))  (kk : zrng 1 (M q j') → AQ G l md Z (pc + 3) ls (aI (M q j') :: st) lay P M (k) (n)) : AQ G l md Z (pc) ls (aR q :: st) lay P M (k) (n) := by
  intro hG p e s m args below meth c H locs lsA hC hl hH hS
  have h := kk (hj ▸ (hH.2 q _ hk).2 j _ ht) hG p e s m args below meth c H locs lsA hC hl hH hS
  obtain ⟨C, T, N, hL, hjN, -, -, hw, -⟩ := hf
  subst hj
  refine va_get (ws := [(G.1 q, zE G P M q (.inr ci))]) (v := .int (Int32.ofInt (M q (j : Int)))) (ref := (T j).1) hC.1 hC.2.1 hC.2.2.2.2.2.2.1 hL.2.1 hC.2.2.2.2.2.1 hC.2.2.2.2.2.2.2.1.1 (fun i x hx => by
    cases i with
    | zero => cases hx; exact (hH.ob hk)
    | succ i => cases hx) 0 rfl hL.1 j hjN (hC.2.2.2.2.2.2.1 _ hw) (fun _ h9 => h9) (by rw [zF_at ht]; rfl) d ?_
  exact h
theorem x_getL {q ci j idx : Nat} {ty : FieldType} {fin : Bool} {dcl : String} {j' : Int}  (d : decode md.2.2.1 pc = .ok (.getfield idx, 3)) (hf : FL md.1 idx ci j ty fin dcl) (ht : (zft ci)[j]? = some 2) (hj : (j : Int) = j') (hk : lay[q]? = some (.inr ci))  (kk : zrng 2 (M q j') → AQ G l md Z (pc + 3) ls (aL (M q j') :: st) lay P M (k) (n)) : AQ G l md Z (pc) ls (aR q :: st) lay P M (k) (n) := by
  intro hG p e s m args below meth c H locs lsA hC hl hH hS
  have h := kk (hj ▸ (hH.2 q _ hk).2 j _ ht) hG p e s m args below meth c H locs lsA hC hl hH hS
  obtain ⟨C, T, N, hL, hjN, -, -, hw, -⟩ := hf
  subst hj
  refine va_get (ws := [(G.1 q, zE G P M q (.inr ci))]) (v := .long (Int64.ofInt (M q (j : Int)))) (ref := (T j).1) hC.1 hC.2.1 hC.2.2.2.2.2.2.1 hL.2.1 hC.2.2.2.2.2.1 hC.2.2.2.2.2.2.2.1.1 (fun i x hx => by
    cases i with
    | zero => cases hx; exact (hH.ob hk)
    | succ i => cases hx) 0 rfl hL.1 j hjN (hC.2.2.2.2.2.2.1 _ hw) (fun _ h9 => h9) (by rw [zF_at ht]; rfl) d ?_
  exact h
theorem x_getR {q ci j idx : Nat} {ty : FieldType} {fin : Bool} {dcl : String} {j' : Int} {y : Nat} (d : decode md.2.2.1 pc = .ok (.getfield idx, 3)) (hf : FL md.1 idx ci j ty fin dcl) (ht : (zft ci)[j]? = some 3) (hj : (j : Int) = j') (hk : lay[q]? = some (.inr ci)) (hy : P q j' = some y) (kk : AQ G l md Z (pc + 3) ls (aR y :: st) lay P M (k) (n)) : AQ G l md Z (pc) ls (aR q :: st) lay P M (k) (n) := by
  intro hG p e s m args below meth c H locs lsA hC hl hH hS
  have h := kk hG p e s m args below meth c H locs lsA hC hl hH hS
  obtain ⟨C, T, N, hL, hjN, -, -, hw, -⟩ := hf
  subst hj
  refine va_get (ws := [(G.1 q, zE G P M q (.inr ci))]) (v := .ref (G.1 y)) (ref := (T j).1) hC.1 hC.2.1 hC.2.2.2.2.2.2.1 hL.2.1 hC.2.2.2.2.2.1 hC.2.2.2.2.2.2.2.1.1 (fun i x hx => by
    cases i with
    | zero => cases hx; exact (hH.ob hk)
    | succ i => cases hx) 0 rfl hL.1 j hjN (hC.2.2.2.2.2.2.1 _ hw) (fun _ h9 => h9) (by rw [zF_at ht]; show some (va_rf ((P q (j : Int)).map G.1)) = _; rw [hy]; rfl) d ?_
  exact h
theorem x_putI {q ci j idx : Nat} {ty : FieldType} {dcl : String} {j' : Int} {x : Int} (d : decode md.2.2.1 pc = .ok (.putfield idx, 3)) (hf : FL md.1 idx ci j ty false dcl) (ht : (zft ci)[j]? = some 0) (hj : (j : Int) = j') (hk : lay[q]? = some (.inr ci)) (hq : 2 ≤ q) (hty9 : ty = .int) (hx : inR x) (kk : AQ G l md Z (pc + 3) ls (st) lay P (sm M q j' x) (k) (n)) : AQ G l md Z (pc) ls (aI x :: aR q :: st) lay P M (k) (n) := by
  intro hG p e s m args below meth c H locs lsA hC hl hH hS
  obtain ⟨C, T, N, hL, hjN, hfin, hd, hw, hdecl⟩ := hf
  obtain ⟨hcl, hin9, ⟨ty0, hty⟩, hnm⟩ := hL
  subst hj
  have hn : narrow ty (cv G.1 (aI x)) = cv G.1 (aI x) := by subst hty9; rfl
  have hfit : fits ty (cv G.1 (aI x)) = true := by subst hty9; rfl
  have hts := hC.2.2.2.2.2.2.1
  have hK := hC.2.2.2.2.2.2.2.1.1
  have hap := va_apart (own := md.1) hts hin9 ty0 hty hnm hK hcl
  obtain ⟨r, h1, cell, q1, q2, q3, q4⟩ := (hH.ob hk)
  have hr : r = (C, T, N) := Option.some.inj (h1.symm.trans hcl)
  subst hr
  obtain ⟨hS9, hfc, kC, hkC, hkind⟩ := hK.1 ci _ hcl
  obtain ⟨cf, kf, fi, f, hi, hsl⟩ := hS9 j hjN
  have hlay := hts _ (hin9 _ (u_in_lay hjN))
  unfold u_lay at hlay
  rw [if_neg (by rw [hfin]; decide)] at hlay
  have hst := (u_facts hfc hkC (u_lays hts hin9 hjN) hi).1
  have h6 := u_store hfc hkC hkind hlay hi hd hn hfit
  refine W.putK hC.1 hC.2.1 (f := f) ⟨hC.2.2.2.2.2.1, hC.2.2.2.2.2.2.1 _ hw, ⟨_, _, _, hi⟩, hst⟩ (by rw [q2]; exact h6) q1 q3 (by rw [hsl]; exact k2_hasslot (q4 j hjN)) rfl rfl d fun H' e1 e2 e3 => ?_
  rw [hsl] at e1
  refine kk hG p e s m args below meth c H' _ lsA hC hl (hH.one hG hq hk ⟨?_, zcan_f (hH.2 q _ hk).2 ht hx⟩ e2 e3 (fun q' hq' => rfl) (fun q' hq' => sm_n hq')) (zlo_add hS (gk_A hG hq))
  refine ⟨_, hcl, t_OB.to (V := updV (vp_V (zF G P M q ci)) j (cv G.1 (aI x))) ⟨_, e1, q2, q3, t_set q4 hap hjN _⟩ (fun i _ => ?_)⟩
  rw [vp_updV_set (by rw [zF_len]; exact (List.getElem?_eq_some_iff.mp ht).1)]
  congr 1
  rw [zF_set (G := G) (P := P) (P' := P) (M := M) (M' := (sm M q (j : Int) x)) (k := q) ht (fun i hi => by rfl) (fun i hi => by rw [sm_k, us_n hi])]
  congr 1
  simp [zV, sm_s, cv]
theorem x_putZ {q ci j idx : Nat} {ty : FieldType} {dcl : String} {j' : Int} {x : Int} (d : decode md.2.2.1 pc = .ok (.putfield idx, 3)) (hf : FL md.1 idx ci j ty false dcl) (ht : (zft ci)[j]? = some 1) (hj : (j : Int) = j') (hk : lay[q]? = some (.inr ci)) (hq : 2 ≤ q) (hty9 : ty = .boolean) (hx : x = 0 ∨ x = 1) (kk : AQ G l md Z (pc + 3) ls (st) lay P (sm M q j' x) (k) (n)) : AQ G l md Z (pc) ls (aI x :: aR q :: st) lay P M (k) (n) := by
  intro hG p e s m args below meth c H locs lsA hC hl hH hS
  obtain ⟨C, T, N, hL, hjN, hfin, hd, hw, hdecl⟩ := hf
  obtain ⟨hcl, hin9, ⟨ty0, hty⟩, hnm⟩ := hL
  subst hj
  have hn : narrow ty (cv G.1 (aI x)) = cv G.1 (aI x) := by subst hty9; rcases hx with rfl | rfl <;> rfl
  have hfit : fits ty (cv G.1 (aI x)) = true := by subst hty9; rcases hx with rfl | rfl <;> rfl
  have hts := hC.2.2.2.2.2.2.1
  have hK := hC.2.2.2.2.2.2.2.1.1
  have hap := va_apart (own := md.1) hts hin9 ty0 hty hnm hK hcl
  obtain ⟨r, h1, cell, q1, q2, q3, q4⟩ := (hH.ob hk)
  have hr : r = (C, T, N) := Option.some.inj (h1.symm.trans hcl)
  subst hr
  obtain ⟨hS9, hfc, kC, hkC, hkind⟩ := hK.1 ci _ hcl
  obtain ⟨cf, kf, fi, f, hi, hsl⟩ := hS9 j hjN
  have hlay := hts _ (hin9 _ (u_in_lay hjN))
  unfold u_lay at hlay
  rw [if_neg (by rw [hfin]; decide)] at hlay
  have hst := (u_facts hfc hkC (u_lays hts hin9 hjN) hi).1
  have h6 := u_store hfc hkC hkind hlay hi hd hn hfit
  refine W.putK hC.1 hC.2.1 (f := f) ⟨hC.2.2.2.2.2.1, hC.2.2.2.2.2.2.1 _ hw, ⟨_, _, _, hi⟩, hst⟩ (by rw [q2]; exact h6) q1 q3 (by rw [hsl]; exact k2_hasslot (q4 j hjN)) rfl rfl d fun H' e1 e2 e3 => ?_
  rw [hsl] at e1
  refine kk hG p e s m args below meth c H' _ lsA hC hl (hH.one hG hq hk ⟨?_, zcan_f (hH.2 q _ hk).2 ht hx⟩ e2 e3 (fun q' hq' => rfl) (fun q' hq' => sm_n hq')) (zlo_add hS (gk_A hG hq))
  refine ⟨_, hcl, t_OB.to (V := updV (vp_V (zF G P M q ci)) j (cv G.1 (aI x))) ⟨_, e1, q2, q3, t_set q4 hap hjN _⟩ (fun i _ => ?_)⟩
  rw [vp_updV_set (by rw [zF_len]; exact (List.getElem?_eq_some_iff.mp ht).1)]
  congr 1
  rw [zF_set (G := G) (P := P) (P' := P) (M := M) (M' := (sm M q (j : Int) x)) (k := q) ht (fun i hi => by rfl) (fun i hi => by rw [sm_k, us_n hi])]
  congr 1
  simp [zV, sm_s, cv]
theorem x_putL {q ci j idx : Nat} {ty : FieldType} {dcl : String} {j' : Int} {x : Int} (d : decode md.2.2.1 pc = .ok (.putfield idx, 3)) (hf : FL md.1 idx ci j ty false dcl) (ht : (zft ci)[j]? = some 2) (hj : (j : Int) = j') (hk : lay[q]? = some (.inr ci)) (hq : 2 ≤ q) (hty9 : ty = .long) (hx : inL x) (kk : AQ G l md Z (pc + 3) ls (st) lay P (sm M q j' x) (k) (n)) : AQ G l md Z (pc) ls (aL x :: aR q :: st) lay P M (k) (n) := by
  intro hG p e s m args below meth c H locs lsA hC hl hH hS
  obtain ⟨C, T, N, hL, hjN, hfin, hd, hw, hdecl⟩ := hf
  obtain ⟨hcl, hin9, ⟨ty0, hty⟩, hnm⟩ := hL
  subst hj
  have hn : narrow ty (cv G.1 (aL x)) = cv G.1 (aL x) := by subst hty9; rfl
  have hfit : fits ty (cv G.1 (aL x)) = true := by subst hty9; rfl
  have hts := hC.2.2.2.2.2.2.1
  have hK := hC.2.2.2.2.2.2.2.1.1
  have hap := va_apart (own := md.1) hts hin9 ty0 hty hnm hK hcl
  obtain ⟨r, h1, cell, q1, q2, q3, q4⟩ := (hH.ob hk)
  have hr : r = (C, T, N) := Option.some.inj (h1.symm.trans hcl)
  subst hr
  obtain ⟨hS9, hfc, kC, hkC, hkind⟩ := hK.1 ci _ hcl
  obtain ⟨cf, kf, fi, f, hi, hsl⟩ := hS9 j hjN
  have hlay := hts _ (hin9 _ (u_in_lay hjN))
  unfold u_lay at hlay
  rw [if_neg (by rw [hfin]; decide)] at hlay
  have hst := (u_facts hfc hkC (u_lays hts hin9 hjN) hi).1
  have h6 := u_store hfc hkC hkind hlay hi hd hn hfit
  refine W.putK hC.1 hC.2.1 (f := f) ⟨hC.2.2.2.2.2.1, hC.2.2.2.2.2.2.1 _ hw, ⟨_, _, _, hi⟩, hst⟩ (by rw [q2]; exact h6) q1 q3 (by rw [hsl]; exact k2_hasslot (q4 j hjN)) rfl rfl d fun H' e1 e2 e3 => ?_
  rw [hsl] at e1
  refine kk hG p e s m args below meth c H' _ lsA hC hl (hH.one hG hq hk ⟨?_, zcan_f (hH.2 q _ hk).2 ht hx⟩ e2 e3 (fun q' hq' => rfl) (fun q' hq' => sm_n hq')) (zlo_add hS (gk_A hG hq))
  refine ⟨_, hcl, t_OB.to (V := updV (vp_V (zF G P M q ci)) j (cv G.1 (aL x))) ⟨_, e1, q2, q3, t_set q4 hap hjN _⟩ (fun i _ => ?_)⟩
  rw [vp_updV_set (by rw [zF_len]; exact (List.getElem?_eq_some_iff.mp ht).1)]
  congr 1
  rw [zF_set (G := G) (P := P) (P' := P) (M := M) (M' := (sm M q (j : Int) x)) (k := q) ht (fun i hi => by rfl) (fun i hi => by rw [sm_k, us_n hi])]
  congr 1
  simp [zV, sm_s, cv]
theorem x_putR {q ci j idx : Nat} {ty : FieldType} {dcl : String} {j' : Int} {y : Nat} (d : decode md.2.2.1 pc = .ok (.putfield idx, 3)) (hf : FL md.1 idx ci j ty false dcl) (ht : (zft ci)[j]? = some 3) (hj : (j : Int) = j') (hk : lay[q]? = some (.inr ci)) (hq : 2 ≤ q) (hty9 : isRefTy ty = true) (kk : AQ G l md Z (pc + 3) ls (st) lay (sp P q j' (some y)) M (k) (n)) : AQ G l md Z (pc) ls (aR y :: aR q :: st) lay P M (k) (n) := by
  intro hG p e s m args below meth c H locs lsA hC hl hH hS
  obtain ⟨C, T, N, hL, hjN, hfin, hd, hw, hdecl⟩ := hf
  obtain ⟨hcl, hin9, ⟨ty0, hty⟩, hnm⟩ := hL
  subst hj
  have hn : narrow ty (cv G.1 (aR y)) = cv G.1 (aR y) := by cases ty <;> first | rfl | (cases hty9)
  have hfit : fits ty (cv G.1 (aR y)) = true := by cases ty <;> first | rfl | (cases hty9)
  have hts := hC.2.2.2.2.2.2.1
  have hK := hC.2.2.2.2.2.2.2.1.1
  have hap := va_apart (own := md.1) hts hin9 ty0 hty hnm hK hcl
  obtain ⟨r, h1, cell, q1, q2, q3, q4⟩ := (hH.ob hk)
  have hr : r = (C, T, N) := Option.some.inj (h1.symm.trans hcl)
  subst hr
  obtain ⟨hS9, hfc, kC, hkC, hkind⟩ := hK.1 ci _ hcl
  obtain ⟨cf, kf, fi, f, hi, hsl⟩ := hS9 j hjN
  have hlay := hts _ (hin9 _ (u_in_lay hjN))
  unfold u_lay at hlay
  rw [if_neg (by rw [hfin]; decide)] at hlay
  have hst := (u_facts hfc hkC (u_lays hts hin9 hjN) hi).1
  have h6 := u_store hfc hkC hkind hlay hi hd hn hfit
  refine W.putK hC.1 hC.2.1 (f := f) ⟨hC.2.2.2.2.2.1, hC.2.2.2.2.2.2.1 _ hw, ⟨_, _, _, hi⟩, hst⟩ (by rw [q2]; exact h6) q1 q3 (by rw [hsl]; exact k2_hasslot (q4 j hjN)) rfl rfl d fun H' e1 e2 e3 => ?_
  rw [hsl] at e1
  refine kk hG p e s m args below meth c H' _ lsA hC hl (hH.one hG hq hk ⟨?_, (hH.2 q _ hk).2⟩ e2 e3 (fun q' hq' => sp_n hq') (fun q' hq' => rfl)) (zlo_add hS (gk_A hG hq))
  refine ⟨_, hcl, t_OB.to (V := updV (vp_V (zF G P M q ci)) j (cv G.1 (aR y))) ⟨_, e1, q2, q3, t_set q4 hap hjN _⟩ (fun i _ => ?_)⟩
  rw [vp_updV_set (by rw [zF_len]; exact (List.getElem?_eq_some_iff.mp ht).1)]
  congr 1
  rw [zF_set (G := G) (P := P) (P' := (sp P q (j : Int) (some y))) (M := M) (M' := M) (k := q) ht (fun i hi => by simp [sp, hi]) (fun i hi => by rfl)]
  congr 1
  simp [zV, sp, cv]
theorem x_putFI {q ci j idx : Nat} {ty : FieldType} {dcl : String} {j' : Int} {x : Int} (d : decode md.2.2.1 pc = .ok (.putfield idx, 3)) (hf : FL md.1 idx ci j ty true md.1) (ht : (zft ci)[j]? = some 0) (hj : (j : Int) = j') (hk : lay[q]? = some (.inr ci)) (hq : 2 ≤ q) (hty9 : ty = .int) (hx : inR x) (hin : md.2.1 = "<init>") (kk : AQ G l md Z (pc + 3) ls (st) lay P (sm M q j' x) (k) (n)) : AQ G l md Z (pc) ls (aI x :: aR q :: st) lay P M (k) (n) := by
  intro hG p e s m args below meth c H locs lsA hC hl hH hS
  obtain ⟨C, T, N, hL, hjN, hfin, hd, hw, hdecl⟩ := hf
  obtain ⟨hcl, hin9, ⟨ty0, hty⟩, hnm⟩ := hL
  subst hj
  have hn : narrow ty (cv G.1 (aI x)) = cv G.1 (aI x) := by subst hty9; rfl
  have hfit : fits ty (cv G.1 (aI x)) = true := by subst hty9; rfl
  have hts := hC.2.2.2.2.2.2.1
  have hK := hC.2.2.2.2.2.2.2.1.1
  have hap := va_apart (own := md.1) hts hin9 ty0 hty hnm hK hcl
  obtain ⟨r, h1, cell, q1, q2, q3, q4⟩ := (hH.ob hk)
  have hr : r = (C, T, N) := Option.some.inj (h1.symm.trans hcl)
  subst hr
  obtain ⟨hS9, hfc, kC, hkC, hkind⟩ := hK.1 ci _ hcl
  obtain ⟨cf, kf, fi, f, hi, hsl⟩ := hS9 j hjN
  have hlay := hts _ (hin9 _ (u_in_lay hjN))
  unfold u_lay at hlay
  rw [if_pos hfin] at hlay
  have hst := (u_facts hfc hkC (u_lays hts hin9 hjN) hi).1
  have hcf : m.cls = cf := by
    obtain ⟨_, _, c', _, _, _, -, -, hf', -, -, -, hown2, -⟩ := Cond.laysFinal_spec hlay
    have e1 : c' = cf := by have := hi.symm.trans hf'; simp at this; exact this.1.symm
    rw [hdecl] at hown2
    rw [← e1]; exact Option.some.inj (hC.2.2.2.2.2.1.symm.trans hown2)
  have h6 := u_fits hfc hkC hkind (Or.inr hlay) hi hd hn hfit
  refine W.putFinK hC.1 hC.2.1 hC.2.2.2.2.2.1 (hC.2.2.2.2.2.2.1 _ hw) hi hst hcf (hC.2.2.2.2.2.2.2.2.1.trans hin) (by rw [q2]; exact h6) q1 q3 (by rw [hsl]; exact k2_hasslot (q4 j hjN)) rfl rfl d fun H' e1 e2 e3 => ?_
  rw [hsl] at e1
  refine kk hG p e s m args below meth c H' _ lsA hC hl (hH.one hG hq hk ⟨?_, zcan_f (hH.2 q _ hk).2 ht hx⟩ e2 e3 (fun q' hq' => rfl) (fun q' hq' => sm_n hq')) (zlo_add hS (gk_A hG hq))
  refine ⟨_, hcl, t_OB.to (V := updV (vp_V (zF G P M q ci)) j (cv G.1 (aI x))) ⟨_, e1, q2, q3, t_set q4 hap hjN _⟩ (fun i _ => ?_)⟩
  rw [vp_updV_set (by rw [zF_len]; exact (List.getElem?_eq_some_iff.mp ht).1)]
  congr 1
  rw [zF_set (G := G) (P := P) (P' := P) (M := M) (M' := (sm M q (j : Int) x)) (k := q) ht (fun i hi => by rfl) (fun i hi => by rw [sm_k, us_n hi])]
  congr 1
  simp [zV, sm_s, cv]
theorem x_putFZ {q ci j idx : Nat} {ty : FieldType} {dcl : String} {j' : Int} {x : Int} (d : decode md.2.2.1 pc = .ok (.putfield idx, 3)) (hf : FL md.1 idx ci j ty true md.1) (ht : (zft ci)[j]? = some 1) (hj : (j : Int) = j') (hk : lay[q]? = some (.inr ci)) (hq : 2 ≤ q) (hty9 : ty = .boolean) (hx : x = 0 ∨ x = 1) (hin : md.2.1 = "<init>") (kk : AQ G l md Z (pc + 3) ls (st) lay P (sm M q j' x) (k) (n)) : AQ G l md Z (pc) ls (aI x :: aR q :: st) lay P M (k) (n) := by
  intro hG p e s m args below meth c H locs lsA hC hl hH hS
  obtain ⟨C, T, N, hL, hjN, hfin, hd, hw, hdecl⟩ := hf
  obtain ⟨hcl, hin9, ⟨ty0, hty⟩, hnm⟩ := hL
  subst hj
  have hn : narrow ty (cv G.1 (aI x)) = cv G.1 (aI x) := by subst hty9; rcases hx with rfl | rfl <;> rfl
  have hfit : fits ty (cv G.1 (aI x)) = true := by subst hty9; rcases hx with rfl | rfl <;> rfl
  have hts := hC.2.2.2.2.2.2.1
  have hK := hC.2.2.2.2.2.2.2.1.1
  have hap := va_apart (own := md.1) hts hin9 ty0 hty hnm hK hcl
  obtain ⟨r, h1, cell, q1, q2, q3, q4⟩ := (hH.ob hk)
  have hr : r = (C, T, N) := Option.some.inj (h1.symm.trans hcl)
  subst hr
  obtain ⟨hS9, hfc, kC, hkC, hkind⟩ := hK.1 ci _ hcl
  obtain ⟨cf, kf, fi, f, hi, hsl⟩ := hS9 j hjN
  have hlay := hts _ (hin9 _ (u_in_lay hjN))
  unfold u_lay at hlay
  rw [if_pos hfin] at hlay
  have hst := (u_facts hfc hkC (u_lays hts hin9 hjN) hi).1
  have hcf : m.cls = cf := by
    obtain ⟨_, _, c', _, _, _, -, -, hf', -, -, -, hown2, -⟩ := Cond.laysFinal_spec hlay
    have e1 : c' = cf := by have := hi.symm.trans hf'; simp at this; exact this.1.symm
    rw [hdecl] at hown2
    rw [← e1]; exact Option.some.inj (hC.2.2.2.2.2.1.symm.trans hown2)
  have h6 := u_fits hfc hkC hkind (Or.inr hlay) hi hd hn hfit
  refine W.putFinK hC.1 hC.2.1 hC.2.2.2.2.2.1 (hC.2.2.2.2.2.2.1 _ hw) hi hst hcf (hC.2.2.2.2.2.2.2.2.1.trans hin) (by rw [q2]; exact h6) q1 q3 (by rw [hsl]; exact k2_hasslot (q4 j hjN)) rfl rfl d fun H' e1 e2 e3 => ?_
  rw [hsl] at e1
  refine kk hG p e s m args below meth c H' _ lsA hC hl (hH.one hG hq hk ⟨?_, zcan_f (hH.2 q _ hk).2 ht hx⟩ e2 e3 (fun q' hq' => rfl) (fun q' hq' => sm_n hq')) (zlo_add hS (gk_A hG hq))
  refine ⟨_, hcl, t_OB.to (V := updV (vp_V (zF G P M q ci)) j (cv G.1 (aI x))) ⟨_, e1, q2, q3, t_set q4 hap hjN _⟩ (fun i _ => ?_)⟩
  rw [vp_updV_set (by rw [zF_len]; exact (List.getElem?_eq_some_iff.mp ht).1)]
  congr 1
  rw [zF_set (G := G) (P := P) (P' := P) (M := M) (M' := (sm M q (j : Int) x)) (k := q) ht (fun i hi => by rfl) (fun i hi => by rw [sm_k, us_n hi])]
  congr 1
  simp [zV, sm_s, cv]
theorem x_putFL {q ci j idx : Nat} {ty : FieldType} {dcl : String} {j' : Int} {x : Int} (d : decode md.2.2.1 pc = .ok (.putfield idx, 3)) (hf : FL md.1 idx ci j ty true md.1) (ht : (zft ci)[j]? = some 2) (hj : (j : Int) = j') (hk : lay[q]? = some (.inr ci)) (hq : 2 ≤ q) (hty9 : ty = .long) (hx : inL x) (hin : md.2.1 = "<init>") (kk : AQ G l md Z (pc + 3) ls (st) lay P (sm M q j' x) (k) (n)) : AQ G l md Z (pc) ls (aL x :: aR q :: st) lay P M (k) (n) := by
  intro hG p e s m args below meth c H locs lsA hC hl hH hS
  obtain ⟨C, T, N, hL, hjN, hfin, hd, hw, hdecl⟩ := hf
  obtain ⟨hcl, hin9, ⟨ty0, hty⟩, hnm⟩ := hL
  subst hj
  have hn : narrow ty (cv G.1 (aL x)) = cv G.1 (aL x) := by subst hty9; rfl
  have hfit : fits ty (cv G.1 (aL x)) = true := by subst hty9; rfl
  have hts := hC.2.2.2.2.2.2.1
  have hK := hC.2.2.2.2.2.2.2.1.1
  have hap := va_apart (own := md.1) hts hin9 ty0 hty hnm hK hcl
  obtain ⟨r, h1, cell, q1, q2, q3, q4⟩ := (hH.ob hk)
  have hr : r = (C, T, N) := Option.some.inj (h1.symm.trans hcl)
  subst hr
  obtain ⟨hS9, hfc, kC, hkC, hkind⟩ := hK.1 ci _ hcl
  obtain ⟨cf, kf, fi, f, hi, hsl⟩ := hS9 j hjN
  have hlay := hts _ (hin9 _ (u_in_lay hjN))
  unfold u_lay at hlay
  rw [if_pos hfin] at hlay
  have hst := (u_facts hfc hkC (u_lays hts hin9 hjN) hi).1
  have hcf : m.cls = cf := by
    obtain ⟨_, _, c', _, _, _, -, -, hf', -, -, -, hown2, -⟩ := Cond.laysFinal_spec hlay
    have e1 : c' = cf := by have := hi.symm.trans hf'; simp at this; exact this.1.symm
    rw [hdecl] at hown2
    rw [← e1]; exact Option.some.inj (hC.2.2.2.2.2.1.symm.trans hown2)
  have h6 := u_fits hfc hkC hkind (Or.inr hlay) hi hd hn hfit
  refine W.putFinK hC.1 hC.2.1 hC.2.2.2.2.2.1 (hC.2.2.2.2.2.2.1 _ hw) hi hst hcf (hC.2.2.2.2.2.2.2.2.1.trans hin) (by rw [q2]; exact h6) q1 q3 (by rw [hsl]; exact k2_hasslot (q4 j hjN)) rfl rfl d fun H' e1 e2 e3 => ?_
  rw [hsl] at e1
  refine kk hG p e s m args below meth c H' _ lsA hC hl (hH.one hG hq hk ⟨?_, zcan_f (hH.2 q _ hk).2 ht hx⟩ e2 e3 (fun q' hq' => rfl) (fun q' hq' => sm_n hq')) (zlo_add hS (gk_A hG hq))
  refine ⟨_, hcl, t_OB.to (V := updV (vp_V (zF G P M q ci)) j (cv G.1 (aL x))) ⟨_, e1, q2, q3, t_set q4 hap hjN _⟩ (fun i _ => ?_)⟩
  rw [vp_updV_set (by rw [zF_len]; exact (List.getElem?_eq_some_iff.mp ht).1)]
  congr 1
  rw [zF_set (G := G) (P := P) (P' := P) (M := M) (M' := (sm M q (j : Int) x)) (k := q) ht (fun i hi => by rfl) (fun i hi => by rw [sm_k, us_n hi])]
  congr 1
  simp [zV, sm_s, cv]
theorem x_putFR {q ci j idx : Nat} {ty : FieldType} {dcl : String} {j' : Int} {y : Nat} (d : decode md.2.2.1 pc = .ok (.putfield idx, 3)) (hf : FL md.1 idx ci j ty true md.1) (ht : (zft ci)[j]? = some 3) (hj : (j : Int) = j') (hk : lay[q]? = some (.inr ci)) (hq : 2 ≤ q) (hty9 : isRefTy ty = true) (hin : md.2.1 = "<init>") (kk : AQ G l md Z (pc + 3) ls (st) lay (sp P q j' (some y)) M (k) (n)) : AQ G l md Z (pc) ls (aR y :: aR q :: st) lay P M (k) (n) := by
  intro hG p e s m args below meth c H locs lsA hC hl hH hS
  obtain ⟨C, T, N, hL, hjN, hfin, hd, hw, hdecl⟩ := hf
  obtain ⟨hcl, hin9, ⟨ty0, hty⟩, hnm⟩ := hL
  subst hj
  have hn : narrow ty (cv G.1 (aR y)) = cv G.1 (aR y) := by cases ty <;> first | rfl | (cases hty9)
  have hfit : fits ty (cv G.1 (aR y)) = true := by cases ty <;> first | rfl | (cases hty9)
  have hts := hC.2.2.2.2.2.2.1
  have hK := hC.2.2.2.2.2.2.2.1.1
  have hap := va_apart (own := md.1) hts hin9 ty0 hty hnm hK hcl
  obtain ⟨r, h1, cell, q1, q2, q3, q4⟩ := (hH.ob hk)
  have hr : r = (C, T, N) := Option.some.inj (h1.symm.trans hcl)
  subst hr
  obtain ⟨hS9, hfc, kC, hkC, hkind⟩ := hK.1 ci _ hcl
  obtain ⟨cf, kf, fi, f, hi, hsl⟩ := hS9 j hjN
  have hlay := hts _ (hin9 _ (u_in_lay hjN))
  unfold u_lay at hlay
  rw [if_pos hfin] at hlay
  have hst := (u_facts hfc hkC (u_lays hts hin9 hjN) hi).1
  have hcf : m.cls = cf := by
    obtain ⟨_, _, c', _, _, _, -, -, hf', -, -, -, hown2, -⟩ := Cond.laysFinal_spec hlay
    have e1 : c' = cf := by have := hi.symm.trans hf'; simp at this; exact this.1.symm
    rw [hdecl] at hown2
    rw [← e1]; exact Option.some.inj (hC.2.2.2.2.2.1.symm.trans hown2)
  have h6 := u_fits hfc hkC hkind (Or.inr hlay) hi hd hn hfit
  refine W.putFinK hC.1 hC.2.1 hC.2.2.2.2.2.1 (hC.2.2.2.2.2.2.1 _ hw) hi hst hcf (hC.2.2.2.2.2.2.2.2.1.trans hin) (by rw [q2]; exact h6) q1 q3 (by rw [hsl]; exact k2_hasslot (q4 j hjN)) rfl rfl d fun H' e1 e2 e3 => ?_
  rw [hsl] at e1
  refine kk hG p e s m args below meth c H' _ lsA hC hl (hH.one hG hq hk ⟨?_, (hH.2 q _ hk).2⟩ e2 e3 (fun q' hq' => sp_n hq') (fun q' hq' => rfl)) (zlo_add hS (gk_A hG hq))
  refine ⟨_, hcl, t_OB.to (V := updV (vp_V (zF G P M q ci)) j (cv G.1 (aR y))) ⟨_, e1, q2, q3, t_set q4 hap hjN _⟩ (fun i _ => ?_)⟩
  rw [vp_updV_set (by rw [zF_len]; exact (List.getElem?_eq_some_iff.mp ht).1)]
  congr 1
  rw [zF_set (G := G) (P := P) (P' := (sp P q (j : Int) (some y))) (M := M) (M' := M) (k := q) ht (fun i hi => by simp [sp, hi]) (fun i hi => by rfl)]
  congr 1
  simp [zV, sp, cv]
theorem x_invSN {y : MethodName} {md2 : zMd} {idx nA : Nat} {C : String} {as : List av} {st0 : List av}  {Z2 : zZ} (d : decode md.2.2.1 pc = .ok (.invokestatic idx, 3)) (hm : MSN md.1 idx C y md2 nA) (hR : RM md md2)  (hn : as.length = nA) (hst : as.reverse ++ st = st0) (hcat : (st.map zcat1).sum ≤ 8) (hroom : k + md2.2.2.2.2.2.cells ≤ md.2.2.2.2.2.cells ∧ n + md2.2.2.2.2.2.slots ≤ md.2.2.2.2.2.slots) (hM : AM G l y md2 as lay P M Z2)
    (kk : ∀ (r : Option av) (lay' : List zKd) (P' : zP) (M' : zM), Z2 r lay' P' M' → AQ G l md Z (pc + 3) ls (r.toList ++ st) lay' P' M' (k + md2.2.2.2.2.2.cells) (n + md2.2.2.2.2.2.slots)) : AQ G l md Z (pc) ls (st0) lay P M (k) (n) := by
  intro hG p e s m args below meth c H locs lsA hC hl hH hS
  subst hst
  have hts := hC.2.2.2.2.2.2.1
  have hr := va_runSN (p := p) (l := l) (e := e) (R := md.2.2.2.2.2) (below := below) (meth := meth) (locs := locs) (cells := k) (slots := n) (g := F0 m pc lsA ((as.reverse ++ st).map (cv G.1))) (rest := st.map (cv G.1)) (As := as.map (cv G.1)) (n := nA) ⟨hC.1, hC.2.1, hC.2.2.1, hC.2.2.2.2.2.1, hts⟩ (hM hG)
    ⟨va_cnB nA hts (zgoodc hm.2.2.2.2.2.2) rfl rfl rfl (hC.2.2.2.2.2.2.2.1.2.1 _ hm.2.2.2.1) (hts _ hm.2.2.2.2.2.1) ⟨hm.1, hm.2.1, hm.2.2.1⟩ hR, hts _ hm.2.2.2.2.1, trivial⟩
    ⟨zblind hG, fun U hU hW => ⟨rfl, by rw [hU]; exact hH, KK.warm hG hW hC.2.2.2.2.2.2.2.1⟩⟩ rfl (by rw [List.length_map]; exact hn) hl.1 (by simp) (zroom hcat) d hroom
  intro T0 hT X
  obtain ⟨v, st₀, t, T', L, h0, X', hL, e1, e2, ⟨r, lay', P', M', hv, hz, hHt⟩, go⟩ := hr T0 hT X
  have hv' : v = r.map (cv G.1) := by cases hv; rfl
  subst hv'
  have h := kk r lay' P' M' hz hG p e s m args below meth c T'.heap (locs ++ L) lsA hC hl (by rw [e1]; exact hHt) (fun q hq => by
    rcases List.mem_append.mp hq with h | h
    · exact hS q h
    · exact hL q h)
  obtain ⟨t2, a1, b1⟩ := h T' rfl X'
  refine ⟨t2, go t2 ?_, b1⟩
  have e9 : ((r.toList ++ st).map (cv G.1)) = (r.map (cv G.1)).toList ++ st.map (cv G.1) := by cases r <;> simp
  rw [e9] at a1
  exact a1
theorem x_invSA {y : MethodName} {md2 : zMd} {idx nA : Nat} {C : String} {as : List av} {st0 : List av}  {Z2 : zZ} (d : decode md.2.2.1 pc = .ok (.invokestatic idx, 3)) (hm : MSA md.1 idx y md2 nA) (hR : RM md md2)  (hn : as.length = nA) (hst : as.reverse ++ st = st0) (hcat : (st.map zcat1).sum ≤ 8) (hroom : k + md2.2.2.2.2.2.cells ≤ md.2.2.2.2.2.cells ∧ n + md2.2.2.2.2.2.slots ≤ md.2.2.2.2.2.slots) (hM : AM G l y md2 as lay P M Z2)
    (kk : ∀ (r : Option av) (lay' : List zKd) (P' : zP) (M' : zM), Z2 r lay' P' M' → AQ G l md Z (pc + 3) ls (r.toList ++ st) lay' P' M' (k + md2.2.2.2.2.2.cells) (n + md2.2.2.2.2.2.slots)) : AQ G l md Z (pc) ls (st0) lay P M (k) (n) := by
  intro hG p e s m args below meth c H locs lsA hC hl hH hS
  subst hst
  have hts := hC.2.2.2.2.2.2.1
  have hr := va_runS (p := p) (l := l) (e := e) (R := md.2.2.2.2.2) (below := below) (meth := meth) (locs := locs) (cells := k) (slots := n) (g := F0 m pc lsA ((as.reverse ++ st).map (cv G.1))) (rest := st.map (cv G.1)) (As := as.map (cv G.1)) (n := nA) ⟨hC.1, hC.2.1, hC.2.2.1, hC.2.2.2.2.2.1, hts⟩ (hM hG)
    (va_cwS nA hts (fun w hw => by
      rcases List.mem_append.mp hw with hw | hw
      · simp only [List.mem_cons, List.not_mem_nil, or_false] at hw
        rcases hw with rfl | rfl | rfl
        · exact zgood _ hm.2.2.2.1
        · exact zgood _ hm.2.2.2.2.1
        · exact zgood _ hm.2.2.2.2.2.1
      · exact zgoodc hm.2.2.2.2.2.2 w hw) rfl rfl rfl ⟨hm.1, hm.2.1, hm.2.2.1⟩ hR)
    ⟨zblind hG, fun U hU hW => ⟨rfl, by rw [hU]; exact hH, KK.warm hG hW hC.2.2.2.2.2.2.2.1⟩⟩ rfl (by rw [List.length_map]; exact hn) hl.1 (by simp) (zroom hcat) d hroom
  intro T0 hT X
  obtain ⟨v, st₀, t, T', L, h0, X', hL, e1, e2, ⟨r, lay', P', M', hv, hz, hHt⟩, go⟩ := hr T0 hT X
  have hv' : v = r.map (cv G.1) := by cases hv; rfl
  subst hv'
  have h := kk r lay' P' M' hz hG p e s m args below meth c T'.heap (locs ++ L) lsA hC hl (by rw [e1]; exact hHt) (fun q hq => by
    rcases List.mem_append.mp hq with h | h
    · exact hS q h
    · exact hL q h)
  obtain ⟨t2, a1, b1⟩ := h T' rfl X'
  refine ⟨t2, go t2 ?_, b1⟩
  have e9 : ((r.toList ++ st).map (cv G.1)) = (r.map (cv G.1)).toList ++ st.map (cv G.1) := by cases r <;> simp
  rw [e9] at a1
  exact a1
theorem x_invV {y : MethodName} {md2 : zMd} {idx nA : Nat} {C : String} {as : List av} {st0 : List av} {q ci : Nat} {T : u_T} {N : Nat} {Z2 : zZ} (d : decode md.2.2.1 pc = .ok (.invokevirtual idx, 3)) (hm : MV md.1 idx C y md2 nA) (hR : RM md md2) (hk : lay[q]? = some (.inr ci)) (hc : vwCl[ci]? = some (C, T, N)) (hn : as.length = nA) (hst : as.reverse ++ aR q :: st = st0) (hcat : (st.map zcat1).sum ≤ 8) (hroom : k + md2.2.2.2.2.2.cells ≤ md.2.2.2.2.2.cells ∧ n + md2.2.2.2.2.2.slots ≤ md.2.2.2.2.2.slots) (hM : AM G l y md2 (aR q :: as) lay P M Z2)
    (kk : ∀ (r : Option av) (lay' : List zKd) (P' : zP) (M' : zM), Z2 r lay' P' M' → AQ G l md Z (pc + 3) ls (r.toList ++ st) lay' P' M' (k + md2.2.2.2.2.2.cells) (n + md2.2.2.2.2.2.slots)) : AQ G l md Z (pc) ls (st0) lay P M (k) (n) := by
  intro hG p e s m args below meth c H locs lsA hC hl hH hS
  subst hst
  have hts := hC.2.2.2.2.2.2.1
  have hr := va_runV (p := p) (l := l) (e := e) (R := md.2.2.2.2.2) (below := below) (meth := meth) (locs := locs) (cells := k) (slots := n) (g := F0 m pc lsA ((as.reverse ++ aR q :: st).map (cv G.1))) (rest := st.map (cv G.1)) (b := G.1 q) (As := as.map (cv G.1)) (n := nA) ⟨hC.1, hC.2.1, hC.2.2.1, hC.2.2.2.2.2.1, hts⟩ (hM hG)
    (cwV nA hts (fun w hw => by
      rcases List.mem_append.mp hw with hw | hw
      · simp only [List.mem_cons, List.not_mem_nil, or_false] at hw
        rcases hw with rfl | rfl | rfl | rfl
        · exact zgood _ hm.2.2.2.2.1
        · exact zgood _ hm.2.2.2.2.2.1
        · exact zgood _ hm.2.2.2.2.2.2.1
        · exact zgood _ hm.2.2.2.2.2.2.2.1
      · exact zgoodc hm.2.2.2.2.2.2.2.2 w hw) rfl rfl rfl ⟨hm.1, hm.2.1, hm.2.2.1, hm.2.2.2.1⟩ hR)
    ⟨zblind hG, va_recv (ws := [(G.1 q, zE G P M q (.inr ci))]) (q0 := 0) hC.2.2.2.2.2.2.2.1.1 (fun i x hx => by
      cases i with
      | zero => cases hx; exact (hH.ob hk)
      | succ i => cases hx) hc rfl, fun U hU hW => ⟨rfl, by rw [hU]; exact hH, KK.warm hG hW hC.2.2.2.2.2.2.2.1⟩⟩ rfl (by rw [List.length_map]; exact hn) hl.1 (by simp [cv_R]) (zroom hcat) d hroom
  intro T0 hT X
  obtain ⟨v, st₀, t, T', L, h0, X', hL, e1, e2, ⟨r, lay', P', M', hv, hz, hHt⟩, go⟩ := hr T0 hT X
  have hv' : v = r.map (cv G.1) := by cases hv; rfl
  subst hv'
  have h := kk r lay' P' M' hz hG p e s m args below meth c T'.heap (locs ++ L) lsA hC hl (by rw [e1]; exact hHt) (fun q hq => by
    rcases List.mem_append.mp hq with h | h
    · exact hS q h
    · exact hL q h)
  obtain ⟨t2, a1, b1⟩ := h T' rfl X'
  refine ⟨t2, go t2 ?_, b1⟩
  have e9 : ((r.toList ++ st).map (cv G.1)) = (r.map (cv G.1)).toList ++ st.map (cv G.1) := by cases r <;> simp
  rw [e9] at a1
  exact a1
theorem x_invS {y : MethodName} {md2 : zMd} {idx nA : Nat} {C : String} {as : List av} {st0 : List av}  {Z2 : zZ} (d : decode md.2.2.1 pc = .ok (.invokestatic idx, 3)) (hm : MS md.1 idx y md2 nA) (hR : RM md md2)  (hn : as.length = nA) (hst : as.reverse ++ st = st0) (hcat : (st.map zcat1).sum ≤ 8) (hroom : k + md2.2.2.2.2.2.cells ≤ md.2.2.2.2.2.cells ∧ n + md2.2.2.2.2.2.slots ≤ md.2.2.2.2.2.slots) (hM : AM G l y md2 as lay P M Z2)
    (kk : ∀ (r : Option av) (lay' : List zKd) (P' : zP) (M' : zM), Z2 r lay' P' M' → AQ G l md Z (pc + 3) ls (r.toList ++ st) lay' P' M' (k + md2.2.2.2.2.2.cells) (n + md2.2.2.2.2.2.slots)) : AQ G l md Z (pc) ls (st0) lay P M (k) (n) := by
  intro hG p e s m args below meth c H locs lsA hC hl hH hS
  subst hst
  have hts := hC.2.2.2.2.2.2.1
  have hr := va_runS (p := p) (l := l) (e := e) (R := md.2.2.2.2.2) (below := below) (meth := meth) (locs := locs) (cells := k) (slots := n) (g := F0 m pc lsA ((as.reverse ++ st).map (cv G.1))) (rest := st.map (cv G.1)) (As := as.map (cv G.1)) (n := nA) ⟨hC.1, hC.2.1, hC.2.2.1, hC.2.2.2.2.2.1, hts⟩ (hM hG)
    (cwS nA hts (fun w hw => by
      rcases List.mem_append.mp hw with hw | hw
      · simp only [List.mem_cons, List.not_mem_nil, or_false] at hw
        rcases hw with rfl | rfl | rfl
        · exact zgood _ hm.2.2.2.2.1
        · exact zgood _ hm.2.2.2.2.2.1
        · exact zgood _ hm.2.2.2.2.2.2.1
      · exact zgoodc hm.2.2.2.2.2.2.2 w hw) rfl rfl rfl ⟨hm.1, hm.2.1, hm.2.2.1, hm.2.2.2.1⟩ hR)
    ⟨zblind hG, fun U hU hW => ⟨rfl, by rw [hU]; exact hH, KK.warm hG hW hC.2.2.2.2.2.2.2.1⟩⟩ rfl (by rw [List.length_map]; exact hn) hl.1 (by simp) (zroom hcat) d hroom
  intro T0 hT X
  obtain ⟨v, st₀, t, T', L, h0, X', hL, e1, e2, ⟨r, lay', P', M', hv, hz, hHt⟩, go⟩ := hr T0 hT X
  have hv' : v = r.map (cv G.1) := by cases hv; rfl
  subst hv'
  have h := kk r lay' P' M' hz hG p e s m args below meth c T'.heap (locs ++ L) lsA hC hl (by rw [e1]; exact hHt) (fun q hq => by
    rcases List.mem_append.mp hq with h | h
    · exact hS q h
    · exact hL q h)
  obtain ⟨t2, a1, b1⟩ := h T' rfl X'
  refine ⟨t2, go t2 ?_, b1⟩
  have e9 : ((r.toList ++ st).map (cv G.1)) = (r.map (cv G.1)).toList ++ st.map (cv G.1) := by cases r <;> simp
  rw [e9] at a1
  exact a1
theorem x_callV {y : MethodName} {md2 : zMd} {idx nA : Nat} {C : String} {as : List av} {st0 : List av} {q ci : Nat} {T : u_T} {N : Nat} {v : av} {P' : zP} {M' : zM} (d : decode md.2.2.1 pc = .ok (.invokevirtual idx, 3)) (hm : MV md.1 idx C y md2 nA) (hR : RM md md2) (hk : lay[q]? = some (.inr ci)) (hc : vwCl[ci]? = some (C, T, N)) (hn : as.length = nA) (hst : as.reverse ++ aR q :: st = st0) (hcat : (st.map zcat1).sum ≤ 8) (hz : md2.2.2.2.2.2.cells = 0 ∧ md2.2.2.2.2.2.slots = 0) (hkn : k ≤ md.2.2.2.2.2.cells ∧ n ≤ md.2.2.2.2.2.slots) (hM : AM G l y md2 (aR q :: as) lay P M (zdet (some v) lay P' M'))
    (kk : AQ G l md Z (pc + 3) ls (v :: st) lay P' M' (k) (n)) : AQ G l md Z (pc) ls (st0) lay P M (k) (n) := by
  refine x_invV d hm hR hk hc hn hst hcat (by rw [hz.1, hz.2]; exact hkn) hM ?_
  rintro r lay' P'' M'' ⟨rfl, rfl, rfl, rfl⟩
  rw [hz.1, hz.2]
  exact kk
theorem x_callS {y : MethodName} {md2 : zMd} {idx nA : Nat}  {as : List av} {st0 : List av}  {v : av} {P' : zP} {M' : zM} (d : decode md.2.2.1 pc = .ok (.invokestatic idx, 3)) (hm : MS md.1 idx y md2 nA) (hR : RM md md2)  (hn : as.length = nA) (hst : as.reverse ++ st = st0) (hcat : (st.map zcat1).sum ≤ 8) (hz : md2.2.2.2.2.2.cells = 0 ∧ md2.2.2.2.2.2.slots = 0) (hkn : k ≤ md.2.2.2.2.2.cells ∧ n ≤ md.2.2.2.2.2.slots) (hM : AM G l y md2 as lay P M (zdet (some v) lay P' M'))
    (kk : AQ G l md Z (pc + 3) ls (v :: st) lay P' M' (k) (n)) : AQ G l md Z (pc) ls (st0) lay P M (k) (n) := by
  refine x_invS (C := "") d hm hR  hn hst hcat (by rw [hz.1, hz.2]; exact hkn) hM ?_
  rintro r lay' P'' M'' ⟨rfl, rfl, rfl, rfl⟩
  rw [hz.1, hz.2]
  exact kk
theorem x_callSN {y : MethodName} {md2 : zMd} {idx nA : Nat} {C : String} {as : List av} {st0 : List av}  {v : av} {P' : zP} {M' : zM} (d : decode md.2.2.1 pc = .ok (.invokestatic idx, 3)) (hm : MSN md.1 idx C y md2 nA) (hR : RM md md2)  (hn : as.length = nA) (hst : as.reverse ++ st = st0) (hcat : (st.map zcat1).sum ≤ 8) (hz : md2.2.2.2.2.2.cells = 0 ∧ md2.2.2.2.2.2.slots = 0) (hkn : k ≤ md.2.2.2.2.2.cells ∧ n ≤ md.2.2.2.2.2.slots) (hM : AM G l y md2 as lay P M (zdet (some v) lay P' M'))
    (kk : AQ G l md Z (pc + 3) ls (v :: st) lay P' M' (k) (n)) : AQ G l md Z (pc) ls (st0) lay P M (k) (n) := by
  refine x_invSN (C := C) d hm hR  hn hst hcat (by rw [hz.1, hz.2]; exact hkn) hM ?_
  rintro r lay' P'' M'' ⟨rfl, rfl, rfl, rfl⟩
  rw [hz.1, hz.2]
  exact kk
theorem x_callSA {y : MethodName} {md2 : zMd} {idx nA : Nat}  {as : List av} {st0 : List av}  {v : av} {P' : zP} {M' : zM} (d : decode md.2.2.1 pc = .ok (.invokestatic idx, 3)) (hm : MSA md.1 idx y md2 nA) (hR : RM md md2)  (hn : as.length = nA) (hst : as.reverse ++ st = st0) (hcat : (st.map zcat1).sum ≤ 8) (hz : md2.2.2.2.2.2.cells = 0 ∧ md2.2.2.2.2.2.slots = 0) (hkn : k ≤ md.2.2.2.2.2.cells ∧ n ≤ md.2.2.2.2.2.slots) (hM : AM G l y md2 as lay P M (zdet (some v) lay P' M'))
    (kk : AQ G l md Z (pc + 3) ls (v :: st) lay P' M' (k) (n)) : AQ G l md Z (pc) ls (st0) lay P M (k) (n) := by
  refine x_invSA (C := "") d hm hR  hn hst hcat (by rw [hz.1, hz.2]; exact hkn) hM ?_
  rintro r lay' P'' M'' ⟨rfl, rfl, rfl, rfl⟩
  rw [hz.1, hz.2]
  exact kk
theorem x_callVv {y : MethodName} {md2 : zMd} {idx nA : Nat} {C : String} {as : List av} {st0 : List av} {q ci : Nat} {T : u_T} {N : Nat}  {P' : zP} {M' : zM} (d : decode md.2.2.1 pc = .ok (.invokevirtual idx, 3)) (hm : MV md.1 idx C y md2 nA) (hR : RM md md2) (hk : lay[q]? = some (.inr ci)) (hc : vwCl[ci]? = some (C, T, N)) (hn : as.length = nA) (hst : as.reverse ++ aR q :: st = st0) (hcat : (st.map zcat1).sum ≤ 8) (hz : md2.2.2.2.2.2.cells = 0 ∧ md2.2.2.2.2.2.slots = 0) (hkn : k ≤ md.2.2.2.2.2.cells ∧ n ≤ md.2.2.2.2.2.slots) (hM : AM G l y md2 (aR q :: as) lay P M (zdet none lay P' M'))
    (kk : AQ G l md Z (pc + 3) ls (st) lay P' M' (k) (n)) : AQ G l md Z (pc) ls (st0) lay P M (k) (n) := by
  refine x_invV d hm hR hk hc hn hst hcat (by rw [hz.1, hz.2]; exact hkn) hM ?_
  rintro r lay' P'' M'' ⟨rfl, rfl, rfl, rfl⟩
  rw [hz.1, hz.2]
  exact kk
theorem x_callSv {y : MethodName} {md2 : zMd} {idx nA : Nat}  {as : List av} {st0 : List av}   {P' : zP} {M' : zM} (d : decode md.2.2.1 pc = .ok (.invokestatic idx, 3)) (hm : MS md.1 idx y md2 nA) (hR : RM md md2)  (hn : as.length = nA) (hst : as.reverse ++ st = st0) (hcat : (st.map zcat1).sum ≤ 8) (hz : md2.2.2.2.2.2.cells = 0 ∧ md2.2.2.2.2.2.slots = 0) (hkn : k ≤ md.2.2.2.2.2.cells ∧ n ≤ md.2.2.2.2.2.slots) (hM : AM G l y md2 as lay P M (zdet none lay P' M'))
    (kk : AQ G l md Z (pc + 3) ls (st) lay P' M' (k) (n)) : AQ G l md Z (pc) ls (st0) lay P M (k) (n) := by
  refine x_invS (C := "") d hm hR  hn hst hcat (by rw [hz.1, hz.2]; exact hkn) hM ?_
  rintro r lay' P'' M'' ⟨rfl, rfl, rfl, rfl⟩
  rw [hz.1, hz.2]
  exact kk
theorem x_callSNv {y : MethodName} {md2 : zMd} {idx nA : Nat} {C : String} {as : List av} {st0 : List av}   {P' : zP} {M' : zM} (d : decode md.2.2.1 pc = .ok (.invokestatic idx, 3)) (hm : MSN md.1 idx C y md2 nA) (hR : RM md md2)  (hn : as.length = nA) (hst : as.reverse ++ st = st0) (hcat : (st.map zcat1).sum ≤ 8) (hz : md2.2.2.2.2.2.cells = 0 ∧ md2.2.2.2.2.2.slots = 0) (hkn : k ≤ md.2.2.2.2.2.cells ∧ n ≤ md.2.2.2.2.2.slots) (hM : AM G l y md2 as lay P M (zdet none lay P' M'))
    (kk : AQ G l md Z (pc + 3) ls (st) lay P' M' (k) (n)) : AQ G l md Z (pc) ls (st0) lay P M (k) (n) := by
  refine x_invSN (C := C) d hm hR  hn hst hcat (by rw [hz.1, hz.2]; exact hkn) hM ?_
  rintro r lay' P'' M'' ⟨rfl, rfl, rfl, rfl⟩
  rw [hz.1, hz.2]
  exact kk
theorem x_callSAv {y : MethodName} {md2 : zMd} {idx nA : Nat}  {as : List av} {st0 : List av}   {P' : zP} {M' : zM} (d : decode md.2.2.1 pc = .ok (.invokestatic idx, 3)) (hm : MSA md.1 idx y md2 nA) (hR : RM md md2)  (hn : as.length = nA) (hst : as.reverse ++ st = st0) (hcat : (st.map zcat1).sum ≤ 8) (hz : md2.2.2.2.2.2.cells = 0 ∧ md2.2.2.2.2.2.slots = 0) (hkn : k ≤ md.2.2.2.2.2.cells ∧ n ≤ md.2.2.2.2.2.slots) (hM : AM G l y md2 as lay P M (zdet none lay P' M'))
    (kk : AQ G l md Z (pc + 3) ls (st) lay P' M' (k) (n)) : AQ G l md Z (pc) ls (st0) lay P M (k) (n) := by
  refine x_invSA (C := "") d hm hR  hn hst hcat (by rw [hz.1, hz.2]; exact hkn) hM ?_
  rintro r lay' P'' M'' ⟨rfl, rfl, rfl, rfl⟩
  rw [hz.1, hz.2]
  exact kk
theorem x_abs {x : Int} {idx : Nat} (d : decode md.2.2.1 pc = .ok (.invokestatic idx, 3)) (hw : Cond.methodLink md.1 idx Lib.Math.abs.name ∈ zt ∧ Cond.static Lib.Math.abs.name ∈ zt ∧ Cond.initialized "java/lang/Math" ∈ zt ∧ Cond.code Lib.Math.abs.name Lib.Math.abs.code 1 (some .int) ∈ zt) (hcat : (st.map zcat1).sum ≤ 8) (hR : 1 ≤ md.2.2.2.2.2.frames ∧ 21 ≤ md.2.2.2.2.2.locals) (hkn : k ≤ md.2.2.2.2.2.cells ∧ n ≤ md.2.2.2.2.2.slots) (hx : inR x) (kk : AQ G l md Z (pc + 3) ls (aI (if 0 ≤ x then x else -x) :: st) lay P M (k) (n)) : AQ G l md Z (pc) ls (aI x :: st) lay P M (k) (n) := by
  intro hG p e s m args below meth c H locs lsA hC hl hH hS
  have h := kk hG p e s m args below meth c H locs lsA hC hl hH hS
  have hts := hC.2.2.2.2.2.2.1
  refine va_mabs hC.1 hC.2.1 (zml hC hl) hC.2.2.2.2.2.1 (hts _ hw.1) (hts _ hw.2.1) (hts _ hw.2.2.1) (hts _ hw.2.2.2) hR.1 (zrm hcat hR.2) hkn.1 hkn.2 d ?_
  rw [List.map_cons, cv_I] at h
  rw [show (if 0 ≤ Int32.ofInt x then Int32.ofInt x else 0 - Int32.ofInt x) = Int32.ofInt (if 0 ≤ x then x else -x) from by
    have e := zle r0 hx
    rw [z0] at e
    by_cases q : 0 ≤ x
    · rw [if_pos q, if_pos (e.mpr q)]
    · rw [if_neg q, if_neg (fun z => q (e.mp z)), Int32.ofInt_neg, Int32.zero_sub]]
  exact h
theorem x_max {x y : Int} {idx : Nat} (d : decode md.2.2.1 pc = .ok (.invokestatic idx, 3)) (hw : Cond.methodLink md.1 idx Lib.Math.max.name ∈ zt ∧ Cond.static Lib.Math.max.name ∈ zt ∧ Cond.initialized "java/lang/Math" ∈ zt ∧ Cond.code Lib.Math.max.name Lib.Math.max.code 2 (some .int) ∈ zt) (hcat : (st.map zcat1).sum ≤ 8) (hR : 1 ≤ md.2.2.2.2.2.frames ∧ 21 ≤ md.2.2.2.2.2.locals) (hkn : k ≤ md.2.2.2.2.2.cells ∧ n ≤ md.2.2.2.2.2.slots) (hx : inR x) (hy : inR y) (kk : AQ G l md Z (pc + 3) ls (aI (if x < y then y else x) :: st) lay P M (k) (n)) : AQ G l md Z (pc) ls (aI y :: aI x :: st) lay P M (k) (n) := by
  intro hG p e s m args below meth c H locs lsA hC hl hH hS
  have h := kk hG p e s m args below meth c H locs lsA hC hl hH hS
  have hts := hC.2.2.2.2.2.2.1
  refine va_mmax hC.1 hC.2.1 (zml hC hl) hC.2.2.2.2.2.1 (hts _ hw.1) (hts _ hw.2.1) (hts _ hw.2.2.1) (hts _ hw.2.2.2) hR.1 (zrm hcat hR.2) hkn.1 hkn.2 d ?_
  rw [List.map_cons, cv_I] at h
  rw [show (if Int32.ofInt x < Int32.ofInt y then Int32.ofInt y else Int32.ofInt x) = Int32.ofInt (if x < y then y else x) from by
    have e := zlt hx hy
    by_cases q : x < y
    · rw [if_pos q, if_pos (e.mpr q)]
    · rw [if_neg q, if_neg (fun z => q (e.mp z))]]
  exact h
theorem x_min {x y : Int} {idx : Nat} (d : decode md.2.2.1 pc = .ok (.invokestatic idx, 3)) (hw : Cond.methodLink md.1 idx Lib.Math.min.name ∈ zt ∧ Cond.static Lib.Math.min.name ∈ zt ∧ Cond.initialized "java/lang/Math" ∈ zt ∧ Cond.code Lib.Math.min.name Lib.Math.min.code 2 (some .int) ∈ zt) (hcat : (st.map zcat1).sum ≤ 8) (hR : 1 ≤ md.2.2.2.2.2.frames ∧ 21 ≤ md.2.2.2.2.2.locals) (hkn : k ≤ md.2.2.2.2.2.cells ∧ n ≤ md.2.2.2.2.2.slots) (hx : inR x) (hy : inR y) (kk : AQ G l md Z (pc + 3) ls (aI (if y < x then y else x) :: st) lay P M (k) (n)) : AQ G l md Z (pc) ls (aI y :: aI x :: st) lay P M (k) (n) := by
  intro hG p e s m args below meth c H locs lsA hC hl hH hS
  have h := kk hG p e s m args below meth c H locs lsA hC hl hH hS
  have hts := hC.2.2.2.2.2.2.1
  refine va_mmin hC.1 hC.2.1 (zml hC hl) hC.2.2.2.2.2.1 (hts _ hw.1) (hts _ hw.2.1) (hts _ hw.2.2.1) (hts _ hw.2.2.2) hR.1 (zrm hcat hR.2) hkn.1 hkn.2 d ?_
  rw [List.map_cons, cv_I] at h
  rw [show (if Int32.ofInt y < Int32.ofInt x then Int32.ofInt y else Int32.ofInt x) = Int32.ofInt (if y < x then y else x) from by
    have e := zlt hy hx
    by_cases q : y < x
    · rw [if_pos q, if_pos (e.mpr q)]
    · rw [if_neg q, if_neg (fun z => q (e.mp z))]]
  exact h
theorem xb_iald {q N : Nat} {x : Int} (d : decode md.2.2.1 pc = .ok (.iaload, 1)) (hk : lay[q]? = some (.inl (0, N))) (hN : N < 2147483648) (h0 : 0 ≤ x) (h1 : x < N) (kk : inR (M q x) → AQ G l md Z (pc + 1) ls (aI (M q x) :: st) lay P M k n) : AQ G l md Z pc ls (aI x :: aR q :: st) lay P M k n := x_iald d hk hN h0 h1 kk
theorem xb_zald {q N : Nat} {x : Int} (d : decode md.2.2.1 pc = .ok (.baload, 1)) (hk : lay[q]? = some (.inl (1, N))) (hN : N < 2147483648) (h0 : 0 ≤ x) (h1 : x < N) (kk : (M q x = 0 ∨ M q x = 1) → AQ G l md Z (pc + 1) ls (aI (M q x) :: st) lay P M k n) : AQ G l md Z pc ls (aI x :: aR q :: st) lay P M k n := x_zald d hk hN h0 h1 kk
theorem xb_lald {q N : Nat} {x : Int} (d : decode md.2.2.1 pc = .ok (.laload, 1)) (hk : lay[q]? = some (.inl (2, N))) (hN : N < 2147483648) (h0 : 0 ≤ x) (h1 : x < N) (kk : inL (M q x) → AQ G l md Z (pc + 1) ls (aL (M q x) :: st) lay P M k n) : AQ G l md Z pc ls (aI x :: aR q :: st) lay P M k n := x_lald d hk hN h0 h1 kk
theorem xb_getI {q ci j idx : Nat} {ty : FieldType} {fin : Bool} {dcl : String} {j' : Int} (d : decode md.2.2.1 pc = .ok (.getfield idx, 3)) (hf : FL md.1 idx ci j ty fin dcl) (ht : (zft ci)[j]? = some 0) (hj : (j : Int) = j') (hk : lay[q]? = some (.inr ci)) (kk : inR (M q j') → AQ G l md Z (pc + 3) ls (aI (M q j') :: st) lay P M k n) : AQ G l md Z pc ls (aR q :: st) lay P M k n := x_getI d hf ht hj hk kk
theorem xb_getZ {q ci j idx : Nat} {ty : FieldType} {fin : Bool} {dcl : String} {j' : Int} (d : decode md.2.2.1 pc = .ok (.getfield idx, 3)) (hf : FL md.1 idx ci j ty fin dcl) (ht : (zft ci)[j]? = some 1) (hj : (j : Int) = j') (hk : lay[q]? = some (.inr ci)) (kk : (M q j' = 0 ∨ M q j' = 1) → AQ G l md Z (pc + 3) ls (aI (M q j') :: st) lay P M k n) : AQ G l md Z pc ls (aR q :: st) lay P M k n := x_getZ d hf ht hj hk kk
theorem xb_getL {q ci j idx : Nat} {ty : FieldType} {fin : Bool} {dcl : String} {j' : Int} (d : decode md.2.2.1 pc = .ok (.getfield idx, 3)) (hf : FL md.1 idx ci j ty fin dcl) (ht : (zft ci)[j]? = some 2) (hj : (j : Int) = j') (hk : lay[q]? = some (.inr ci)) (kk : inL (M q j') → AQ G l md Z (pc + 3) ls (aL (M q j') :: st) lay P M k n) : AQ G l md Z pc ls (aR q :: st) lay P M k n := x_getL d hf ht hj hk kk
theorem xc_istore {i : Nat} {x : Int} {ls' : List (Option av)} (d : decode md.2.2.1 pc = .ok (.istore i, 2)) (hi : i < md.2.2.2.1) (ho : zok ls i = true) (hs : ls.set i (some (aI x)) = ls') (kk : AQ G l md Z (pc + 2) ls' st lay P M k n) : AQ G l md Z pc ls (aI x :: st) lay P M k n := x_istore d hi ((zs1_set ho).trans hs) kk
theorem xc_istoren {i : Fin 4} {x : Int} {ls' : List (Option av)} (d : decode md.2.2.1 pc = .ok (.istore_n i, 1)) (hi : (i : Nat) < md.2.2.2.1) (ho : zok ls i = true) (hs : ls.set i (some (aI x)) = ls') (kk : AQ G l md Z (pc + 1) ls' st lay P M k n) : AQ G l md Z pc ls (aI x :: st) lay P M k n := x_istoren d hi ((zs1_set ho).trans hs) kk
theorem xc_astore {i : Nat} {x : Nat} {ls' : List (Option av)} (d : decode md.2.2.1 pc = .ok (.astore i, 2)) (hi : i < md.2.2.2.1) (ho : zok ls i = true) (hs : ls.set i (some (aR x)) = ls') (kk : AQ G l md Z (pc + 2) ls' st lay P M k n) : AQ G l md Z pc ls (aR x :: st) lay P M k n := x_astore d hi ((zs1_set ho).trans hs) kk
theorem xc_astoren {i : Fin 4} {x : Nat} {ls' : List (Option av)} (d : decode md.2.2.1 pc = .ok (.astore_n i, 1)) (hi : (i : Nat) < md.2.2.2.1) (ho : zok ls i = true) (hs : ls.set i (some (aR x)) = ls') (kk : AQ G l md Z (pc + 1) ls' st lay P M k n) : AQ G l md Z pc ls (aR x :: st) lay P M k n := x_astoren d hi ((zs1_set ho).trans hs) kk
theorem xc_lstore {i : Nat} {x : Int} {ls' : List (Option av)} (d : decode md.2.2.1 pc = .ok (.lstore i, 2)) (hi : i + 1 < md.2.2.2.1) (ho : zok ls i = true) (hs : (ls.set i (some (aL x))).set (i + 1) none = ls') (kk : AQ G l md Z (pc + 2) ls' st lay P M k n) : AQ G l md Z pc ls (aL x :: st) lay P M k n := x_lstore d hi ((zs2_set ho).trans hs) kk
theorem xc_lstoren {i : Fin 4} {x : Int} {ls' : List (Option av)} (d : decode md.2.2.1 pc = .ok (.lstore_n i, 1)) (hi : (i : Nat) + 1 < md.2.2.2.1) (ho : zok ls i = true) (hs : (ls.set i (some (aL x))).set (i + 1) none = ls') (kk : AQ G l md Z (pc + 1) ls' st lay P M k n) : AQ G l md Z pc ls (aL x :: st) lay P M k n := x_lstoren d hi ((zs2_set ho).trans hs) kk
theorem xc_iinc {i : Nat} {x v : Int} {ls' : List (Option av)} (d : decode md.2.2.1 pc = .ok (.iinc i v, 3)) (hv : ls[i]? = some (some (aI x))) (hi : i < md.2.2.2.1) (ho : zok ls i = true) (hs : ls.set i (some (aI (x + v))) = ls') (kk : AQ G l md Z (pc + 3) ls' st lay P M k n) : AQ G l md Z pc ls st lay P M k n := x_iinc d hv hi ((zs1_set ho).trans hs) kk
theorem xc_abs {x : Int} {idx : Nat} (d : decode md.2.2.1 pc = .ok (.invokestatic idx, 3)) (hw : Cond.methodLink md.1 idx Lib.Math.abs.name ∈ zt ∧ Cond.static Lib.Math.abs.name ∈ zt ∧ Cond.initialized "java/lang/Math" ∈ zt ∧ Cond.code Lib.Math.abs.name Lib.Math.abs.code 1 (some .int) ∈ zt) (hcat : (st.map zcat1).sum ≤ 8) (hR : 1 ≤ md.2.2.2.2.2.frames ∧ 21 ≤ md.2.2.2.2.2.locals) (hkn : k ≤ md.2.2.2.2.2.cells ∧ n ≤ md.2.2.2.2.2.slots) (hx : inR x) (kk : AQ G l md Z (pc + 3) ls (aI (iabs x) :: st) lay P M k n) : AQ G l md Z pc ls (aI x :: st) lay P M k n := x_abs d hw hcat hR hkn hx kk
theorem x_relV {y : MethodName} {md2 : zMd} {idx nA : Nat} {C : String} {as : List av} {st0 : List av} {q ci : Nat} {T : u_T} {N : Nat} {v : av} {E : zM → Prop} (d : decode md.2.2.1 pc = .ok (.invokevirtual idx, 3)) (hm : MV md.1 idx C y md2 nA) (hR : RM md md2) (hk : lay[q]? = some (.inr ci)) (hc : vwCl[ci]? = some (C, T, N)) (hn : as.length = nA) (hst : as.reverse ++ aR q :: st = st0) (hcat : (st.map zcat1).sum ≤ 8) (hz : md2.2.2.2.2.2.cells = 0 ∧ md2.2.2.2.2.2.slots = 0) (hkn : k ≤ md.2.2.2.2.2.cells ∧ n ≤ md.2.2.2.2.2.slots) (hM : AM G l y md2 (aR q :: as) lay P M (zrel (some v) lay P E))
    (kk : ∀ M', E M' → AQ G l md Z (pc + 3) ls (v :: st) lay P M' (k) (n)) : AQ G l md Z (pc) ls (st0) lay P M (k) (n) := by
  refine x_invV d hm hR hk hc hn hst hcat (by rw [hz.1, hz.2]; exact hkn) hM ?_
  rintro r lay' P'' M'' ⟨rfl, rfl, rfl, hE⟩
  rw [hz.1, hz.2]
  exact kk M'' hE
theorem x_relS {y : MethodName} {md2 : zMd} {idx nA : Nat}  {as : List av} {st0 : List av}  {v : av} {E : zM → Prop} (d : decode md.2.2.1 pc = .ok (.invokestatic idx, 3)) (hm : MS md.1 idx y md2 nA) (hR : RM md md2)  (hn : as.length = nA) (hst : as.reverse ++ st = st0) (hcat : (st.map zcat1).sum ≤ 8) (hz : md2.2.2.2.2.2.cells = 0 ∧ md2.2.2.2.2.2.slots = 0) (hkn : k ≤ md.2.2.2.2.2.cells ∧ n ≤ md.2.2.2.2.2.slots) (hM : AM G l y md2 as lay P M (zrel (some v) lay P E))
    (kk : ∀ M', E M' → AQ G l md Z (pc + 3) ls (v :: st) lay P M' (k) (n)) : AQ G l md Z (pc) ls (st0) lay P M (k) (n) := by
  refine x_invS (C := "") d hm hR  hn hst hcat (by rw [hz.1, hz.2]; exact hkn) hM ?_
  rintro r lay' P'' M'' ⟨rfl, rfl, rfl, hE⟩
  rw [hz.1, hz.2]
  exact kk M'' hE
theorem x_relVv {y : MethodName} {md2 : zMd} {idx nA : Nat} {C : String} {as : List av} {st0 : List av} {q ci : Nat} {T : u_T} {N : Nat}  {E : zM → Prop} (d : decode md.2.2.1 pc = .ok (.invokevirtual idx, 3)) (hm : MV md.1 idx C y md2 nA) (hR : RM md md2) (hk : lay[q]? = some (.inr ci)) (hc : vwCl[ci]? = some (C, T, N)) (hn : as.length = nA) (hst : as.reverse ++ aR q :: st = st0) (hcat : (st.map zcat1).sum ≤ 8) (hz : md2.2.2.2.2.2.cells = 0 ∧ md2.2.2.2.2.2.slots = 0) (hkn : k ≤ md.2.2.2.2.2.cells ∧ n ≤ md.2.2.2.2.2.slots) (hM : AM G l y md2 (aR q :: as) lay P M (zrel none lay P E))
    (kk : ∀ M', E M' → AQ G l md Z (pc + 3) ls (st) lay P M' (k) (n)) : AQ G l md Z (pc) ls (st0) lay P M (k) (n) := by
  refine x_invV d hm hR hk hc hn hst hcat (by rw [hz.1, hz.2]; exact hkn) hM ?_
  rintro r lay' P'' M'' ⟨rfl, rfl, rfl, hE⟩
  rw [hz.1, hz.2]
  exact kk M'' hE
theorem x_relSv {y : MethodName} {md2 : zMd} {idx nA : Nat}  {as : List av} {st0 : List av}   {E : zM → Prop} (d : decode md.2.2.1 pc = .ok (.invokestatic idx, 3)) (hm : MS md.1 idx y md2 nA) (hR : RM md md2)  (hn : as.length = nA) (hst : as.reverse ++ st = st0) (hcat : (st.map zcat1).sum ≤ 8) (hz : md2.2.2.2.2.2.cells = 0 ∧ md2.2.2.2.2.2.slots = 0) (hkn : k ≤ md.2.2.2.2.2.cells ∧ n ≤ md.2.2.2.2.2.slots) (hM : AM G l y md2 as lay P M (zrel none lay P E))
    (kk : ∀ M', E M' → AQ G l md Z (pc + 3) ls (st) lay P M' (k) (n)) : AQ G l md Z (pc) ls (st0) lay P M (k) (n) := by
  refine x_invS (C := "") d hm hR  hn hst hcat (by rw [hz.1, hz.2]; exact hkn) hM ?_
  rintro r lay' P'' M'' ⟨rfl, rfl, rfl, hE⟩
  rw [hz.1, hz.2]
  exact kk M'' hE
theorem x_anyV {y : MethodName} {md2 : zMd} {idx nA : Nat} {C : String} {as : List av} {st0 : List av} {q ci : Nat} {T : u_T} {N : Nat}  {E : Int → zM → Prop} (d : decode md.2.2.1 pc = .ok (.invokevirtual idx, 3)) (hm : MV md.1 idx C y md2 nA) (hR : RM md md2) (hk : lay[q]? = some (.inr ci)) (hc : vwCl[ci]? = some (C, T, N)) (hn : as.length = nA) (hst : as.reverse ++ aR q :: st = st0) (hcat : (st.map zcat1).sum ≤ 8) (hz : md2.2.2.2.2.2.cells = 0 ∧ md2.2.2.2.2.2.slots = 0) (hkn : k ≤ md.2.2.2.2.2.cells ∧ n ≤ md.2.2.2.2.2.slots) (hM : AM G l y md2 (aR q :: as) lay P M (zany lay P E))
    (kk : ∀ (x : Int) M', E x M' → AQ G l md Z (pc + 3) ls (aI x :: st) lay P M' (k) (n)) : AQ G l md Z (pc) ls (st0) lay P M (k) (n) := by
  refine x_invV d hm hR hk hc hn hst hcat (by rw [hz.1, hz.2]; exact hkn) hM ?_
  rintro r lay' P'' M'' ⟨rfl, rfl, x, rfl, hE⟩
  rw [hz.1, hz.2]
  exact kk x M'' hE
theorem x_anyS {y : MethodName} {md2 : zMd} {idx nA : Nat}  {as : List av} {st0 : List av}   {E : Int → zM → Prop} (d : decode md.2.2.1 pc = .ok (.invokestatic idx, 3)) (hm : MS md.1 idx y md2 nA) (hR : RM md md2)  (hn : as.length = nA) (hst : as.reverse ++ st = st0) (hcat : (st.map zcat1).sum ≤ 8) (hz : md2.2.2.2.2.2.cells = 0 ∧ md2.2.2.2.2.2.slots = 0) (hkn : k ≤ md.2.2.2.2.2.cells ∧ n ≤ md.2.2.2.2.2.slots) (hM : AM G l y md2 as lay P M (zany lay P E))
    (kk : ∀ (x : Int) M', E x M' → AQ G l md Z (pc + 3) ls (aI x :: st) lay P M' (k) (n)) : AQ G l md Z (pc) ls (st0) lay P M (k) (n) := by
  refine x_invS (C := "") d hm hR  hn hst hcat (by rw [hz.1, hz.2]; exact hkn) hM ?_
  rintro r lay' P'' M'' ⟨rfl, rfl, x, rfl, hE⟩
  rw [hz.1, hz.2]
  exact kk x M'' hE
theorem x_anyLV {y : MethodName} {md2 : zMd} {idx nA : Nat} {C : String} {as : List av} {st0 : List av} {q ci : Nat} {T : u_T} {N : Nat}  {E : Int → zM → Prop} (d : decode md.2.2.1 pc = .ok (.invokevirtual idx, 3)) (hm : MV md.1 idx C y md2 nA) (hR : RM md md2) (hk : lay[q]? = some (.inr ci)) (hc : vwCl[ci]? = some (C, T, N)) (hn : as.length = nA) (hst : as.reverse ++ aR q :: st = st0) (hcat : (st.map zcat1).sum ≤ 8) (hz : md2.2.2.2.2.2.cells = 0 ∧ md2.2.2.2.2.2.slots = 0) (hkn : k ≤ md.2.2.2.2.2.cells ∧ n ≤ md.2.2.2.2.2.slots) (hM : AM G l y md2 (aR q :: as) lay P M (zanyL lay P E))
    (kk : ∀ (x : Int) M', E x M' → AQ G l md Z (pc + 3) ls (aL x :: st) lay P M' (k) (n)) : AQ G l md Z (pc) ls (st0) lay P M (k) (n) := by
  refine x_invV d hm hR hk hc hn hst hcat (by rw [hz.1, hz.2]; exact hkn) hM ?_
  rintro r lay' P'' M'' ⟨rfl, rfl, x, rfl, hE⟩
  rw [hz.1, hz.2]
  exact kk x M'' hE
theorem x_anyLS {y : MethodName} {md2 : zMd} {idx nA : Nat}  {as : List av} {st0 : List av}   {E : Int → zM → Prop} (d : decode md.2.2.1 pc = .ok (.invokestatic idx, 3)) (hm : MS md.1 idx y md2 nA) (hR : RM md md2)  (hn : as.length = nA) (hst : as.reverse ++ st = st0) (hcat : (st.map zcat1).sum ≤ 8) (hz : md2.2.2.2.2.2.cells = 0 ∧ md2.2.2.2.2.2.slots = 0) (hkn : k ≤ md.2.2.2.2.2.cells ∧ n ≤ md.2.2.2.2.2.slots) (hM : AM G l y md2 as lay P M (zanyL lay P E))
    (kk : ∀ (x : Int) M', E x M' → AQ G l md Z (pc + 3) ls (aL x :: st) lay P M' (k) (n)) : AQ G l md Z (pc) ls (st0) lay P M (k) (n) := by
  refine x_invS (C := "") d hm hR  hn hst hcat (by rw [hz.1, hz.2]; exact hkn) hM ?_
  rintro r lay' P'' M'' ⟨rfl, rfl, x, rfl, hE⟩
  rw [hz.1, hz.2]
  exact kk x M'' hE
theorem x_ranks {idx : Nat} (d : decode md.2.2.1 pc = .ok (.getstatic idx, 3)) (hw : Cond.fieldLink md.1 idx "StaticDial$Reader" "RANKS" "[I" ∈ zt) (kk : AQ G l md Z (pc + 3) ls (aR 1 :: st) lay P M (k) (n)) : AQ G l md Z (pc) ls (st) lay P M (k) (n) := by
  intro hG p e s m args below meth c H locs lsA hC hl hH hS
  have h := kk hG p e s m args below meth c H locs lsA hC hl hH hS
  obtain ⟨cf, kf, fi, f, a, cell, h1, h2, h3, h4, h5, h6, h7, h8⟩ := hC.2.2.2.2.2.2.2.1.2.2.2.1
  have ha : a < G.2.2.2.1.size := (Array.getElem?_eq_some_iff.mp h5).1
  exact W.gets hC.1 hC.2.1 hC.2.2.2.2.2.1 (hC.2.2.2.2.2.2.1 _ hw) h1 h2 h3 h4 (by rw [hH.1.2.2 a ha]; exact h5) (fun e => by rw [e] at h6; cases h6) h7 rfl d h
theorem x_forget (is : List Nat) {ls' : List (Option av)} (hs : is.foldl (fun q i => q.set i none) ls = ls') (kk : AQ G l md Z (pc) ls' (st) lay P M (k) (n)) : AQ G l md Z (pc) ls (st) lay P M (k) (n) := x_keep (fun i v h => by rw [← hs] at h; exact zfor is ls h) kk
end ZAQ
