section ZR
variable {G : zG} {l : Launch} {md : zMd} {Z : zZ} {pc : Nat} {ls : List (Option av)} {st : List av} {lay : List zKd} {P : zP} {M : zM} {k n : Nat}
theorem a_iconst {v : Int} (d : decode md.2.2.1 pc = .ok (.iconst v, 1))  (kk : AW G l md Z (pc + 1) ls (aI v :: st) lay P M (k) (n)) : AW G l md Z (pc) ls (st) lay P M (k) (n) := by
  intro hG p e s m args below meth c H locs lsA hC hl hH hS
  have h := kk hG p e s m args below meth c H locs lsA hC hl hH hS
  exact lv_iconst hC.1 hC.2.1 d rfl h
theorem a_bipush {v w : Int} (d : decode md.2.2.1 pc = .ok (.bipush v, 2)) (hv : (Int8.ofInt v).toInt32 = Int32.ofInt w) (kk : AW G l md Z (pc + 2) ls (aI w :: st) lay P M (k) (n)) : AW G l md Z (pc) ls (st) lay P M (k) (n) := by
  intro hG p e s m args below meth c H locs lsA hC hl hH hS
  have h := kk hG p e s m args below meth c H locs lsA hC hl hH hS
  exact lv_bipush hC.1 hC.2.1 d hv h
theorem a_sipush {v w : Int} (d : decode md.2.2.1 pc = .ok (.sipush v, 3)) (hv : (Int16.ofInt v).toInt32 = Int32.ofInt w) (kk : AW G l md Z (pc + 3) ls (aI w :: st) lay P M (k) (n)) : AW G l md Z (pc) ls (st) lay P M (k) (n) := by
  intro hG p e s m args below meth c H locs lsA hC hl hH hS
  have h := kk hG p e s m args below meth c H locs lsA hC hl hH hS
  exact lv_sipush hC.1 hC.2.1 d hv h
theorem a_lconst {v : Fin 2} {w : Int} (d : decode md.2.2.1 pc = .ok (.lconst v, 1)) (hv : Int64.ofNat (v : Nat) = Int64.ofInt w) (kk : AW G l md Z (pc + 1) ls (aL w :: st) lay P M (k) (n)) : AW G l md Z (pc) ls (st) lay P M (k) (n) := by
  intro hG p e s m args below meth c H locs lsA hC hl hH hS
  have h := kk hG p e s m args below meth c H locs lsA hC hl hH hS
  exact lv_lconst hC.1 hC.2.1 d hv h
theorem a_ldc {i : Nat} {v : Int32} {w : Int} (d : decode md.2.2.1 pc = .ok (.ldc i, 2)) (hw : Cond.constant md.1 i v ∈ zt) (hv : Int32.ofInt w = v) (kk : AW G l md Z (pc + 2) ls (aI w :: st) lay P M (k) (n)) : AW G l md Z (pc) ls (st) lay P M (k) (n) := by
  intro hG p e s m args below meth c H locs lsA hC hl hH hS
  have h := kk hG p e s m args below meth c H locs lsA hC hl hH hS
  subst hv
  exact lv_ldc hC.1 hC.2.1 hC.2.2.2.2.2.1 (hC.2.2.2.2.2.2.1 _ hw) d h
theorem a_ldcw {i : Nat} {v : Int32} {w : Int} (d : decode md.2.2.1 pc = .ok (.ldc_w i, 3)) (hw : Cond.constant md.1 i v ∈ zt) (hv : Int32.ofInt w = v) (kk : AW G l md Z (pc + 3) ls (aI w :: st) lay P M (k) (n)) : AW G l md Z (pc) ls (st) lay P M (k) (n) := by
  intro hG p e s m args below meth c H locs lsA hC hl hH hS
  have h := kk hG p e s m args below meth c H locs lsA hC hl hH hS
  subst hv
  exact lv_ldcw hC.1 hC.2.1 hC.2.2.2.2.2.1 (hC.2.2.2.2.2.2.1 _ hw) d h
theorem a_ldc2 {i : Nat} {v : Int64} {w : Int} (d : decode md.2.2.1 pc = .ok (.ldc2_w i, 3)) (hw : Cond.constantLong md.1 i v ∈ zt) (hv : Int64.ofInt w = v) (kk : AW G l md Z (pc + 3) ls (aL w :: st) lay P M (k) (n)) : AW G l md Z (pc) ls (st) lay P M (k) (n) := by
  intro hG p e s m args below meth c H locs lsA hC hl hH hS
  have h := kk hG p e s m args below meth c H locs lsA hC hl hH hS
  subst hv
  exact lv_ldc2 hC.1 hC.2.1 hC.2.2.2.2.2.1 (hC.2.2.2.2.2.2.1 _ hw) d h
theorem a_iload {i : Nat} {x : Int} (d : decode md.2.2.1 pc = .ok (.iload i, 2)) (hv : ls[i]? = some (some (aI x))) (kk : AW G l md Z (pc + 2) ls (aI x :: st) lay P M (k) (n)) : AW G l md Z (pc) ls (st) lay P M (k) (n) := by
  intro hG p e s m args below meth c H locs lsA hC hl hH hS
  have h := kk hG p e s m args below meth c H locs lsA hC hl hH hS
  exact lv_iload hC.1 hC.2.1 d (zl_at hl hv) h
theorem a_iloadn {i : Fin 4} {x : Int} (d : decode md.2.2.1 pc = .ok (.iload_n i, 1)) (hv : ls[(i : Nat)]? = some (some (aI x))) (kk : AW G l md Z (pc + 1) ls (aI x :: st) lay P M (k) (n)) : AW G l md Z (pc) ls (st) lay P M (k) (n) := by
  intro hG p e s m args below meth c H locs lsA hC hl hH hS
  have h := kk hG p e s m args below meth c H locs lsA hC hl hH hS
  exact lv_iload_n hC.1 hC.2.1 d rfl (zl_at hl hv) h
theorem a_lload {i : Nat} {x : Int} (d : decode md.2.2.1 pc = .ok (.lload i, 2)) (hv : ls[i]? = some (some (aL x))) (kk : AW G l md Z (pc + 2) ls (aL x :: st) lay P M (k) (n)) : AW G l md Z (pc) ls (st) lay P M (k) (n) := by
  intro hG p e s m args below meth c H locs lsA hC hl hH hS
  have h := kk hG p e s m args below meth c H locs lsA hC hl hH hS
  exact lv_lload hC.1 hC.2.1 d (zl_at hl hv) h
theorem a_lloadn {i : Fin 4} {x : Int} (d : decode md.2.2.1 pc = .ok (.lload_n i, 1)) (hv : ls[(i : Nat)]? = some (some (aL x))) (kk : AW G l md Z (pc + 1) ls (aL x :: st) lay P M (k) (n)) : AW G l md Z (pc) ls (st) lay P M (k) (n) := by
  intro hG p e s m args below meth c H locs lsA hC hl hH hS
  have h := kk hG p e s m args below meth c H locs lsA hC hl hH hS
  exact lv_lload_n hC.1 hC.2.1 d rfl (zl_at hl hv) h
theorem a_aload {i x : Nat} (d : decode md.2.2.1 pc = .ok (.aload i, 2)) (hv : ls[i]? = some (some (aR x))) (kk : AW G l md Z (pc + 2) ls (aR x :: st) lay P M (k) (n)) : AW G l md Z (pc) ls (st) lay P M (k) (n) := by
  intro hG p e s m args below meth c H locs lsA hC hl hH hS
  have h := kk hG p e s m args below meth c H locs lsA hC hl hH hS
  exact lv_aload hC.1 hC.2.1 d (zl_at hl hv) h
theorem a_aloadn {i : Fin 4} {x : Nat} (d : decode md.2.2.1 pc = .ok (.aload_n i, 1)) (hv : ls[(i : Nat)]? = some (some (aR x))) (kk : AW G l md Z (pc + 1) ls (aR x :: st) lay P M (k) (n)) : AW G l md Z (pc) ls (st) lay P M (k) (n) := by
  intro hG p e s m args below meth c H locs lsA hC hl hH hS
  have h := kk hG p e s m args below meth c H locs lsA hC hl hH hS
  exact lv_aload_n hC.1 hC.2.1 d rfl (zl_at hl hv) h
theorem a_istore {i : Nat} {x : Int} {ls' : List (Option av)} (d : decode md.2.2.1 pc = .ok (.istore i, 2)) (hi : i < md.2.2.2.1) (hs : zs1 ls i (aI x) = ls') (kk : AW G l md Z (pc + 2) ls' (st) lay P M (k) (n)) : AW G l md Z (pc) ls (aI x :: st) lay P M (k) (n) := by
  intro hG p e s m args below meth c H locs lsA hC hl hH hS
  subst hs
  exact lv_istore hC.1 hC.2.1 d hl hi rfl (fun ls2 h2 => kk hG p e s m args below meth c H locs ls2 hC (zs1_ok h2) hH hS)
theorem a_istoren {i : Fin 4} {x : Int} {ls' : List (Option av)} (d : decode md.2.2.1 pc = .ok (.istore_n i, 1)) (hi : (i : Nat) < md.2.2.2.1) (hs : zs1 ls (i : Nat) (aI x) = ls') (kk : AW G l md Z (pc + 1) ls' (st) lay P M (k) (n)) : AW G l md Z (pc) ls (aI x :: st) lay P M (k) (n) := by
  intro hG p e s m args below meth c H locs lsA hC hl hH hS
  subst hs
  exact lv_istore_n hC.1 hC.2.1 d rfl hl hi rfl (fun ls2 h2 => kk hG p e s m args below meth c H locs ls2 hC (zs1_ok h2) hH hS)
theorem a_lstore {i : Nat} {x : Int} {ls' : List (Option av)} (d : decode md.2.2.1 pc = .ok (.lstore i, 2)) (hi : i + 1 < md.2.2.2.1) (hs : zs2 ls i (aL x) = ls') (kk : AW G l md Z (pc + 2) ls' (st) lay P M (k) (n)) : AW G l md Z (pc) ls (aL x :: st) lay P M (k) (n) := by
  intro hG p e s m args below meth c H locs lsA hC hl hH hS
  subst hs
  exact lv_lstore hC.1 hC.2.1 d hl hi rfl (fun ls2 h2 => kk hG p e s m args below meth c H locs ls2 hC (zs2_ok h2) hH hS)
theorem a_lstoren {i : Fin 4} {x : Int} {ls' : List (Option av)} (d : decode md.2.2.1 pc = .ok (.lstore_n i, 1)) (hi : (i : Nat) + 1 < md.2.2.2.1) (hs : zs2 ls (i : Nat) (aL x) = ls') (kk : AW G l md Z (pc + 1) ls' (st) lay P M (k) (n)) : AW G l md Z (pc) ls (aL x :: st) lay P M (k) (n) := by
  intro hG p e s m args below meth c H locs lsA hC hl hH hS
  subst hs
  exact lv_lstore_n hC.1 hC.2.1 d rfl hl hi rfl (fun ls2 h2 => kk hG p e s m args below meth c H locs ls2 hC (zs2_ok h2) hH hS)
theorem a_astore {i : Nat} {x : Nat} {ls' : List (Option av)} (d : decode md.2.2.1 pc = .ok (.astore i, 2)) (hi : i < md.2.2.2.1) (hs : zs1 ls i (aR x) = ls') (kk : AW G l md Z (pc + 2) ls' (st) lay P M (k) (n)) : AW G l md Z (pc) ls (aR x :: st) lay P M (k) (n) := by
  intro hG p e s m args below meth c H locs lsA hC hl hH hS
  subst hs
  exact lv_astore hC.1 hC.2.1 d hl hi rfl (fun ls2 h2 => kk hG p e s m args below meth c H locs ls2 hC (zs1_ok h2) hH hS)
theorem a_astoren {i : Fin 4} {x : Nat} {ls' : List (Option av)} (d : decode md.2.2.1 pc = .ok (.astore_n i, 1)) (hi : (i : Nat) < md.2.2.2.1) (hs : zs1 ls (i : Nat) (aR x) = ls') (kk : AW G l md Z (pc + 1) ls' (st) lay P M (k) (n)) : AW G l md Z (pc) ls (aR x :: st) lay P M (k) (n) := by
  intro hG p e s m args below meth c H locs lsA hC hl hH hS
  subst hs
  exact lv_astore_n hC.1 hC.2.1 d rfl hl hi rfl (fun ls2 h2 => kk hG p e s m args below meth c H locs ls2 hC (zs1_ok h2) hH hS)
theorem a_iinc {i : Nat} {x v : Int} {ls' : List (Option av)} (d : decode md.2.2.1 pc = .ok (.iinc i v, 3)) (hv : ls[i]? = some (some (aI x))) (hi : i < md.2.2.2.1) (hs : zs1 ls i (aI (x + v)) = ls') (kk : AW G l md Z (pc + 3) ls' (st) lay P M (k) (n)) : AW G l md Z (pc) ls (st) lay P M (k) (n) := by
  intro hG p e s m args below meth c H locs lsA hC hl hH hS
  subst hs
  have hm := zp_mem (ad := G.1) (q := (i, cv G.1 (aI x))).mpr ⟨aI x, hv, rfl⟩
  obtain ⟨q, hq⟩ := List.getElem?_of_mem hm
  exact lv_iinc (v := Int32.ofInt (x + v)) hC.1 hC.2.1 d hl hq (Int32.ofInt_add x v).symm hi rfl (fun ls2 h2 => kk hG p e s m args below meth c H locs ls2 hC (zs1_ok h2) hH hS)
theorem a_iadd {x y : Int} (d : decode md.2.2.1 pc = .ok (.iadd, 1))  (kk : AW G l md Z (pc + 1) ls (aI (x + y) :: st) lay P M (k) (n)) : AW G l md Z (pc) ls (aI y :: aI x :: st) lay P M (k) (n) := by
  intro hG p e s m args below meth c H locs lsA hC hl hH hS
  have h := kk hG p e s m args below meth c H locs lsA hC hl hH hS
  rw [List.map_cons, cv_I, Int32.ofInt_add] at h
  exact lv_iadd hC.1 hC.2.1 d h
theorem a_isub {x y : Int} (d : decode md.2.2.1 pc = .ok (.isub, 1))  (kk : AW G l md Z (pc + 1) ls (aI (x - y) :: st) lay P M (k) (n)) : AW G l md Z (pc) ls (aI y :: aI x :: st) lay P M (k) (n) := by
  intro hG p e s m args below meth c H locs lsA hC hl hH hS
  have h := kk hG p e s m args below meth c H locs lsA hC hl hH hS
  rw [List.map_cons, cv_I, Int32.ofInt_sub] at h
  exact lv_isub hC.1 hC.2.1 d h
theorem a_imul {x y : Int} (d : decode md.2.2.1 pc = .ok (.imul, 1))  (kk : AW G l md Z (pc + 1) ls (aI (x * y) :: st) lay P M (k) (n)) : AW G l md Z (pc) ls (aI y :: aI x :: st) lay P M (k) (n) := by
  intro hG p e s m args below meth c H locs lsA hC hl hH hS
  have h := kk hG p e s m args below meth c H locs lsA hC hl hH hS
  rw [List.map_cons, cv_I, Int32.ofInt_mul] at h
  exact lv_imul hC.1 hC.2.1 d h
theorem a_ladd {x y : Int} (d : decode md.2.2.1 pc = .ok (.ladd, 1))  (kk : AW G l md Z (pc + 1) ls (aL (x + y) :: st) lay P M (k) (n)) : AW G l md Z (pc) ls (aL y :: aL x :: st) lay P M (k) (n) := by
  intro hG p e s m args below meth c H locs lsA hC hl hH hS
  have h := kk hG p e s m args below meth c H locs lsA hC hl hH hS
  rw [List.map_cons, cv_L, Int64.ofInt_add] at h
  exact lv_ladd hC.1 hC.2.1 d h
theorem a_lsub {x y : Int} (d : decode md.2.2.1 pc = .ok (.lsub, 1))  (kk : AW G l md Z (pc + 1) ls (aL (x - y) :: st) lay P M (k) (n)) : AW G l md Z (pc) ls (aL y :: aL x :: st) lay P M (k) (n) := by
  intro hG p e s m args below meth c H locs lsA hC hl hH hS
  have h := kk hG p e s m args below meth c H locs lsA hC hl hH hS
  rw [List.map_cons, cv_L, Int64.ofInt_sub] at h
  exact lv_lsub hC.1 hC.2.1 d h
theorem a_lmul {x y : Int} (d : decode md.2.2.1 pc = .ok (.lmul, 1))  (kk : AW G l md Z (pc + 1) ls (aL (x * y) :: st) lay P M (k) (n)) : AW G l md Z (pc) ls (aL y :: aL x :: st) lay P M (k) (n) := by
  intro hG p e s m args below meth c H locs lsA hC hl hH hS
  have h := kk hG p e s m args below meth c H locs lsA hC hl hH hS
  rw [List.map_cons, cv_L, Int64.ofInt_mul] at h
  exact lv_lmul hC.1 hC.2.1 d h
theorem a_ineg {x : Int} (d : decode md.2.2.1 pc = .ok (.ineg, 1))  (kk : AW G l md Z (pc + 1) ls (aI (-x) :: st) lay P M (k) (n)) : AW G l md Z (pc) ls (aI x :: st) lay P M (k) (n) := by
  intro hG p e s m args below meth c H locs lsA hC hl hH hS
  have h := kk hG p e s m args below meth c H locs lsA hC hl hH hS
  rw [List.map_cons, cv_I, Int32.ofInt_neg] at h
  exact lv_ineg hC.1 hC.2.1 d h
theorem a_lneg {x : Int} (d : decode md.2.2.1 pc = .ok (.lneg, 1))  (kk : AW G l md Z (pc + 1) ls (aL (-x) :: st) lay P M (k) (n)) : AW G l md Z (pc) ls (aL x :: st) lay P M (k) (n) := by
  intro hG p e s m args below meth c H locs lsA hC hl hH hS
  have h := kk hG p e s m args below meth c H locs lsA hC hl hH hS
  rw [List.map_cons, cv_L, Int64.ofInt_neg] at h
  exact lv_lneg hC.1 hC.2.1 d h
def b_iand (x y : Int) : Int := (Int32.ofInt x &&& Int32.ofInt y).toInt
theorem a_iand {x y : Int} (d : decode md.2.2.1 pc = .ok (.iand, 1))  (kk : AW G l md Z (pc + 1) ls (aI (b_iand x y) :: st) lay P M (k) (n)) : AW G l md Z (pc) ls (aI y :: aI x :: st) lay P M (k) (n) := by
  intro hG p e s m args below meth c H locs lsA hC hl hH hS
  have h := kk hG p e s m args below meth c H locs lsA hC hl hH hS
  rw [List.map_cons, cv_I, b_iand, Int32.ofInt_toInt] at h
  exact lv_iand hC.1 hC.2.1 d h
def b_ior (x y : Int) : Int := (Int32.ofInt x ||| Int32.ofInt y).toInt
theorem a_ior {x y : Int} (d : decode md.2.2.1 pc = .ok (.ior, 1))  (kk : AW G l md Z (pc + 1) ls (aI (b_ior x y) :: st) lay P M (k) (n)) : AW G l md Z (pc) ls (aI y :: aI x :: st) lay P M (k) (n) := by
  intro hG p e s m args below meth c H locs lsA hC hl hH hS
  have h := kk hG p e s m args below meth c H locs lsA hC hl hH hS
  rw [List.map_cons, cv_I, b_ior, Int32.ofInt_toInt] at h
  exact lv_ior hC.1 hC.2.1 d h
def b_ixor (x y : Int) : Int := (Int32.ofInt x ^^^ Int32.ofInt y).toInt
theorem a_ixor {x y : Int} (d : decode md.2.2.1 pc = .ok (.ixor, 1))  (kk : AW G l md Z (pc + 1) ls (aI (b_ixor x y) :: st) lay P M (k) (n)) : AW G l md Z (pc) ls (aI y :: aI x :: st) lay P M (k) (n) := by
  intro hG p e s m args below meth c H locs lsA hC hl hH hS
  have h := kk hG p e s m args below meth c H locs lsA hC hl hH hS
  rw [List.map_cons, cv_I, b_ixor, Int32.ofInt_toInt] at h
  exact lv_ixor hC.1 hC.2.1 d h
def b_ishl (x y : Int) : Int := (Int32.ofInt x <<< (Int32.ofInt y &&& 31)).toInt
theorem a_ishl {x y : Int} (d : decode md.2.2.1 pc = .ok (.ishl, 1))  (kk : AW G l md Z (pc + 1) ls (aI (b_ishl x y) :: st) lay P M (k) (n)) : AW G l md Z (pc) ls (aI y :: aI x :: st) lay P M (k) (n) := by
  intro hG p e s m args below meth c H locs lsA hC hl hH hS
  have h := kk hG p e s m args below meth c H locs lsA hC hl hH hS
  rw [List.map_cons, cv_I, b_ishl, Int32.ofInt_toInt] at h
  exact lv_ishl hC.1 hC.2.1 d h
def b_ishr (x y : Int) : Int := (Int32.ofInt x >>> (Int32.ofInt y &&& 31)).toInt
theorem a_ishr {x y : Int} (d : decode md.2.2.1 pc = .ok (.ishr, 1))  (kk : AW G l md Z (pc + 1) ls (aI (b_ishr x y) :: st) lay P M (k) (n)) : AW G l md Z (pc) ls (aI y :: aI x :: st) lay P M (k) (n) := by
  intro hG p e s m args below meth c H locs lsA hC hl hH hS
  have h := kk hG p e s m args below meth c H locs lsA hC hl hH hS
  rw [List.map_cons, cv_I, b_ishr, Int32.ofInt_toInt] at h
  exact lv_ishr hC.1 hC.2.1 d h
def b_iushr (x y : Int) : Int := ((Int32.ofInt x).toUInt32 >>> ((Int32.ofInt y).toUInt32 &&& Int32.toUInt32 31)).toInt32.toInt
theorem a_iushr {x y : Int} (d : decode md.2.2.1 pc = .ok (.iushr, 1))  (kk : AW G l md Z (pc + 1) ls (aI (b_iushr x y) :: st) lay P M (k) (n)) : AW G l md Z (pc) ls (aI y :: aI x :: st) lay P M (k) (n) := by
  intro hG p e s m args below meth c H locs lsA hC hl hH hS
  have h := kk hG p e s m args below meth c H locs lsA hC hl hH hS
  rw [List.map_cons, cv_I, b_iushr, Int32.ofInt_toInt] at h
  exact lv_iushr hC.1 hC.2.1 d rfl h
def b_land (x y : Int) : Int := (Int64.ofInt x &&& Int64.ofInt y).toInt
theorem a_land {x y : Int} (d : decode md.2.2.1 pc = .ok (.land, 1))  (kk : AW G l md Z (pc + 1) ls (aL (b_land x y) :: st) lay P M (k) (n)) : AW G l md Z (pc) ls (aL y :: aL x :: st) lay P M (k) (n) := by
  intro hG p e s m args below meth c H locs lsA hC hl hH hS
  have h := kk hG p e s m args below meth c H locs lsA hC hl hH hS
  rw [List.map_cons, cv_L, b_land, Int64.ofInt_toInt] at h
  exact lv_land hC.1 hC.2.1 d h
theorem zdiv32 {x y : Int} (hx : inR x) (hy : inR y) (h0 : y ≠ 0) (h1 : y ≠ -1) : Int32.ofInt x / Int32.ofInt y = Int32.ofInt (x.tdiv y) := by
  refine Int32.toInt_inj.mp ?_
  have e : Int32.ofInt y ≠ -1 := by
    intro q
    have := congrArg Int32.toInt q
    rw [z32 hy] at this
    exact h1 (this.trans (by decide))
  rw [Int32.toInt_div_of_ne_right _ _ e, z32 hx, z32 hy, z32]
  have a1 : (x.tdiv y).natAbs = x.natAbs / y.natAbs := Int.natAbs_tdiv x y
  have a2 : x.natAbs / y.natAbs ≤ x.natAbs := Nat.div_le_self _ _
  have a3 : (x.tdiv y).natAbs ≤ x.natAbs := by rw [a1]; exact a2
  by_cases hy1 : y = 1
  · subst hy1
    rw [Int.tdiv_one]
    exact hx
  have a4 : x.tdiv y ≠ 2147483648 := by
    intro q
    have b1 : x.natAbs = 2147483648 := by omega
    rw [q] at a1
    have b4 : (2147483648 : Int).natAbs = 2147483648 := rfl
    rw [b4] at a1
    have b2 : 2 ≤ y.natAbs := by omega
    have b3 : x.natAbs / y.natAbs ≤ x.natAbs / 2 := Nat.div_le_div_left b2 (by omega)
    omega
  omega
theorem zdiv64 {x y : Int} (hx : inL x) (hy : inL y) (h0 : y ≠ 0) (h1 : x ≠ -9223372036854775808) : Int64.ofInt x / Int64.ofInt y = Int64.ofInt (x.tdiv y) := by
  refine Int64.toInt_inj.mp ?_
  have e : Int64.ofInt x ≠ Int64.minValue := by
    intro q
    have := congrArg Int64.toInt q
    rw [z64 hx] at this
    exact h1 (this.trans (by decide))
  rw [Int64.toInt_div_of_ne_left _ _ e, z64 hx, z64 hy, z64]
  have a1 : (x.tdiv y).natAbs = x.natAbs / y.natAbs := Int.natAbs_tdiv x y
  have a2 : x.natAbs / y.natAbs ≤ x.natAbs := Nat.div_le_self _ _
  have a3 : (x.tdiv y).natAbs ≤ x.natAbs := by rw [a1]; exact a2
  omega
theorem a_idiv {x y : Int} (d : decode md.2.2.1 pc = .ok (.idiv, 1)) (hx : inR x) (hy : inR y) (h0 : y ≠ 0) (h1 : y ≠ -1) (kk : AW G l md Z (pc + 1) ls (aI (x.tdiv y) :: st) lay P M (k) (n)) : AW G l md Z (pc) ls (aI y :: aI x :: st) lay P M (k) (n) := by
  intro hG p e s m args below meth c H locs lsA hC hl hH hS
  have h := kk hG p e s m args below meth c H locs lsA hC hl hH hS
  rw [List.map_cons, cv_I, ← zdiv32 hx hy h0 h1] at h
  exact lv_idiv hC.1 hC.2.1 d (fun q => h0 ((zeq hy ⟨by omega, by omega⟩).mp (q.trans z0.symm))) h
theorem a_irem {x y : Int} (d : decode md.2.2.1 pc = .ok (.irem, 1)) (hx : inR x) (hy : inR y) (h0 : y ≠ 0) (h1 : y ≠ -1) (kk : AW G l md Z (pc + 1) ls (aI (x.tmod y) :: st) lay P M (k) (n)) : AW G l md Z (pc) ls (aI y :: aI x :: st) lay P M (k) (n) := by
  intro hG p e s m args below meth c H locs lsA hC hl hH hS
  have h := kk hG p e s m args below meth c H locs lsA hC hl hH hS
  rw [List.map_cons, cv_I, Int.tmod_def, Int.mul_comm, Int32.ofInt_sub, Int32.ofInt_mul, ← zdiv32 hx hy h0 h1] at h
  exact lv_irem hC.1 hC.2.1 d (fun q => h0 ((zeq hy ⟨by omega, by omega⟩).mp (q.trans z0.symm))) h
theorem a_ldiv {x y : Int} (d : decode md.2.2.1 pc = .ok (.ldiv, 1)) (hx : inL x) (hy : inL y) (h0 : y ≠ 0) (h1 : x ≠ -9223372036854775808) (kk : AW G l md Z (pc + 1) ls (aL (x.tdiv y) :: st) lay P M (k) (n)) : AW G l md Z (pc) ls (aL y :: aL x :: st) lay P M (k) (n) := by
  intro hG p e s m args below meth c H locs lsA hC hl hH hS
  have h := kk hG p e s m args below meth c H locs lsA hC hl hH hS
  rw [List.map_cons, cv_L, ← zdiv64 hx hy h0 h1] at h
  exact lv_ldiv hC.1 hC.2.1 d (fun q => h0 ((zeq64 hy ⟨by omega, by omega⟩).mp (q.trans z0L.symm))) h
theorem a_lrem {x y : Int} (d : decode md.2.2.1 pc = .ok (.lrem, 1)) (hx : inL x) (hy : inL y) (h0 : y ≠ 0) (h1 : x ≠ -9223372036854775808) (kk : AW G l md Z (pc + 1) ls (aL (x.tmod y) :: st) lay P M (k) (n)) : AW G l md Z (pc) ls (aL y :: aL x :: st) lay P M (k) (n) := by
  intro hG p e s m args below meth c H locs lsA hC hl hH hS
  have h := kk hG p e s m args below meth c H locs lsA hC hl hH hS
  rw [List.map_cons, cv_L, Int.tmod_def, Int.mul_comm, Int64.ofInt_sub, Int64.ofInt_mul, ← zdiv64 hx hy h0 h1] at h
  exact lv_lrem hC.1 hC.2.1 d (fun q => h0 ((zeq64 hy ⟨by omega, by omega⟩).mp (q.trans z0L.symm))) h
theorem a_i2l {x : Int} (d : decode md.2.2.1 pc = .ok (.i2l, 1)) (hx : inR x) (kk : AW G l md Z (pc + 1) ls (aL x :: st) lay P M (k) (n)) : AW G l md Z (pc) ls (aI x :: st) lay P M (k) (n) := by
  intro hG p e s m args below meth c H locs lsA hC hl hH hS
  have h := kk hG p e s m args below meth c H locs lsA hC hl hH hS
  exact lv_i2l hC.1 hC.2.1 d (Int32.toInt64_ofInt (by simpa using hx.1) (by rw [show Int32.maxValue.toInt = 2147483647 from by decide]; omega)) h
theorem a_l2i {x : Int} (d : decode md.2.2.1 pc = .ok (.l2i, 1))  (kk : AW G l md Z (pc + 1) ls (aI x :: st) lay P M (k) (n)) : AW G l md Z (pc) ls (aL x :: st) lay P M (k) (n) := by
  intro hG p e s m args below meth c H locs lsA hC hl hH hS
  have h := kk hG p e s m args below meth c H locs lsA hC hl hH hS
  exact lv_l2i hC.1 hC.2.1 d Int64.toInt32_ofInt h
theorem zc1I (ad : Nat → Nat) (x : Int) : (cv ad (aI x)).category = 1 := rfl
theorem zc1R (ad : Nat → Nat) (o : Option Nat) : (cv ad (aQ o)).category = 1 := by cases o <;> rfl
theorem a_dupI {x : Int} (d : decode md.2.2.1 pc = .ok (.dup, 1))  (kk : AW G l md Z (pc + 1) ls (aI x :: aI x :: st) lay P M (k) (n)) : AW G l md Z (pc) ls (aI x :: st) lay P M (k) (n) := by
  intro hG p e s m args below meth c H locs lsA hC hl hH hS
  have h := kk hG p e s m args below meth c H locs lsA hC hl hH hS
  exact lv_dup hC.1 hC.2.1 d (zc1I G.1 x) h
theorem a_popI {x : Int} (d : decode md.2.2.1 pc = .ok (.pop, 1))  (kk : AW G l md Z (pc + 1) ls (st) lay P M (k) (n)) : AW G l md Z (pc) ls (aI x :: st) lay P M (k) (n) := by
  intro hG p e s m args below meth c H locs lsA hC hl hH hS
  have h := kk hG p e s m args below meth c H locs lsA hC hl hH hS
  exact lv_pop hC.1 hC.2.1 d (zc1I G.1 x) h
theorem a_dupR {x : Nat} (d : decode md.2.2.1 pc = .ok (.dup, 1))  (kk : AW G l md Z (pc + 1) ls (aR x :: aR x :: st) lay P M (k) (n)) : AW G l md Z (pc) ls (aR x :: st) lay P M (k) (n) := by
  intro hG p e s m args below meth c H locs lsA hC hl hH hS
  have h := kk hG p e s m args below meth c H locs lsA hC hl hH hS
  exact lv_dup hC.1 hC.2.1 d (zc1R G.1 (some x)) h
theorem a_popR {x : Nat} (d : decode md.2.2.1 pc = .ok (.pop, 1))  (kk : AW G l md Z (pc + 1) ls (st) lay P M (k) (n)) : AW G l md Z (pc) ls (aR x :: st) lay P M (k) (n) := by
  intro hG p e s m args below meth c H locs lsA hC hl hH hS
  have h := kk hG p e s m args below meth c H locs lsA hC hl hH hS
  exact lv_pop hC.1 hC.2.1 d (zc1R G.1 (some x)) h
theorem a_dup2IR {x : Int} {y : Nat} (d : decode md.2.2.1 pc = .ok (.dup2, 1))  (kk : AW G l md Z (pc + 1) ls (aI x :: aR y :: aI x :: aR y :: st) lay P M (k) (n)) : AW G l md Z (pc) ls (aI x :: aR y :: st) lay P M (k) (n) := by
  intro hG p e s m args below meth c H locs lsA hC hl hH hS
  have h := kk hG p e s m args below meth c H locs lsA hC hl hH hS
  exact lv_dup2_11 hC.1 hC.2.1 d (zc1I G.1 x) (zc1R G.1 (some y)) h
theorem r0 : inR 0 := ⟨by decide, by decide⟩
theorem a_icmp_eq {x y : Int} {off : Int} {tgt : Nat} (d : decode md.2.2.1 pc = .ok (.if_icmp .eq off, 3)) (ht : (pc : Int) + off = (tgt : Int)) (hx : inR x) (hy : inR y) (kt : x = y → AW G l md Z (tgt) ls (st) lay P M (k) (n)) (kf : ¬ (x = y) → AW G l md Z (pc + 3) ls (st) lay P M (k) (n)) : AW G l md Z (pc) ls (aI y :: aI x :: st) lay P M (k) (n) := by
  intro hG p e s m args below meth c H locs lsA hC hl hH hS
  exact lv_icmp_eq hC.1 hC.2.1 d ht (fun q => kt ((zeq hx hy).mp q) hG p e s m args below meth c H locs lsA hC hl hH hS) (fun q => kf (fun z => q ((zeq hx hy).mpr z)) hG p e s m args below meth c H locs lsA hC hl hH hS)
theorem a_if_eq {x : Int} {off : Int} {tgt : Nat} (d : decode md.2.2.1 pc = .ok (.ifCond .eq off, 3)) (ht : (pc : Int) + off = (tgt : Int)) (hx : inR x) (kt : x = 0 → AW G l md Z (tgt) ls (st) lay P M (k) (n)) (kf : ¬ (x = 0) → AW G l md Z (pc + 3) ls (st) lay P M (k) (n)) : AW G l md Z (pc) ls (aI x :: st) lay P M (k) (n) := by
  intro hG p e s m args below meth c H locs lsA hC hl hH hS
  exact lv_if_eq hC.1 hC.2.1 d ht (fun q => kt ((z0 ▸ zeq hx r0).mp q) hG p e s m args below meth c H locs lsA hC hl hH hS) (fun q => kf (fun z => q ((z0 ▸ zeq hx r0).mpr z)) hG p e s m args below meth c H locs lsA hC hl hH hS)
theorem a_icmp_lt {x y : Int} {off : Int} {tgt : Nat} (d : decode md.2.2.1 pc = .ok (.if_icmp .lt off, 3)) (ht : (pc : Int) + off = (tgt : Int)) (hx : inR x) (hy : inR y) (kt : x < y → AW G l md Z (tgt) ls (st) lay P M (k) (n)) (kf : ¬ (x < y) → AW G l md Z (pc + 3) ls (st) lay P M (k) (n)) : AW G l md Z (pc) ls (aI y :: aI x :: st) lay P M (k) (n) := by
  intro hG p e s m args below meth c H locs lsA hC hl hH hS
  exact lv_icmp_lt hC.1 hC.2.1 d ht (fun q => kt ((zlt hx hy).mp q) hG p e s m args below meth c H locs lsA hC hl hH hS) (fun q => kf (fun z => q ((zlt hx hy).mpr z)) hG p e s m args below meth c H locs lsA hC hl hH hS)
theorem a_if_lt {x : Int} {off : Int} {tgt : Nat} (d : decode md.2.2.1 pc = .ok (.ifCond .lt off, 3)) (ht : (pc : Int) + off = (tgt : Int)) (hx : inR x) (kt : x < 0 → AW G l md Z (tgt) ls (st) lay P M (k) (n)) (kf : ¬ (x < 0) → AW G l md Z (pc + 3) ls (st) lay P M (k) (n)) : AW G l md Z (pc) ls (aI x :: st) lay P M (k) (n) := by
  intro hG p e s m args below meth c H locs lsA hC hl hH hS
  exact lv_if_lt hC.1 hC.2.1 d ht (fun q => kt ((z0 ▸ zlt hx r0).mp q) hG p e s m args below meth c H locs lsA hC hl hH hS) (fun q => kf (fun z => q ((z0 ▸ zlt hx r0).mpr z)) hG p e s m args below meth c H locs lsA hC hl hH hS)
theorem a_icmp_gt {x y : Int} {off : Int} {tgt : Nat} (d : decode md.2.2.1 pc = .ok (.if_icmp .gt off, 3)) (ht : (pc : Int) + off = (tgt : Int)) (hx : inR x) (hy : inR y) (kt : y < x → AW G l md Z (tgt) ls (st) lay P M (k) (n)) (kf : ¬ (y < x) → AW G l md Z (pc + 3) ls (st) lay P M (k) (n)) : AW G l md Z (pc) ls (aI y :: aI x :: st) lay P M (k) (n) := by
  intro hG p e s m args below meth c H locs lsA hC hl hH hS
  exact lv_icmp_gt hC.1 hC.2.1 d ht (fun q => kt ((zlt hy hx).mp q) hG p e s m args below meth c H locs lsA hC hl hH hS) (fun q => kf (fun z => q ((zlt hy hx).mpr z)) hG p e s m args below meth c H locs lsA hC hl hH hS)
theorem a_if_gt {x : Int} {off : Int} {tgt : Nat} (d : decode md.2.2.1 pc = .ok (.ifCond .gt off, 3)) (ht : (pc : Int) + off = (tgt : Int)) (hx : inR x) (kt : 0 < x → AW G l md Z (tgt) ls (st) lay P M (k) (n)) (kf : ¬ (0 < x) → AW G l md Z (pc + 3) ls (st) lay P M (k) (n)) : AW G l md Z (pc) ls (aI x :: st) lay P M (k) (n) := by
  intro hG p e s m args below meth c H locs lsA hC hl hH hS
  exact lv_if_gt hC.1 hC.2.1 d ht (fun q => kt ((z0 ▸ zlt r0 hx).mp q) hG p e s m args below meth c H locs lsA hC hl hH hS) (fun q => kf (fun z => q ((z0 ▸ zlt r0 hx).mpr z)) hG p e s m args below meth c H locs lsA hC hl hH hS)
theorem a_icmp_le {x y : Int} {off : Int} {tgt : Nat} (d : decode md.2.2.1 pc = .ok (.if_icmp .le off, 3)) (ht : (pc : Int) + off = (tgt : Int)) (hx : inR x) (hy : inR y) (kt : x ≤ y → AW G l md Z (tgt) ls (st) lay P M (k) (n)) (kf : ¬ (x ≤ y) → AW G l md Z (pc + 3) ls (st) lay P M (k) (n)) : AW G l md Z (pc) ls (aI y :: aI x :: st) lay P M (k) (n) := by
  intro hG p e s m args below meth c H locs lsA hC hl hH hS
  exact lv_icmp_le hC.1 hC.2.1 d ht (fun q => kt ((zle hx hy).mp q) hG p e s m args below meth c H locs lsA hC hl hH hS) (fun q => kf (fun z => q ((zle hx hy).mpr z)) hG p e s m args below meth c H locs lsA hC hl hH hS)
theorem a_if_le {x : Int} {off : Int} {tgt : Nat} (d : decode md.2.2.1 pc = .ok (.ifCond .le off, 3)) (ht : (pc : Int) + off = (tgt : Int)) (hx : inR x) (kt : x ≤ 0 → AW G l md Z (tgt) ls (st) lay P M (k) (n)) (kf : ¬ (x ≤ 0) → AW G l md Z (pc + 3) ls (st) lay P M (k) (n)) : AW G l md Z (pc) ls (aI x :: st) lay P M (k) (n) := by
  intro hG p e s m args below meth c H locs lsA hC hl hH hS
  exact lv_if_le hC.1 hC.2.1 d ht (fun q => kt ((z0 ▸ zle hx r0).mp q) hG p e s m args below meth c H locs lsA hC hl hH hS) (fun q => kf (fun z => q ((z0 ▸ zle hx r0).mpr z)) hG p e s m args below meth c H locs lsA hC hl hH hS)
theorem a_icmp_ge {x y : Int} {off : Int} {tgt : Nat} (d : decode md.2.2.1 pc = .ok (.if_icmp .ge off, 3)) (ht : (pc : Int) + off = (tgt : Int)) (hx : inR x) (hy : inR y) (kt : y ≤ x → AW G l md Z (tgt) ls (st) lay P M (k) (n)) (kf : ¬ (y ≤ x) → AW G l md Z (pc + 3) ls (st) lay P M (k) (n)) : AW G l md Z (pc) ls (aI y :: aI x :: st) lay P M (k) (n) := by
  intro hG p e s m args below meth c H locs lsA hC hl hH hS
  exact lv_icmp_ge hC.1 hC.2.1 d ht (fun q => kt ((zle hy hx).mp q) hG p e s m args below meth c H locs lsA hC hl hH hS) (fun q => kf (fun z => q ((zle hy hx).mpr z)) hG p e s m args below meth c H locs lsA hC hl hH hS)
theorem a_if_ge {x : Int} {off : Int} {tgt : Nat} (d : decode md.2.2.1 pc = .ok (.ifCond .ge off, 3)) (ht : (pc : Int) + off = (tgt : Int)) (hx : inR x) (kt : 0 ≤ x → AW G l md Z (tgt) ls (st) lay P M (k) (n)) (kf : ¬ (0 ≤ x) → AW G l md Z (pc + 3) ls (st) lay P M (k) (n)) : AW G l md Z (pc) ls (aI x :: st) lay P M (k) (n) := by
  intro hG p e s m args below meth c H locs lsA hC hl hH hS
  exact lv_if_ge hC.1 hC.2.1 d ht (fun q => kt ((z0 ▸ zle r0 hx).mp q) hG p e s m args below meth c H locs lsA hC hl hH hS) (fun q => kf (fun z => q ((z0 ▸ zle r0 hx).mpr z)) hG p e s m args below meth c H locs lsA hC hl hH hS)
theorem a_icmp_ne {x y : Int} {off : Int} {tgt : Nat} (d : decode md.2.2.1 pc = .ok (.if_icmp .ne off, 3)) (ht : (pc : Int) + off = (tgt : Int)) (hx : inR x) (hy : inR y) (kt : x ≠ y → AW G l md Z (tgt) ls (st) lay P M (k) (n)) (kf : x = y → AW G l md Z (pc + 3) ls (st) lay P M (k) (n)) : AW G l md Z (pc) ls (aI y :: aI x :: st) lay P M (k) (n) := by
  intro hG p e s m args below meth c H locs lsA hC hl hH hS
  exact lv_icmp_ne hC.1 hC.2.1 d ht (fun q => kt (fun z => q ((zeq hx hy).mpr z)) hG p e s m args below meth c H locs lsA hC hl hH hS) (fun q => kf ((zeq hx hy).mp q) hG p e s m args below meth c H locs lsA hC hl hH hS)
theorem a_if_ne {x : Int} {off : Int} {tgt : Nat} (d : decode md.2.2.1 pc = .ok (.ifCond .ne off, 3)) (ht : (pc : Int) + off = (tgt : Int)) (hx : inR x) (kt : x ≠ 0 → AW G l md Z (tgt) ls (st) lay P M (k) (n)) (kf : x = 0 → AW G l md Z (pc + 3) ls (st) lay P M (k) (n)) : AW G l md Z (pc) ls (aI x :: st) lay P M (k) (n) := by
  intro hG p e s m args below meth c H locs lsA hC hl hH hS
  exact lv_if_ne hC.1 hC.2.1 d ht (fun q => kt (fun z => q (by rw [z]; exact z0)) hG p e s m args below meth c H locs lsA hC hl hH hS) (fun q => kf ((zeq hx r0).mp (q.trans z0.symm)) hG p e s m args below meth c H locs lsA hC hl hH hS)
theorem a_goto {off : Int} {tgt : Nat} (d : decode md.2.2.1 pc = .ok (.goto off, 3)) (ht : (pc : Int) + off = (tgt : Int)) (kk : AW G l md Z (tgt) ls (st) lay P M (k) (n)) : AW G l md Z (pc) ls (st) lay P M (k) (n) := by
  intro hG p e s m args below meth c H locs lsA hC hl hH hS
  have h := kk hG p e s m args below meth c H locs lsA hC hl hH hS
  exact lv_goto hC.1 hC.2.1 d ht h
def b_lcmp (x y : Int) : Int := if x < y then -1 else if x = y then 0 else 1
theorem a_lcmp {x y : Int} (d : decode md.2.2.1 pc = .ok (.lcmp, 1)) (hx : inL x) (hy : inL y) (kk : AW G l md Z (pc + 1) ls (aI (b_lcmp x y) :: st) lay P M (k) (n)) : AW G l md Z (pc) ls (aL y :: aL x :: st) lay P M (k) (n) := by
  intro hG p e s m args below meth c H locs lsA hC hl hH hS
  have h := kk hG p e s m args below meth c H locs lsA hC hl hH hS
  refine W.lcmp hC.1 hC.2.1 d ?_
  rw [List.map_cons, cv_I] at h
  have e : Int32.ofInt (b_lcmp x y) = lg_cmp (Int64.ofInt x) (Int64.ofInt y) := by
    unfold b_lcmp lg_cmp
    rcases Int.lt_trichotomy x y with q | q | q
    · rw [if_pos q, if_neg (by rw [gt_iff_lt, zlt64 hy hx]; omega), if_neg (by rw [zeq64 hx hy]; omega)]
      rfl
    · subst q
      rw [if_neg (by omega), if_pos rfl, if_neg (by rw [gt_iff_lt, zlt64 hx hx]; omega), if_pos rfl]
      rfl
    · rw [if_neg (by omega), if_neg (by omega), if_pos (by rw [gt_iff_lt, zlt64 hy hx]; exact q)]
      rfl
  rw [e] at h
  exact h
theorem a_tabIn {dflt lo hi : Int} {offs : Array Int} {len : Nat} {x off : Int} {tgt : Nat} (d : decode md.2.2.1 pc = .ok (.tableswitch dflt lo hi offs, len)) (hx : inR x) (h1 : lo ≤ x) (h2 : x ≤ hi) (ho : offs[(x - lo).toNat]? = some off) (ht : (pc : Int) + off = (tgt : Int)) (kk : AW G l md Z (tgt) ls (st) lay P M (k) (n)) : AW G l md Z (pc) ls (aI x :: st) lay P M (k) (n) := by
  intro hG p e s m args below meth c H locs lsA hC hl hH hS
  have h := kk hG p e s m args below meth c H locs lsA hC hl hH hS
  exact lv_tableIn hC.1 hC.2.1 d (by rw [z32 hx]; omega) (by rw [z32 hx]; omega) (by rw [z32 hx]; exact ho) ht h
theorem a_tabOut {dflt lo hi : Int} {offs : Array Int} {len : Nat} {x : Int} {tgt : Nat} (d : decode md.2.2.1 pc = .ok (.tableswitch dflt lo hi offs, len)) (hx : inR x) (h1 : x < lo ∨ hi < x) (ht : (pc : Int) + dflt = (tgt : Int)) (kk : AW G l md Z (tgt) ls (st) lay P M (k) (n)) : AW G l md Z (pc) ls (aI x :: st) lay P M (k) (n) := by
  intro hG p e s m args below meth c H locs lsA hC hl hH hS
  have h := kk hG p e s m args below meth c H locs lsA hC hl hH hS
  exact lv_tableOut hC.1 hC.2.1 d (by rw [z32 hx]; exact h1) ht h
theorem a_lookup {dflt : Int} {ps : Array (Int × Int)} {len : Nat} {x off : Int} {tgt : Nat} (d : decode md.2.2.1 pc = .ok (.lookupswitch dflt ps, len)) (hp : (ps.toList.zip (ps.toList.drop 1)).all (fun (a, next) => a.1 < next.1) = true) (hx : inR x) (ho : Op.lookupswitch.offset ps.toList dflt x = off) (ht : (pc : Int) + off = (tgt : Int)) (kk : AW G l md Z (tgt) ls (st) lay P M (k) (n)) : AW G l md Z (pc) ls (aI x :: st) lay P M (k) (n) := by
  intro hG p e s m args below meth c H locs lsA hC hl hH hS
  have h := kk hG p e s m args below meth c H locs lsA hC hl hH hS
  exact lv_lookup hC.1 hC.2.1 d hp (by rw [z32 hx]; exact ho) ht h
/-- locals may be forgotten -/
theorem a_keep {ls' : List (Option av)} (hs : ∀ (i : Nat) (v : av), ls'[i]? = some (some v) → ls[i]? = some (some v)) (kk : AW G l md Z (pc) ls' (st) lay P M (k) (n)) : AW G l md Z (pc) ls (st) lay P M (k) (n) := by
  intro hG p e s m args below meth c H locs lsA hC hl hH hS
  exact kk hG p e s m args below meth c H locs lsA hC (zl_sub hl (fun i v h => zp_mem.mpr ⟨v, hs i v h, rfl⟩)) hH hS
theorem a_mem {M' : zM} (hM : M = M') (kk : AW G l md Z (pc) ls (st) lay P M' (k) (n)) : AW G l md Z (pc) ls (st) lay P M (k) (n) := hM ▸ kk
theorem a_stk {st' : List av} (hM : st = st') (kk : AW G l md Z (pc) ls (st') lay P M (k) (n)) : AW G l md Z (pc) ls (st) lay P M (k) (n) := hM ▸ kk
theorem a_loc {ls' : List (Option av)} (hM : ls = ls') (kk : AW G l md Z (pc) ls' (st) lay P M (k) (n)) : AW G l md Z (pc) ls (st) lay P M (k) (n) := hM ▸ kk
theorem a_widen {k' n' : Nat} (h1 : k ≤ k') (h2 : n ≤ n') (kk : AW G l md Z (pc) ls (st) lay P M (k') (n')) : AW G l md Z (pc) ls (st) lay P M (k) (n) := by
  intro hG p e s m args below meth c H locs lsA hC hl hH hS
  have h := kk hG p e s m args below meth c H locs lsA hC hl hH hS
  exact W.widen h1 h2 h
theorem a_ireturn {x : Int} (d : decode md.2.2.1 pc = .ok (.ireturn, 1)) (hr : md.2.2.2.2.1 = some .int) (h1 : k = md.2.2.2.2.2.cells) (h2 : n = md.2.2.2.2.2.slots)  (hz : Z (some (aI x)) lay P M) : AW G l md Z (pc) ls ([aI x]) lay P M (k) (n) := by
  intro hG p e s m args below meth c H locs lsA hC hl hH hS
  subst h1; subst h2
  exact W.iret hC.1 hC.2.1 (hC.2.2.2.1.trans hr) (fun t ht hW => ⟨some (aI x), lay, P, M, rfl, hz, by rw [ht]; exact hH⟩) hS d hC.2.2.2.2.1
theorem a_zreturn {x : Int} (d : decode md.2.2.1 pc = .ok (.ireturn, 1)) (hr : md.2.2.2.2.1 = some .boolean) (h1 : k = md.2.2.2.2.2.cells) (h2 : n = md.2.2.2.2.2.slots) (hx : x = 0 ∨ x = 1) (hz : Z (some (aI x)) lay P M) : AW G l md Z (pc) ls ([aI x]) lay P M (k) (n) := by
  intro hG p e s m args below meth c H locs lsA hC hl hH hS
  subst h1; subst h2
  exact W.zret hC.1 hC.2.1 (hC.2.2.2.1.trans hr) (by rcases hx with rfl | rfl <;> rfl) (fun t ht hW => ⟨some (aI x), lay, P, M, rfl, hz, by rw [ht]; exact hH⟩) hS d hC.2.2.2.2.1
theorem a_lreturn {x : Int} (d : decode md.2.2.1 pc = .ok (.lreturn, 1)) (hr : md.2.2.2.2.1 = some .long) (h1 : k = md.2.2.2.2.2.cells) (h2 : n = md.2.2.2.2.2.slots)  (hz : Z (some (aL x)) lay P M) : AW G l md Z (pc) ls ([aL x]) lay P M (k) (n) := by
  intro hG p e s m args below meth c H locs lsA hC hl hH hS
  subst h1; subst h2
  exact W.lret hC.1 hC.2.1 (hC.2.2.2.1.trans hr) (fun t ht hW => ⟨some (aL x), lay, P, M, rfl, hz, by rw [ht]; exact hH⟩) hS d hC.2.2.2.2.1
theorem a_return  (d : decode md.2.2.1 pc = .ok (.return_, 1)) (hr : md.2.2.2.2.1 = none) (h1 : k = md.2.2.2.2.2.cells) (h2 : n = md.2.2.2.2.2.slots)  (hz : Z (none) lay P M) : AW G l md Z (pc) ls ([]) lay P M (k) (n) := by
  intro hG p e s m args below meth c H locs lsA hC hl hH hS
  subst h1; subst h2
  exact W.vret hC.1 hC.2.1 (hC.2.2.2.1.trans hr) (fun t ht hW => ⟨none, lay, P, M, rfl, hz, by rw [ht]; exact hH⟩) hS d hC.2.2.2.2.1
theorem a_alen {q t N : Nat} {w : Int} (d : decode md.2.2.1 pc = .ok (.arraylength, 1)) (hk : lay[q]? = some (.inl (t, N))) (ht : t ≤ 4) (hN : (N : Int) = w) (kk : AW G l md Z (pc + 1) ls (aI w :: st) lay P M (k) (n)) : AW G l md Z (pc) ls (aR q :: st) lay P M (k) (n) := by
  intro hG p e s m args below meth c H locs lsA hC hl hH hS
  have h := kk hG p e s m args below meth c H locs lsA hC hl hH hS
  rcases (hH.2 q _ hk).1 with ⟨h2, hc⟩ | ⟨h2, hc⟩
  · have hT : (ztys G)[t]? = some (G.2.2.1 t, zty t) := by
      rcases (show t = 0 ∨ t = 1 ∨ t = 2 ∨ t = 3 ∨ t = 4 by omega) with rfl | rfl | rfl | rfl | rfl <;> rfl
    exact va_alen (ws := [(G.1 q, zE G P M q (.inl (t, N)))]) hC.1 hC.2.1 hC.2.2.2.2.2.2.2.1.1 (fun i x hx => by
      cases i with
      | zero => cases hx; exact hc
      | succ i => cases hx) 0 t rfl hT (by rw [← hN]; exact Int32.ofInt_eq_ofNat.symm) d h
  · intro T0 hT0 X
    obtain ⟨hT9, hS9⟩ := ZX.T hG hC hH hS h2 hc hT0 X
    exact va_tlen hC.1 hC.2.1 hT9 hS9 (by rw [← hN]; exact Int32.ofInt_eq_ofNat.symm) d h T0 hT0 X
theorem zI1 {x : Int} {N : Nat} (h0 : 0 ≤ x) (h1 : x < N) (hN : N < 2147483648) : vp_in (Int32.ofInt x) N ∧ (((Int32.ofInt x).toNatClampNeg : Nat) : Int) = x := by
  obtain ⟨i, rfl⟩ : ∃ i : Nat, x = (i : Int) := ⟨x.toNat, by omega⟩
  exact ⟨zin (by omega) hN, by rw [zcl (by omega)]⟩
theorem a_iald {q N : Nat} {x : Int} (d : decode md.2.2.1 pc = .ok (.iaload, 1)) (hk : lay[q]? = some (.inl (0, N))) (hN : N < 2147483648) (h0 : 0 ≤ x) (h1 : x < N) (kk : zrng 0 (M q x) → AW G l md Z (pc + 1) ls (aI (M q x) :: st) lay P M (k) (n)) : AW G l md Z (pc) ls (aI x :: aR q :: st) lay P M (k) (n) := by
  intro hG p e s m args below meth c H locs lsA hC hl hH hS
  have h := kk ((hH.2 q _ hk).2 x h0 h1) hG p e s m args below meth c H locs lsA hC hl hH hS
  obtain ⟨hi, he⟩ := zI1 h0 h1 hN
  rcases (hH.2 q _ hk).1 with ⟨h2, hc⟩ | ⟨h2, hc⟩
  · refine va_iald (ws := [(G.1 q, zE G P M q (.inl (0, N)))]) (f := fun i => Int32.ofInt (M q (i : Int))) hC.1 hC.2.1 hC.2.2.2.2.2.2.2.1.1 (fun i x hx => by
      cases i with
      | zero => cases hx; exact hc
      | succ i => cases hx) 0 0 rfl rfl hi d ?_
    rw [he]
    exact h
  · intro T0 hT0 X
    obtain ⟨hT9, hS9⟩ := ZX.T hG hC hH hS h2 hc hT0 X
    exact va_ti (v := .int (Int32.ofInt (M q x))) hC.1 hC.2.1 hT9 hS9 hi (by rw [he]) d h T0 hT0 X
theorem a_zald {q N : Nat} {x : Int} (d : decode md.2.2.1 pc = .ok (.baload, 1)) (hk : lay[q]? = some (.inl (1, N))) (hN : N < 2147483648) (h0 : 0 ≤ x) (h1 : x < N) (kk : zrng 1 (M q x) → AW G l md Z (pc + 1) ls (aI (M q x) :: st) lay P M (k) (n)) : AW G l md Z (pc) ls (aI x :: aR q :: st) lay P M (k) (n) := by
  intro hG p e s m args below meth c H locs lsA hC hl hH hS
  have h := kk ((hH.2 q _ hk).2 x h0 h1) hG p e s m args below meth c H locs lsA hC hl hH hS
  have hc := hH.nz hk (by decide)
  obtain ⟨hi, he⟩ := zI1 h0 h1 hN
  refine va_zald (ws := [(G.1 q, zE G P M q (.inl (1, N)))]) (f := fun i => Int32.ofInt (M q (i : Int))) hC.1 hC.2.1 hC.2.2.2.2.2.2.2.1.1 (fun i x hx => by
    cases i with
    | zero => cases hx; exact hc
    | succ i => cases hx) 0 1 rfl rfl hi d ?_
  rw [he]
  exact h
theorem a_lald {q N : Nat} {x : Int} (d : decode md.2.2.1 pc = .ok (.laload, 1)) (hk : lay[q]? = some (.inl (2, N))) (hN : N < 2147483648) (h0 : 0 ≤ x) (h1 : x < N) (kk : zrng 2 (M q x) → AW G l md Z (pc + 1) ls (aL (M q x) :: st) lay P M (k) (n)) : AW G l md Z (pc) ls (aI x :: aR q :: st) lay P M (k) (n) := by
  intro hG p e s m args below meth c H locs lsA hC hl hH hS
  have h := kk ((hH.2 q _ hk).2 x h0 h1) hG p e s m args below meth c H locs lsA hC hl hH hS
  have hc := hH.nz hk (by decide)
  obtain ⟨hi, he⟩ := zI1 h0 h1 hN
  refine va_lald (ws := [(G.1 q, zE G P M q (.inl (2, N)))]) (f := fun i => Int64.ofInt (M q (i : Int))) hC.1 hC.2.1 hC.2.2.2.2.2.2.2.1.1 (fun i x hx => by
    cases i with
    | zero => cases hx; exact hc
    | succ i => cases hx) 0 2 rfl rfl hi d ?_
  rw [he]
  exact h
theorem a_aald3 {q N y : Nat} {x : Int} (d : decode md.2.2.1 pc = .ok (.aaload, 1)) (hk : lay[q]? = some (.inl (3, N))) (hN : N < 2147483648) (h0 : 0 ≤ x) (h1 : x < N) (hy : P q x = some y) (kk : AW G l md Z (pc + 1) ls (aR y :: st) lay P M (k) (n)) : AW G l md Z (pc) ls (aI x :: aR q :: st) lay P M (k) (n) := by
  intro hG p e s m args below meth c H locs lsA hC hl hH hS
  have h := kk hG p e s m args below meth c H locs lsA hC hl hH hS
  have hc := hH.nz hk (by decide)
  obtain ⟨hi, he⟩ := zI1 h0 h1 hN
  refine va_aldq (ws := [(G.1 q, zE G P M q (.inl (3, N)))]) (f := fun i => (P q (i : Int)).map G.1) hC.1 hC.2.1 hC.2.2.2.2.2.2.2.1.1 (fun i x hx => by
    cases i with
    | zero => cases hx; exact hc
    | succ i => cases hx) 0 3 rfl rfl hi d ?_
  rw [he, hy]
  exact h
theorem a_aald4 {q N y : Nat} {x : Int} (d : decode md.2.2.1 pc = .ok (.aaload, 1)) (hk : lay[q]? = some (.inl (4, N))) (hN : N < 2147483648) (h0 : 0 ≤ x) (h1 : x < N) (hy : P q x = some y) (kk : AW G l md Z (pc + 1) ls (aR y :: st) lay P M (k) (n)) : AW G l md Z (pc) ls (aI x :: aR q :: st) lay P M (k) (n) := by
  intro hG p e s m args below meth c H locs lsA hC hl hH hS
  have h := kk hG p e s m args below meth c H locs lsA hC hl hH hS
  have hc := hH.nz hk (by decide)
  obtain ⟨hi, he⟩ := zI1 h0 h1 hN
  refine va_aldq (ws := [(G.1 q, zE G P M q (.inl (4, N)))]) (f := fun i => (P q (i : Int)).map G.1) hC.1 hC.2.1 hC.2.2.2.2.2.2.2.1.1 (fun i x hx => by
    cases i with
    | zero => cases hx; exact hc
    | succ i => cases hx) 0 4 rfl rfl hi d ?_
  rw [he, hy]
  exact h
theorem a_iast {q N : Nat} {i x : Int} (d : decode md.2.2.1 pc = .ok (.iastore, 1)) (hk : lay[q]? = some (.inl (0, N))) (hq : 2 ≤ q) (hN : N < 2147483648) (h0 : 0 ≤ i) (h1 : i < N) (hx : inR x) (kk : AW G l md Z (pc + 1) ls (st) lay P (sm M q i x) (k) (n)) : AW G l md Z (pc) ls (aI x :: aI i :: aR q :: st) lay P M (k) (n) := by
  intro hG p e s m args below meth c H locs lsA hC hl hH hS
  have hc := hH.ar hq hk
  obtain ⟨hi, he⟩ := zI1 h0 h1 hN
  refine W.iast hC.1 hC.2.1 hc ((hC.2.2.2.2.2.2.2.1.1.2 0 _ rfl).1 N (fun j => .int <| Int32.ofInt (M q (j : Int)))) (fun q => by cases q) (by show ¬ (_ ∨ (arrV _ _ _).slots.size ≤ _); rw [arrV_size]; exact hi) rfl rfl d fun H1 e1 z oq => ?_
  refine kk hG p e s m args below meth c H1 _ lsA hC hl (hH.one hG hq hk ⟨?_, zcan_a (hH.2 q _ hk).2 hx⟩ z oq (fun _ _ => rfl) (fun q' hq' => sm_n hq')) (zlo_add hS (gk_A hG hq))
  show H1[G.1 q]? = some (vp_cell _ _)
  rw [e1]
  show some ((arrV (G.2.2.1 0) N (fun j => .int <| Int32.ofInt (M q (j : Int)))).setSlot _ _) = some (arrV (G.2.2.1 0) N (fun j => .int <| Int32.ofInt (sm M q i x q (j : Int))))
  rw [arrV_store]
  congr 2
  funext j
  unfold updV
  by_cases hj : j = (Int32.ofInt i).toNatClampNeg
  · rw [if_pos hj, hj, he, sm_s]
  · rw [if_neg hj, sm_k, us_n]
    intro z2
    exact hj (by omega)
theorem a_zast {q N : Nat} {i x : Int} (d : decode md.2.2.1 pc = .ok (.bastore, 1)) (hk : lay[q]? = some (.inl (1, N))) (hq : 2 ≤ q) (hN : N < 2147483648) (h0 : 0 ≤ i) (h1 : i < N) (hx : x = 0 ∨ x = 1) (kk : AW G l md Z (pc + 1) ls (st) lay P (sm M q i x) (k) (n)) : AW G l md Z (pc) ls (aI x :: aI i :: aR q :: st) lay P M (k) (n) := by
  intro hG p e s m args below meth c H locs lsA hC hl hH hS
  have hc := hH.ar hq hk
  obtain ⟨hi, he⟩ := zI1 h0 h1 hN
  refine W.zast hC.1 hC.2.1 hc ((hC.2.2.2.2.2.2.2.1.1.2 1 _ rfl).1 N (fun j => .int <| Int32.ofInt (M q (j : Int)))) (fun q => by cases q) (by show ¬ (_ ∨ (arrV _ _ _).slots.size ≤ _); rw [arrV_size]; exact hi) rfl rfl d fun H1 e1 z oq => ?_
  refine kk hG p e s m args below meth c H1 _ lsA hC hl (hH.one hG hq hk ⟨?_, zcan_a (hH.2 q _ hk).2 hx⟩ z oq (fun _ _ => rfl) (fun q' hq' => sm_n hq')) (zlo_add hS (gk_A hG hq))
  show H1[G.1 q]? = some (vp_cell _ _)
  rw [e1]
  show some ((arrV (G.2.2.1 1) N (fun j => .int <| Int32.ofInt (M q (j : Int)))).setSlot _ _) = some (arrV (G.2.2.1 1) N (fun j => .int <| Int32.ofInt (sm M q i x q (j : Int))))
  rw [arrV_store]
  congr 2
  funext j
  unfold updV
  by_cases hj : j = (Int32.ofInt i).toNatClampNeg
  · rw [if_pos hj, hj, he, sm_s]
    rcases hx with rfl | rfl <;> rfl
  · rw [if_neg hj, sm_k, us_n]
    intro z2
    exact hj (by omega)
theorem a_last {q N : Nat} {i x : Int} (d : decode md.2.2.1 pc = .ok (.lastore, 1)) (hk : lay[q]? = some (.inl (2, N))) (hq : 2 ≤ q) (hN : N < 2147483648) (h0 : 0 ≤ i) (h1 : i < N) (hx : inL x) (kk : AW G l md Z (pc + 1) ls (st) lay P (sm M q i x) (k) (n)) : AW G l md Z (pc) ls (aL x :: aI i :: aR q :: st) lay P M (k) (n) := by
  intro hG p e s m args below meth c H locs lsA hC hl hH hS
  have hc := hH.ar hq hk
  obtain ⟨hi, he⟩ := zI1 h0 h1 hN
  refine W.last hC.1 hC.2.1 hc ((hC.2.2.2.2.2.2.2.1.1.2 2 _ rfl).1 N (fun j => .long <| Int64.ofInt (M q (j : Int)))) (fun q => by cases q) (by show ¬ (_ ∨ (arrV _ _ _).slots.size ≤ _); rw [arrV_size]; exact hi) rfl rfl d fun H1 e1 z oq => ?_
  refine kk hG p e s m args below meth c H1 _ lsA hC hl (hH.one hG hq hk ⟨?_, zcan_a (hH.2 q _ hk).2 hx⟩ z oq (fun _ _ => rfl) (fun q' hq' => sm_n hq')) (zlo_add hS (gk_A hG hq))
  show H1[G.1 q]? = some (vp_cell _ _)
  rw [e1]
  show some ((arrV (G.2.2.1 2) N (fun j => .long <| Int64.ofInt (M q (j : Int)))).setSlot _ _) = some (arrV (G.2.2.1 2) N (fun j => .long <| Int64.ofInt (sm M q i x q (j : Int))))
  rw [arrV_store]
  congr 2
  funext j
  unfold updV
  by_cases hj : j = (Int32.ofInt i).toNatClampNeg
  · rw [if_pos hj, hj, he, sm_s]
  · rw [if_neg hj, sm_k, us_n]
    intro z2
    exact hj (by omega)
end ZR
