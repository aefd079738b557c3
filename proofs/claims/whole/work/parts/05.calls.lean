section ZC
variable {G : zG} {l : Launch} {md : zMd} {Z : zZ} {pc : Nat} {ls : List (Option av)} {st : List av} {lay : List zKd} {P : zP} {M : zM} {k n : Nat}
/-- a class of the system: its row, its words, its field types, its field names -/
def CL (ci : Nat) (C : String) (T : u_T) (N : Nat) : Prop := vwCl[ci]? = some (C, T, N) ∧ (∀ w ∈ u_ws C T N, w ∈ zt) ∧ (∃ ty0 : Nat → FieldType, ∀ k, k < N → parseFieldDescriptor (T k).2.2.1 = some (ty0 k)) ∧ (∀ a, a < N → ∀ b, b < N → a ≠ b → (T a).2.1 ≠ (T b).2.1)
/-- what a class links as a field: the field j of class ci, of type ty, final or not -/
def FL (own : String) (idx ci j : Nat) (ty : FieldType) (fin : Bool) (dcl : String) : Prop := ∃ (C : String) (T : u_T) (N : Nat), CL ci C T N ∧ j < N ∧ (T j).2.2.2 = fin ∧ parseFieldDescriptor (T j).2.2.1 = some ty ∧ Cond.fieldLink own idx (T j).1 (T j).2.1 (T j).2.2.1 ∈ zt ∧ (T j).1 = dcl
def isRefTy (ty : FieldType) : Bool := match ty with
  | .object _ => true
  | .array _ => true
  | _ => false
theorem a_getI {q ci j idx : Nat} {ty : FieldType} {fin : Bool} {dcl : String} {j' : Int}  (d : decode md.2.2.1 pc = .ok (.getfield idx, 3)) (hf : FL md.1 idx ci j ty fin dcl) (ht : (zft ci)[j]? = some 0) (hj : (j : Int) = j') (hk : lay[q]? = some (.inr ci))  (kk : zrng 0 (M q j') → AW G l md Z (pc + 3) ls (aI (M q j') :: st) lay P M (k) (n)) : AW G l md Z (pc) ls (aR q :: st) lay P M (k) (n) := by
  intro hG p e s m args below meth c H locs lsA hC hl hH hS
  have h := kk (hj ▸ (hH.2 q _ hk).2 j _ ht) hG p e s m args below meth c H locs lsA hC hl hH hS
  obtain ⟨C, T, N, hL, hjN, -, -, hw, -⟩ := hf
  subst hj
  refine va_get (ws := [(G.1 q, zE G P M q (.inr ci))]) (v := .int (Int32.ofInt (M q (j : Int)))) (ref := (T j).1) hC.1 hC.2.1 hC.2.2.2.2.2.2.1 hL.2.1 hC.2.2.2.2.2.1 hC.2.2.2.2.2.2.2.1.1 (fun i x hx => by
    cases i with
    | zero => cases hx; exact (hH.ob hk)
    | succ i => cases hx) 0 rfl hL.1 j hjN (hC.2.2.2.2.2.2.1 _ hw) (fun _ h9 => h9) (by rw [zF_at ht]; rfl) d ?_
  exact h
theorem a_getZ {q ci j idx : Nat} {ty : FieldType} {fin : Bool} {dcl : String} {j' : Int}  (d : decode md.2.2.1 pc = .ok (.getfield idx, 3)) (hf : FL md.1 idx ci j ty fin dcl) (ht : (zft ci)[j]? = some 1) (hj : (j : Int) = j') (hk : lay[q]? = some (.inr ci))  (kk : zrng 1 (M q j') → AW G l md Z (pc + 3) ls (aI (M q j') :: st) lay P M (k) (n)) : AW G l md Z (pc) ls (aR q :: st) lay P M (k) (n) := by
  intro hG p e s m args below meth c H locs lsA hC hl hH hS
  have h := kk (hj ▸ (hH.2 q _ hk).2 j _ ht) hG p e s m args below meth c H locs lsA hC hl hH hS
  obtain ⟨C, T, N, hL, hjN, -, -, hw, -⟩ := hf
  subst hj
  refine va_get (ws := [(G.1 q, zE G P M q (.inr ci))]) (v := .int (Int32.ofInt (M q (j : Int)))) (ref := (T j).1) hC.1 hC.2.1 hC.2.2.2.2.2.2.1 hL.2.1 hC.2.2.2.2.2.1 hC.2.2.2.2.2.2.2.1.1 (fun i x hx => by
    cases i with
    | zero => cases hx; exact (hH.ob hk)
    | succ i => cases hx) 0 rfl hL.1 j hjN (hC.2.2.2.2.2.2.1 _ hw) (fun _ h9 => h9) (by rw [zF_at ht]; rfl) d ?_
  exact h
theorem a_getL {q ci j idx : Nat} {ty : FieldType} {fin : Bool} {dcl : String} {j' : Int}  (d : decode md.2.2.1 pc = .ok (.getfield idx, 3)) (hf : FL md.1 idx ci j ty fin dcl) (ht : (zft ci)[j]? = some 2) (hj : (j : Int) = j') (hk : lay[q]? = some (.inr ci))  (kk : zrng 2 (M q j') → AW G l md Z (pc + 3) ls (aL (M q j') :: st) lay P M (k) (n)) : AW G l md Z (pc) ls (aR q :: st) lay P M (k) (n) := by
  intro hG p e s m args below meth c H locs lsA hC hl hH hS
  have h := kk (hj ▸ (hH.2 q _ hk).2 j _ ht) hG p e s m args below meth c H locs lsA hC hl hH hS
  obtain ⟨C, T, N, hL, hjN, -, -, hw, -⟩ := hf
  subst hj
  refine va_get (ws := [(G.1 q, zE G P M q (.inr ci))]) (v := .long (Int64.ofInt (M q (j : Int)))) (ref := (T j).1) hC.1 hC.2.1 hC.2.2.2.2.2.2.1 hL.2.1 hC.2.2.2.2.2.1 hC.2.2.2.2.2.2.2.1.1 (fun i x hx => by
    cases i with
    | zero => cases hx; exact (hH.ob hk)
    | succ i => cases hx) 0 rfl hL.1 j hjN (hC.2.2.2.2.2.2.1 _ hw) (fun _ h9 => h9) (by rw [zF_at ht]; rfl) d ?_
  exact h
theorem a_getR {q ci j idx : Nat} {ty : FieldType} {fin : Bool} {dcl : String} {j' : Int} {y : Nat} (d : decode md.2.2.1 pc = .ok (.getfield idx, 3)) (hf : FL md.1 idx ci j ty fin dcl) (ht : (zft ci)[j]? = some 3) (hj : (j : Int) = j') (hk : lay[q]? = some (.inr ci)) (hy : P q j' = some y) (kk : AW G l md Z (pc + 3) ls (aR y :: st) lay P M (k) (n)) : AW G l md Z (pc) ls (aR q :: st) lay P M (k) (n) := by
  intro hG p e s m args below meth c H locs lsA hC hl hH hS
  have h := kk hG p e s m args below meth c H locs lsA hC hl hH hS
  obtain ⟨C, T, N, hL, hjN, -, -, hw, -⟩ := hf
  subst hj
  refine va_get (ws := [(G.1 q, zE G P M q (.inr ci))]) (v := .ref (G.1 y)) (ref := (T j).1) hC.1 hC.2.1 hC.2.2.2.2.2.2.1 hL.2.1 hC.2.2.2.2.2.1 hC.2.2.2.2.2.2.2.1.1 (fun i x hx => by
    cases i with
    | zero => cases hx; exact (hH.ob hk)
    | succ i => cases hx) 0 rfl hL.1 j hjN (hC.2.2.2.2.2.2.1 _ hw) (fun _ h9 => h9) (by rw [zF_at ht]; show some (va_rf ((P q (j : Int)).map G.1)) = _; rw [hy]; rfl) d ?_
  exact h
theorem a_putI {q ci j idx : Nat} {ty : FieldType} {dcl : String} {j' : Int} {x : Int} (d : decode md.2.2.1 pc = .ok (.putfield idx, 3)) (hf : FL md.1 idx ci j ty false dcl) (ht : (zft ci)[j]? = some 0) (hj : (j : Int) = j') (hk : lay[q]? = some (.inr ci)) (hq : 2 ≤ q) (hty9 : ty = .int) (hx : inR x) (kk : AW G l md Z (pc + 3) ls (st) lay P (sm M q j' x) (k) (n)) : AW G l md Z (pc) ls (aI x :: aR q :: st) lay P M (k) (n) := by
  intro hG p e s m args below meth c H locs lsA hC hl hH hS
  obtain ⟨C, T, N, hL, hjN, hfin, hd, hw, hdecl⟩ := hf
  obtain ⟨hcl, hin9, ⟨ty0, hty⟩, hnm⟩ := hL
  subst hj
  have hn : narrow ty (cv G.1 (aI x)) = cv G.1 (aI x) := by subst hty9; rfl
  have hfit : fits ty (cv G.1 (aI x)) = true := by subst hty9; rfl
  have hts := hC.2.2.2.2.2.2.1
  have hK := hC.2.2.2.2.2.2.2.1.1
  have hap := va_apart (own := md.1) hts hin9 ty0 hty hnm hK hcl
  obtain ⟨r, h1, cell, q1, q2, q3, q4⟩ := (hH.ob hk)
  have hr : r = (C, T, N) := Option.some.inj (h1.symm.trans hcl)
  subst hr
  obtain ⟨hS9, hfc, kC, hkC, hkind⟩ := hK.1 ci _ hcl
  obtain ⟨cf, kf, fi, f, hi, hsl⟩ := hS9 j hjN
  have hlay := hts _ (hin9 _ (u_in_lay hjN))
  unfold u_lay at hlay
  rw [if_neg (by rw [hfin]; decide)] at hlay
  have hst := (u_facts hfc hkC (u_lays hts hin9 hjN) hi).1
  have h6 := u_store hfc hkC hkind hlay hi hd hn hfit
  refine W.putK hC.1 hC.2.1 (f := f) ⟨hC.2.2.2.2.2.1, hC.2.2.2.2.2.2.1 _ hw, ⟨_, _, _, hi⟩, hst⟩ (by rw [q2]; exact h6) q1 q3 (by rw [hsl]; exact k2_hasslot (q4 j hjN)) rfl rfl d fun H' e1 e2 e3 => ?_
  rw [hsl] at e1
  refine kk hG p e s m args below meth c H' _ lsA hC hl (hH.one hG hq hk ⟨?_, zcan_f (hH.2 q _ hk).2 ht hx⟩ e2 e3 (fun q' hq' => rfl) (fun q' hq' => sm_n hq')) (zlo_add hS (gk_A hG hq))
  refine ⟨_, hcl, t_OB.to (V := updV (vp_V (zF G P M q ci)) j (cv G.1 (aI x))) ⟨_, e1, q2, q3, t_set q4 hap hjN _⟩ (fun i _ => ?_)⟩
  rw [vp_updV_set (by rw [zF_len]; exact (List.getElem?_eq_some_iff.mp ht).1)]
  congr 1
  rw [zF_set (G := G) (P := P) (P' := P) (M := M) (M' := (sm M q (j : Int) x)) (k := q) ht (fun i hi => by rfl) (fun i hi => by rw [sm_k, us_n hi])]
  congr 1
  simp [zV, sm_s, cv]
theorem a_putZ {q ci j idx : Nat} {ty : FieldType} {dcl : String} {j' : Int} {x : Int} (d : decode md.2.2.1 pc = .ok (.putfield idx, 3)) (hf : FL md.1 idx ci j ty false dcl) (ht : (zft ci)[j]? = some 1) (hj : (j : Int) = j') (hk : lay[q]? = some (.inr ci)) (hq : 2 ≤ q) (hty9 : ty = .boolean) (hx : x = 0 ∨ x = 1) (kk : AW G l md Z (pc + 3) ls (st) lay P (sm M q j' x) (k) (n)) : AW G l md Z (pc) ls (aI x :: aR q :: st) lay P M (k) (n) := by
  intro hG p e s m args below meth c H locs lsA hC hl hH hS
  obtain ⟨C, T, N, hL, hjN, hfin, hd, hw, hdecl⟩ := hf
  obtain ⟨hcl, hin9, ⟨ty0, hty⟩, hnm⟩ := hL
  subst hj
  have hn : narrow ty (cv G.1 (aI x)) = cv G.1 (aI x) := by subst hty9; rcases hx with rfl | rfl <;> rfl
  have hfit : fits ty (cv G.1 (aI x)) = true := by subst hty9; rcases hx with rfl | rfl <;> rfl
  have hts := hC.2.2.2.2.2.2.1
  have hK := hC.2.2.2.2.2.2.2.1.1
  have hap := va_apart (own := md.1) hts hin9 ty0 hty hnm hK hcl
  obtain ⟨r, h1, cell, q1, q2, q3, q4⟩ := (hH.ob hk)
  have hr : r = (C, T, N) := Option.some.inj (h1.symm.trans hcl)
  subst hr
  obtain ⟨hS9, hfc, kC, hkC, hkind⟩ := hK.1 ci _ hcl
  obtain ⟨cf, kf, fi, f, hi, hsl⟩ := hS9 j hjN
  have hlay := hts _ (hin9 _ (u_in_lay hjN))
  unfold u_lay at hlay
  rw [if_neg (by rw [hfin]; decide)] at hlay
  have hst := (u_facts hfc hkC (u_lays hts hin9 hjN) hi).1
  have h6 := u_store hfc hkC hkind hlay hi hd hn hfit
  refine W.putK hC.1 hC.2.1 (f := f) ⟨hC.2.2.2.2.2.1, hC.2.2.2.2.2.2.1 _ hw, ⟨_, _, _, hi⟩, hst⟩ (by rw [q2]; exact h6) q1 q3 (by rw [hsl]; exact k2_hasslot (q4 j hjN)) rfl rfl d fun H' e1 e2 e3 => ?_
  rw [hsl] at e1
  refine kk hG p e s m args below meth c H' _ lsA hC hl (hH.one hG hq hk ⟨?_, zcan_f (hH.2 q _ hk).2 ht hx⟩ e2 e3 (fun q' hq' => rfl) (fun q' hq' => sm_n hq')) (zlo_add hS (gk_A hG hq))
  refine ⟨_, hcl, t_OB.to (V := updV (vp_V (zF G P M q ci)) j (cv G.1 (aI x))) ⟨_, e1, q2, q3, t_set q4 hap hjN _⟩ (fun i _ => ?_)⟩
  rw [vp_updV_set (by rw [zF_len]; exact (List.getElem?_eq_some_iff.mp ht).1)]
  congr 1
  rw [zF_set (G := G) (P := P) (P' := P) (M := M) (M' := (sm M q (j : Int) x)) (k := q) ht (fun i hi => by rfl) (fun i hi => by rw [sm_k, us_n hi])]
  congr 1
  simp [zV, sm_s, cv]
theorem a_putL {q ci j idx : Nat} {ty : FieldType} {dcl : String} {j' : Int} {x : Int} (d : decode md.2.2.1 pc = .ok (.putfield idx, 3)) (hf : FL md.1 idx ci j ty false dcl) (ht : (zft ci)[j]? = some 2) (hj : (j : Int) = j') (hk : lay[q]? = some (.inr ci)) (hq : 2 ≤ q) (hty9 : ty = .long) (hx : inL x) (kk : AW G l md Z (pc + 3) ls (st) lay P (sm M q j' x) (k) (n)) : AW G l md Z (pc) ls (aL x :: aR q :: st) lay P M (k) (n) := by
  intro hG p e s m args below meth c H locs lsA hC hl hH hS
  obtain ⟨C, T, N, hL, hjN, hfin, hd, hw, hdecl⟩ := hf
  obtain ⟨hcl, hin9, ⟨ty0, hty⟩, hnm⟩ := hL
  subst hj
  have hn : narrow ty (cv G.1 (aL x)) = cv G.1 (aL x) := by subst hty9; rfl
  have hfit : fits ty (cv G.1 (aL x)) = true := by subst hty9; rfl
  have hts := hC.2.2.2.2.2.2.1
  have hK := hC.2.2.2.2.2.2.2.1.1
  have hap := va_apart (own := md.1) hts hin9 ty0 hty hnm hK hcl
  obtain ⟨r, h1, cell, q1, q2, q3, q4⟩ := (hH.ob hk)
  have hr : r = (C, T, N) := Option.some.inj (h1.symm.trans hcl)
  subst hr
  obtain ⟨hS9, hfc, kC, hkC, hkind⟩ := hK.1 ci _ hcl
  obtain ⟨cf, kf, fi, f, hi, hsl⟩ := hS9 j hjN
  have hlay := hts _ (hin9 _ (u_in_lay hjN))
  unfold u_lay at hlay
  rw [if_neg (by rw [hfin]; decide)] at hlay
  have hst := (u_facts hfc hkC (u_lays hts hin9 hjN) hi).1
  have h6 := u_store hfc hkC hkind hlay hi hd hn hfit
  refine W.putK hC.1 hC.2.1 (f := f) ⟨hC.2.2.2.2.2.1, hC.2.2.2.2.2.2.1 _ hw, ⟨_, _, _, hi⟩, hst⟩ (by rw [q2]; exact h6) q1 q3 (by rw [hsl]; exact k2_hasslot (q4 j hjN)) rfl rfl d fun H' e1 e2 e3 => ?_
  rw [hsl] at e1
  refine kk hG p e s m args below meth c H' _ lsA hC hl (hH.one hG hq hk ⟨?_, zcan_f (hH.2 q _ hk).2 ht hx⟩ e2 e3 (fun q' hq' => rfl) (fun q' hq' => sm_n hq')) (zlo_add hS (gk_A hG hq))
  refine ⟨_, hcl, t_OB.to (V := updV (vp_V (zF G P M q ci)) j (cv G.1 (aL x))) ⟨_, e1, q2, q3, t_set q4 hap hjN _⟩ (fun i _ => ?_)⟩
  rw [vp_updV_set (by rw [zF_len]; exact (List.getElem?_eq_some_iff.mp ht).1)]
  congr 1
  rw [zF_set (G := G) (P := P) (P' := P) (M := M) (M' := (sm M q (j : Int) x)) (k := q) ht (fun i hi => by rfl) (fun i hi => by rw [sm_k, us_n hi])]
  congr 1
  simp [zV, sm_s, cv]
theorem a_putR {q ci j idx : Nat} {ty : FieldType} {dcl : String} {j' : Int} {y : Nat} (d : decode md.2.2.1 pc = .ok (.putfield idx, 3)) (hf : FL md.1 idx ci j ty false dcl) (ht : (zft ci)[j]? = some 3) (hj : (j : Int) = j') (hk : lay[q]? = some (.inr ci)) (hq : 2 ≤ q) (hty9 : isRefTy ty = true) (kk : AW G l md Z (pc + 3) ls (st) lay (sp P q j' (some y)) M (k) (n)) : AW G l md Z (pc) ls (aR y :: aR q :: st) lay P M (k) (n) := by
  intro hG p e s m args below meth c H locs lsA hC hl hH hS
  obtain ⟨C, T, N, hL, hjN, hfin, hd, hw, hdecl⟩ := hf
  obtain ⟨hcl, hin9, ⟨ty0, hty⟩, hnm⟩ := hL
  subst hj
  have hn : narrow ty (cv G.1 (aR y)) = cv G.1 (aR y) := by cases ty <;> first | rfl | (cases hty9)
  have hfit : fits ty (cv G.1 (aR y)) = true := by cases ty <;> first | rfl | (cases hty9)
  have hts := hC.2.2.2.2.2.2.1
  have hK := hC.2.2.2.2.2.2.2.1.1
  have hap := va_apart (own := md.1) hts hin9 ty0 hty hnm hK hcl
  obtain ⟨r, h1, cell, q1, q2, q3, q4⟩ := (hH.ob hk)
  have hr : r = (C, T, N) := Option.some.inj (h1.symm.trans hcl)
  subst hr
  obtain ⟨hS9, hfc, kC, hkC, hkind⟩ := hK.1 ci _ hcl
  obtain ⟨cf, kf, fi, f, hi, hsl⟩ := hS9 j hjN
  have hlay := hts _ (hin9 _ (u_in_lay hjN))
  unfold u_lay at hlay
  rw [if_neg (by rw [hfin]; decide)] at hlay
  have hst := (u_facts hfc hkC (u_lays hts hin9 hjN) hi).1
  have h6 := u_store hfc hkC hkind hlay hi hd hn hfit
  refine W.putK hC.1 hC.2.1 (f := f) ⟨hC.2.2.2.2.2.1, hC.2.2.2.2.2.2.1 _ hw, ⟨_, _, _, hi⟩, hst⟩ (by rw [q2]; exact h6) q1 q3 (by rw [hsl]; exact k2_hasslot (q4 j hjN)) rfl rfl d fun H' e1 e2 e3 => ?_
  rw [hsl] at e1
  refine kk hG p e s m args below meth c H' _ lsA hC hl (hH.one hG hq hk ⟨?_, (hH.2 q _ hk).2⟩ e2 e3 (fun q' hq' => sp_n hq') (fun q' hq' => rfl)) (zlo_add hS (gk_A hG hq))
  refine ⟨_, hcl, t_OB.to (V := updV (vp_V (zF G P M q ci)) j (cv G.1 (aR y))) ⟨_, e1, q2, q3, t_set q4 hap hjN _⟩ (fun i _ => ?_)⟩
  rw [vp_updV_set (by rw [zF_len]; exact (List.getElem?_eq_some_iff.mp ht).1)]
  congr 1
  rw [zF_set (G := G) (P := P) (P' := (sp P q (j : Int) (some y))) (M := M) (M' := M) (k := q) ht (fun i hi => by simp [sp, hi]) (fun i hi => by rfl)]
  congr 1
  simp [zV, sp, cv]
theorem a_putFI {q ci j idx : Nat} {ty : FieldType} {dcl : String} {j' : Int} {x : Int} (d : decode md.2.2.1 pc = .ok (.putfield idx, 3)) (hf : FL md.1 idx ci j ty true md.1) (ht : (zft ci)[j]? = some 0) (hj : (j : Int) = j') (hk : lay[q]? = some (.inr ci)) (hq : 2 ≤ q) (hty9 : ty = .int) (hx : inR x) (hin : md.2.1 = "<init>") (kk : AW G l md Z (pc + 3) ls (st) lay P (sm M q j' x) (k) (n)) : AW G l md Z (pc) ls (aI x :: aR q :: st) lay P M (k) (n) := by
  intro hG p e s m args below meth c H locs lsA hC hl hH hS
  obtain ⟨C, T, N, hL, hjN, hfin, hd, hw, hdecl⟩ := hf
  obtain ⟨hcl, hin9, ⟨ty0, hty⟩, hnm⟩ := hL
  subst hj
  have hn : narrow ty (cv G.1 (aI x)) = cv G.1 (aI x) := by subst hty9; rfl
  have hfit : fits ty (cv G.1 (aI x)) = true := by subst hty9; rfl
  have hts := hC.2.2.2.2.2.2.1
  have hK := hC.2.2.2.2.2.2.2.1.1
  have hap := va_apart (own := md.1) hts hin9 ty0 hty hnm hK hcl
  obtain ⟨r, h1, cell, q1, q2, q3, q4⟩ := (hH.ob hk)
  have hr : r = (C, T, N) := Option.some.inj (h1.symm.trans hcl)
  subst hr
  obtain ⟨hS9, hfc, kC, hkC, hkind⟩ := hK.1 ci _ hcl
  obtain ⟨cf, kf, fi, f, hi, hsl⟩ := hS9 j hjN
  have hlay := hts _ (hin9 _ (u_in_lay hjN))
  unfold u_lay at hlay
  rw [if_pos hfin] at hlay
  have hst := (u_facts hfc hkC (u_lays hts hin9 hjN) hi).1
  have hcf : m.cls = cf := by
    obtain ⟨_, _, c', _, _, _, -, -, hf', -, -, -, hown2, -⟩ := Cond.laysFinal_spec hlay
    have e1 : c' = cf := by have := hi.symm.trans hf'; simp at this; exact this.1.symm
    rw [hdecl] at hown2
    rw [← e1]; exact Option.some.inj (hC.2.2.2.2.2.1.symm.trans hown2)
  have h6 := u_fits hfc hkC hkind (Or.inr hlay) hi hd hn hfit
  refine W.putFinK hC.1 hC.2.1 hC.2.2.2.2.2.1 (hC.2.2.2.2.2.2.1 _ hw) hi hst hcf (hC.2.2.2.2.2.2.2.2.1.trans hin) (by rw [q2]; exact h6) q1 q3 (by rw [hsl]; exact k2_hasslot (q4 j hjN)) rfl rfl d fun H' e1 e2 e3 => ?_
  rw [hsl] at e1
  refine kk hG p e s m args below meth c H' _ lsA hC hl (hH.one hG hq hk ⟨?_, zcan_f (hH.2 q _ hk).2 ht hx⟩ e2 e3 (fun q' hq' => rfl) (fun q' hq' => sm_n hq')) (zlo_add hS (gk_A hG hq))
  refine ⟨_, hcl, t_OB.to (V := updV (vp_V (zF G P M q ci)) j (cv G.1 (aI x))) ⟨_, e1, q2, q3, t_set q4 hap hjN _⟩ (fun i _ => ?_)⟩
  rw [vp_updV_set (by rw [zF_len]; exact (List.getElem?_eq_some_iff.mp ht).1)]
  congr 1
  rw [zF_set (G := G) (P := P) (P' := P) (M := M) (M' := (sm M q (j : Int) x)) (k := q) ht (fun i hi => by rfl) (fun i hi => by rw [sm_k, us_n hi])]
  congr 1
  simp [zV, sm_s, cv]
theorem a_putFZ {q ci j idx : Nat} {ty : FieldType} {dcl : String} {j' : Int} {x : Int} (d : decode md.2.2.1 pc = .ok (.putfield idx, 3)) (hf : FL md.1 idx ci j ty true md.1) (ht : (zft ci)[j]? = some 1) (hj : (j : Int) = j') (hk : lay[q]? = some (.inr ci)) (hq : 2 ≤ q) (hty9 : ty = .boolean) (hx : x = 0 ∨ x = 1) (hin : md.2.1 = "<init>") (kk : AW G l md Z (pc + 3) ls (st) lay P (sm M q j' x) (k) (n)) : AW G l md Z (pc) ls (aI x :: aR q :: st) lay P M (k) (n) := by
  intro hG p e s m args below meth c H locs lsA hC hl hH hS
  obtain ⟨C, T, N, hL, hjN, hfin, hd, hw, hdecl⟩ := hf
  obtain ⟨hcl, hin9, ⟨ty0, hty⟩, hnm⟩ := hL
  subst hj
  have hn : narrow ty (cv G.1 (aI x)) = cv G.1 (aI x) := by subst hty9; rcases hx with rfl | rfl <;> rfl
  have hfit : fits ty (cv G.1 (aI x)) = true := by subst hty9; rcases hx with rfl | rfl <;> rfl
  have hts := hC.2.2.2.2.2.2.1
  have hK := hC.2.2.2.2.2.2.2.1.1
  have hap := va_apart (own := md.1) hts hin9 ty0 hty hnm hK hcl
  obtain ⟨r, h1, cell, q1, q2, q3, q4⟩ := (hH.ob hk)
  have hr : r = (C, T, N) := Option.some.inj (h1.symm.trans hcl)
  subst hr
  obtain ⟨hS9, hfc, kC, hkC, hkind⟩ := hK.1 ci _ hcl
  obtain ⟨cf, kf, fi, f, hi, hsl⟩ := hS9 j hjN
  have hlay := hts _ (hin9 _ (u_in_lay hjN))
  unfold u_lay at hlay
  rw [if_pos hfin] at hlay
  have hst := (u_facts hfc hkC (u_lays hts hin9 hjN) hi).1
  have hcf : m.cls = cf := by
    obtain ⟨_, _, c', _, _, _, -, -, hf', -, -, -, hown2, -⟩ := Cond.laysFinal_spec hlay
    have e1 : c' = cf := by have := hi.symm.trans hf'; simp at this; exact this.1.symm
    rw [hdecl] at hown2
    rw [← e1]; exact Option.some.inj (hC.2.2.2.2.2.1.symm.trans hown2)
  have h6 := u_fits hfc hkC hkind (Or.inr hlay) hi hd hn hfit
  refine W.putFinK hC.1 hC.2.1 hC.2.2.2.2.2.1 (hC.2.2.2.2.2.2.1 _ hw) hi hst hcf (hC.2.2.2.2.2.2.2.2.1.trans hin) (by rw [q2]; exact h6) q1 q3 (by rw [hsl]; exact k2_hasslot (q4 j hjN)) rfl rfl d fun H' e1 e2 e3 => ?_
  rw [hsl] at e1
  refine kk hG p e s m args below meth c H' _ lsA hC hl (hH.one hG hq hk ⟨?_, zcan_f (hH.2 q _ hk).2 ht hx⟩ e2 e3 (fun q' hq' => rfl) (fun q' hq' => sm_n hq')) (zlo_add hS (gk_A hG hq))
  refine ⟨_, hcl, t_OB.to (V := updV (vp_V (zF G P M q ci)) j (cv G.1 (aI x))) ⟨_, e1, q2, q3, t_set q4 hap hjN _⟩ (fun i _ => ?_)⟩
  rw [vp_updV_set (by rw [zF_len]; exact (List.getElem?_eq_some_iff.mp ht).1)]
  congr 1
  rw [zF_set (G := G) (P := P) (P' := P) (M := M) (M' := (sm M q (j : Int) x)) (k := q) ht (fun i hi => by rfl) (fun i hi => by rw [sm_k, us_n hi])]
  congr 1
  simp [zV, sm_s, cv]
theorem a_putFL {q ci j idx : Nat} {ty : FieldType} {dcl : String} {j' : Int} {x : Int} (d : decode md.2.2.1 pc = .ok (.putfield idx, 3)) (hf : FL md.1 idx ci j ty true md.1) (ht : (zft ci)[j]? = some 2) (hj : (j : Int) = j') (hk : lay[q]? = some (.inr ci)) (hq : 2 ≤ q) (hty9 : ty = .long) (hx : inL x) (hin : md.2.1 = "<init>") (kk : AW G l md Z (pc + 3) ls (st) lay P (sm M q j' x) (k) (n)) : AW G l md Z (pc) ls (aL x :: aR q :: st) lay P M (k) (n) := by
  intro hG p e s m args below meth c H locs lsA hC hl hH hS
  obtain ⟨C, T, N, hL, hjN, hfin, hd, hw, hdecl⟩ := hf
  obtain ⟨hcl, hin9, ⟨ty0, hty⟩, hnm⟩ := hL
  subst hj
  have hn : narrow ty (cv G.1 (aL x)) = cv G.1 (aL x) := by subst hty9; rfl
  have hfit : fits ty (cv G.1 (aL x)) = true := by subst hty9; rfl
  have hts := hC.2.2.2.2.2.2.1
  have hK := hC.2.2.2.2.2.2.2.1.1
  have hap := va_apart (own := md.1) hts hin9 ty0 hty hnm hK hcl
  obtain ⟨r, h1, cell, q1, q2, q3, q4⟩ := (hH.ob hk)
  have hr : r = (C, T, N) := Option.some.inj (h1.symm.trans hcl)
  subst hr
  obtain ⟨hS9, hfc, kC, hkC, hkind⟩ := hK.1 ci _ hcl
  obtain ⟨cf, kf, fi, f, hi, hsl⟩ := hS9 j hjN
  have hlay := hts _ (hin9 _ (u_in_lay hjN))
  unfold u_lay at hlay
  rw [if_pos hfin] at hlay
  have hst := (u_facts hfc hkC (u_lays hts hin9 hjN) hi).1
  have hcf : m.cls = cf := by
    obtain ⟨_, _, c', _, _, _, -, -, hf', -, -, -, hown2, -⟩ := Cond.laysFinal_spec hlay
    have e1 : c' = cf := by have := hi.symm.trans hf'; simp at this; exact this.1.symm
    rw [hdecl] at hown2
    rw [← e1]; exact Option.some.inj (hC.2.2.2.2.2.1.symm.trans hown2)
  have h6 := u_fits hfc hkC hkind (Or.inr hlay) hi hd hn hfit
  refine W.putFinK hC.1 hC.2.1 hC.2.2.2.2.2.1 (hC.2.2.2.2.2.2.1 _ hw) hi hst hcf (hC.2.2.2.2.2.2.2.2.1.trans hin) (by rw [q2]; exact h6) q1 q3 (by rw [hsl]; exact k2_hasslot (q4 j hjN)) rfl rfl d fun H' e1 e2 e3 => ?_
  rw [hsl] at e1
  refine kk hG p e s m args below meth c H' _ lsA hC hl (hH.one hG hq hk ⟨?_, zcan_f (hH.2 q _ hk).2 ht hx⟩ e2 e3 (fun q' hq' => rfl) (fun q' hq' => sm_n hq')) (zlo_add hS (gk_A hG hq))
  refine ⟨_, hcl, t_OB.to (V := updV (vp_V (zF G P M q ci)) j (cv G.1 (aL x))) ⟨_, e1, q2, q3, t_set q4 hap hjN _⟩ (fun i _ => ?_)⟩
  rw [vp_updV_set (by rw [zF_len]; exact (List.getElem?_eq_some_iff.mp ht).1)]
  congr 1
  rw [zF_set (G := G) (P := P) (P' := P) (M := M) (M' := (sm M q (j : Int) x)) (k := q) ht (fun i hi => by rfl) (fun i hi => by rw [sm_k, us_n hi])]
  congr 1
  simp [zV, sm_s, cv]
theorem a_putFR {q ci j idx : Nat} {ty : FieldType} {dcl : String} {j' : Int} {y : Nat} (d : decode md.2.2.1 pc = .ok (.putfield idx, 3)) (hf : FL md.1 idx ci j ty true md.1) (ht : (zft ci)[j]? = some 3) (hj : (j : Int) = j') (hk : lay[q]? = some (.inr ci)) (hq : 2 ≤ q) (hty9 : isRefTy ty = true) (hin : md.2.1 = "<init>") (kk : AW G l md Z (pc + 3) ls (st) lay (sp P q j' (some y)) M (k) (n)) : AW G l md Z (pc) ls (aR y :: aR q :: st) lay P M (k) (n) := by
  intro hG p e s m args below meth c H locs lsA hC hl hH hS
  obtain ⟨C, T, N, hL, hjN, hfin, hd, hw, hdecl⟩ := hf
  obtain ⟨hcl, hin9, ⟨ty0, hty⟩, hnm⟩ := hL
  subst hj
  have hn : narrow ty (cv G.1 (aR y)) = cv G.1 (aR y) := by cases ty <;> first | rfl | (cases hty9)
  have hfit : fits ty (cv G.1 (aR y)) = true := by cases ty <;> first | rfl | (cases hty9)
  have hts := hC.2.2.2.2.2.2.1
  have hK := hC.2.2.2.2.2.2.2.1.1
  have hap := va_apart (own := md.1) hts hin9 ty0 hty hnm hK hcl
  obtain ⟨r, h1, cell, q1, q2, q3, q4⟩ := (hH.ob hk)
  have hr : r = (C, T, N) := Option.some.inj (h1.symm.trans hcl)
  subst hr
  obtain ⟨hS9, hfc, kC, hkC, hkind⟩ := hK.1 ci _ hcl
  obtain ⟨cf, kf, fi, f, hi, hsl⟩ := hS9 j hjN
  have hlay := hts _ (hin9 _ (u_in_lay hjN))
  unfold u_lay at hlay
  rw [if_pos hfin] at hlay
  have hst := (u_facts hfc hkC (u_lays hts hin9 hjN) hi).1
  have hcf : m.cls = cf := by
    obtain ⟨_, _, c', _, _, _, -, -, hf', -, -, -, hown2, -⟩ := Cond.laysFinal_spec hlay
    have e1 : c' = cf := by have := hi.symm.trans hf'; simp at this; exact this.1.symm
    rw [hdecl] at hown2
    rw [← e1]; exact Option.some.inj (hC.2.2.2.2.2.1.symm.trans hown2)
  have h6 := u_fits hfc hkC hkind (Or.inr hlay) hi hd hn hfit
  refine W.putFinK hC.1 hC.2.1 hC.2.2.2.2.2.1 (hC.2.2.2.2.2.2.1 _ hw) hi hst hcf (hC.2.2.2.2.2.2.2.2.1.trans hin) (by rw [q2]; exact h6) q1 q3 (by rw [hsl]; exact k2_hasslot (q4 j hjN)) rfl rfl d fun H' e1 e2 e3 => ?_
  rw [hsl] at e1
  refine kk hG p e s m args below meth c H' _ lsA hC hl (hH.one hG hq hk ⟨?_, (hH.2 q _ hk).2⟩ e2 e3 (fun q' hq' => sp_n hq') (fun q' hq' => rfl)) (zlo_add hS (gk_A hG hq))
  refine ⟨_, hcl, t_OB.to (V := updV (vp_V (zF G P M q ci)) j (cv G.1 (aR y))) ⟨_, e1, q2, q3, t_set q4 hap hjN _⟩ (fun i _ => ?_)⟩
  rw [vp_updV_set (by rw [zF_len]; exact (List.getElem?_eq_some_iff.mp ht).1)]
  congr 1
  rw [zF_set (G := G) (P := P) (P' := (sp P q (j : Int) (some y))) (M := M) (M' := M) (k := q) ht (fun i hi => by simp [sp, hi]) (fun i hi => by rfl)]
  congr 1
  simp [zV, sp, cv]
theorem zgoodc {y : MethodName} {b : ByteArray} {mL : Nat} {rt : Option FieldType} (h : Cond.code y b mL rt ∈ zt) : GoodIn zt (.code y b mL rt :: zt) := fun w hw => by
  rcases List.mem_cons.mp hw with rfl | hw
  · exact zgood _ h
  · exact zgood _ hw
theorem zblind {G : zG} (hG : GK G) {ar : List av} {lay : List zKd} {P : zP} {M : zM} : FrameBlind (fun v U => v = (ar.map (cv G.1)).toArray ∧ HR G lay P M U.heap ∧ KK G U) := fun a U g mk q => by
  obtain ⟨q1, q2, q3⟩ := q
  exact ⟨q1, q2, KK.call hG q3⟩
/-- what a virtual call links -/
def MV (own : String) (idx : Nat) (C : String) (y : MethodName) (md2 : zMd) (nA : Nat) : Prop := y.cls = C ∧ y.cls ≠ "java/lang/invoke/MethodHandle" ∧ y.cls ≠ "java/lang/invoke/VarHandle" ∧ (parseMethodDescriptor y.desc).map (fun d => d.parameters.length) = some nA ∧
  Cond.methodLink own idx y ∈ zt ∧ Cond.instanceMethod y ∈ zt ∧ Cond.selects C y y ∈ zt ∧ Cond.initialized C ∈ zt ∧ Cond.code y md2.2.2.1 md2.2.2.2.1 md2.2.2.2.2.1 ∈ zt
/-- what a static call links -/
def MS (own : String) (idx : Nat) (y : MethodName) (md2 : zMd) (nA : Nat) : Prop := y.cls = own ∧ y.cls ≠ "java/lang/invoke/MethodHandle" ∧ y.cls ≠ "java/lang/invoke/VarHandle" ∧ (parseMethodDescriptor y.desc).map (fun d => d.parameters.length) = some nA ∧
  Cond.methodLink own idx y ∈ zt ∧ Cond.static y ∈ zt ∧ Cond.initialized own ∈ zt ∧ Cond.code y md2.2.2.1 md2.2.2.2.1 md2.2.2.2.2.1 ∈ zt
/-- a caller has the callee's room -/
def RM (a b : zMd) : Prop := b.2.2.2.2.2.frames + 1 ≤ a.2.2.2.2.2.frames ∧ 8 + (b.2.2.2.1 + 11) + b.2.2.2.2.2.locals ≤ a.2.2.2.2.2.locals
def zcat1 (v : av) : Nat := match v with
  | .inr (.inl _) => 2
  | _ => 1
theorem zcat_eq (ad : Nat → Nat) (v : av) : (cv ad v).category = zcat1 v := by
  match v with
  | .inl i => rfl
  | .inr (.inl i) => rfl
  | .inr (.inr none) => rfl
  | .inr (.inr (some a)) => rfl
theorem zroom {G : zG} {m : MethodId} {pc : Nat} {lsA : Array Slot} {x : List Value} {st : List av} (h : (st.map zcat1).sum ≤ 8) : 2 * (F0 m pc lsA x).monitorRoom + ((st.map (cv G.1)).map fun v => v.category).sum ≤ 8 := by
  have e : ((st.map (cv G.1)).map fun v => v.category) = st.map zcat1 := by
    rw [List.map_map]
    exact List.map_congr_left (fun v _ => zcat_eq G.1 v)
  rw [e]
  simpa [JFrame.monitorRoom] using h
/-- what a static call of a nest mate links -/
def MSN (own : String) (idx : Nat) (host : String) (y : MethodName) (md2 : zMd) (nA : Nat) : Prop := y.cls ≠ "java/lang/invoke/MethodHandle" ∧ y.cls ≠ "java/lang/invoke/VarHandle" ∧ (parseMethodDescriptor y.desc).map (fun d => d.parameters.length) = some nA ∧
  Cond.methodLinkNest own idx y host ∈ zNest ∧ Cond.static y ∈ zt ∧ Cond.initialized y.cls ∈ zt ∧ Cond.code y md2.2.2.1 md2.2.2.2.1 md2.2.2.2.2.1 ∈ zt
/-- what a static call of any class links -/
def MSA (own : String) (idx : Nat) (y : MethodName) (md2 : zMd) (nA : Nat) : Prop := y.cls ≠ "java/lang/invoke/MethodHandle" ∧ y.cls ≠ "java/lang/invoke/VarHandle" ∧ (parseMethodDescriptor y.desc).map (fun d => d.parameters.length) = some nA ∧
  Cond.methodLink own idx y ∈ zt ∧ Cond.static y ∈ zt ∧ Cond.initialized y.cls ∈ zt ∧ Cond.code y md2.2.2.1 md2.2.2.2.1 md2.2.2.2.2.1 ∈ zt
theorem a_invSN {y : MethodName} {md2 : zMd} {idx nA : Nat} {C : String} {as : List av} {st0 : List av}  {Z2 : zZ} (d : decode md.2.2.1 pc = .ok (.invokestatic idx, 3)) (hm : MSN md.1 idx C y md2 nA) (hR : RM md md2)  (hn : as.length = nA) (hst : as.reverse ++ st = st0) (hcat : (st.map zcat1).sum ≤ 8) (hroom : k + md2.2.2.2.2.2.cells ≤ md.2.2.2.2.2.cells ∧ n + md2.2.2.2.2.2.slots ≤ md.2.2.2.2.2.slots) (hM : AM G l y md2 as lay P M Z2)
    (kk : ∀ (r : Option av) (lay' : List zKd) (P' : zP) (M' : zM), Z2 r lay' P' M' → AW G l md Z (pc + 3) ls (r.toList ++ st) lay' P' M' (k + md2.2.2.2.2.2.cells) (n + md2.2.2.2.2.2.slots)) : AW G l md Z (pc) ls (st0) lay P M (k) (n) := by
  intro hG p e s m args below meth c H locs lsA hC hl hH hS
  subst hst
  have hts := hC.2.2.2.2.2.2.1
  have hr := va_runSN (p := p) (l := l) (e := e) (R := md.2.2.2.2.2) (below := below) (meth := meth) (locs := locs) (cells := k) (slots := n) (g := F0 m pc lsA ((as.reverse ++ st).map (cv G.1))) (rest := st.map (cv G.1)) (As := as.map (cv G.1)) (n := nA) ⟨hC.1, hC.2.1, hC.2.2.1, hC.2.2.2.2.2.1, hts⟩ (hM hG)
    ⟨va_cnB nA hts (zgoodc hm.2.2.2.2.2.2) rfl rfl rfl (hC.2.2.2.2.2.2.2.1.2.1 _ hm.2.2.2.1) (hts _ hm.2.2.2.2.2.1) ⟨hm.1, hm.2.1, hm.2.2.1⟩ hR, hts _ hm.2.2.2.2.1, trivial⟩
    ⟨zblind hG, fun U hU hW => ⟨rfl, by rw [hU]; exact hH, KK.warm hG hW hC.2.2.2.2.2.2.2.1⟩⟩ rfl (by rw [List.length_map]; exact hn) hl.1 (by simp) (zroom hcat) d hroom
  intro T0 hT X
  obtain ⟨v, st₀, t, T', L, h0, X', hL, e1, e2, ⟨r, lay', P', M', hv, hz, hHt⟩, go⟩ := hr T0 hT X
  have hv' : v = r.map (cv G.1) := by cases hv; rfl
  subst hv'
  have h := kk r lay' P' M' hz hG p e s m args below meth c T'.heap (locs ++ L) lsA hC hl (by rw [e1]; exact hHt) (fun q hq => by
    rcases List.mem_append.mp hq with h | h
    · exact hS q h
    · exact hL q h)
  obtain ⟨t2, a1, b1⟩ := h T' rfl X'
  refine ⟨t2, go t2 ?_, b1⟩
  have e9 : ((r.toList ++ st).map (cv G.1)) = (r.map (cv G.1)).toList ++ st.map (cv G.1) := by cases r <;> simp
  rw [e9] at a1
  exact a1
theorem a_invSA {y : MethodName} {md2 : zMd} {idx nA : Nat} {C : String} {as : List av} {st0 : List av}  {Z2 : zZ} (d : decode md.2.2.1 pc = .ok (.invokestatic idx, 3)) (hm : MSA md.1 idx y md2 nA) (hR : RM md md2)  (hn : as.length = nA) (hst : as.reverse ++ st = st0) (hcat : (st.map zcat1).sum ≤ 8) (hroom : k + md2.2.2.2.2.2.cells ≤ md.2.2.2.2.2.cells ∧ n + md2.2.2.2.2.2.slots ≤ md.2.2.2.2.2.slots) (hM : AM G l y md2 as lay P M Z2)
    (kk : ∀ (r : Option av) (lay' : List zKd) (P' : zP) (M' : zM), Z2 r lay' P' M' → AW G l md Z (pc + 3) ls (r.toList ++ st) lay' P' M' (k + md2.2.2.2.2.2.cells) (n + md2.2.2.2.2.2.slots)) : AW G l md Z (pc) ls (st0) lay P M (k) (n) := by
  intro hG p e s m args below meth c H locs lsA hC hl hH hS
  subst hst
  have hts := hC.2.2.2.2.2.2.1
  have hr := va_runS (p := p) (l := l) (e := e) (R := md.2.2.2.2.2) (below := below) (meth := meth) (locs := locs) (cells := k) (slots := n) (g := F0 m pc lsA ((as.reverse ++ st).map (cv G.1))) (rest := st.map (cv G.1)) (As := as.map (cv G.1)) (n := nA) ⟨hC.1, hC.2.1, hC.2.2.1, hC.2.2.2.2.2.1, hts⟩ (hM hG)
    (va_cwS nA hts (fun w hw => by
      rcases List.mem_append.mp hw with hw | hw
      · simp only [List.mem_cons, List.not_mem_nil, or_false] at hw
        rcases hw with rfl | rfl | rfl
        · exact zgood _ hm.2.2.2.1
        · exact zgood _ hm.2.2.2.2.1
        · exact zgood _ hm.2.2.2.2.2.1
      · exact zgoodc hm.2.2.2.2.2.2 w hw) rfl rfl rfl ⟨hm.1, hm.2.1, hm.2.2.1⟩ hR)
    ⟨zblind hG, fun U hU hW => ⟨rfl, by rw [hU]; exact hH, KK.warm hG hW hC.2.2.2.2.2.2.2.1⟩⟩ rfl (by rw [List.length_map]; exact hn) hl.1 (by simp) (zroom hcat) d hroom
  intro T0 hT X
  obtain ⟨v, st₀, t, T', L, h0, X', hL, e1, e2, ⟨r, lay', P', M', hv, hz, hHt⟩, go⟩ := hr T0 hT X
  have hv' : v = r.map (cv G.1) := by cases hv; rfl
  subst hv'
  have h := kk r lay' P' M' hz hG p e s m args below meth c T'.heap (locs ++ L) lsA hC hl (by rw [e1]; exact hHt) (fun q hq => by
    rcases List.mem_append.mp hq with h | h
    · exact hS q h
    · exact hL q h)
  obtain ⟨t2, a1, b1⟩ := h T' rfl X'
  refine ⟨t2, go t2 ?_, b1⟩
  have e9 : ((r.toList ++ st).map (cv G.1)) = (r.map (cv G.1)).toList ++ st.map (cv G.1) := by cases r <;> simp
  rw [e9] at a1
  exact a1
theorem a_invV {y : MethodName} {md2 : zMd} {idx nA : Nat} {C : String} {as : List av} {st0 : List av} {q ci : Nat} {T : u_T} {N : Nat} {Z2 : zZ} (d : decode md.2.2.1 pc = .ok (.invokevirtual idx, 3)) (hm : MV md.1 idx C y md2 nA) (hR : RM md md2) (hk : lay[q]? = some (.inr ci)) (hc : vwCl[ci]? = some (C, T, N)) (hn : as.length = nA) (hst : as.reverse ++ aR q :: st = st0) (hcat : (st.map zcat1).sum ≤ 8) (hroom : k + md2.2.2.2.2.2.cells ≤ md.2.2.2.2.2.cells ∧ n + md2.2.2.2.2.2.slots ≤ md.2.2.2.2.2.slots) (hM : AM G l y md2 (aR q :: as) lay P M Z2)
    (kk : ∀ (r : Option av) (lay' : List zKd) (P' : zP) (M' : zM), Z2 r lay' P' M' → AW G l md Z (pc + 3) ls (r.toList ++ st) lay' P' M' (k + md2.2.2.2.2.2.cells) (n + md2.2.2.2.2.2.slots)) : AW G l md Z (pc) ls (st0) lay P M (k) (n) := by
  intro hG p e s m args below meth c H locs lsA hC hl hH hS
  subst hst
  have hts := hC.2.2.2.2.2.2.1
  have hr := va_runV (p := p) (l := l) (e := e) (R := md.2.2.2.2.2) (below := below) (meth := meth) (locs := locs) (cells := k) (slots := n) (g := F0 m pc lsA ((as.reverse ++ aR q :: st).map (cv G.1))) (rest := st.map (cv G.1)) (b := G.1 q) (As := as.map (cv G.1)) (n := nA) ⟨hC.1, hC.2.1, hC.2.2.1, hC.2.2.2.2.2.1, hts⟩ (hM hG)
    (cwV nA hts (fun w hw => by
      rcases List.mem_append.mp hw with hw | hw
      · simp only [List.mem_cons, List.not_mem_nil, or_false] at hw
        rcases hw with rfl | rfl | rfl | rfl
        · exact zgood _ hm.2.2.2.2.1
        · exact zgood _ hm.2.2.2.2.2.1
        · exact zgood _ hm.2.2.2.2.2.2.1
        · exact zgood _ hm.2.2.2.2.2.2.2.1
      · exact zgoodc hm.2.2.2.2.2.2.2.2 w hw) rfl rfl rfl ⟨hm.1, hm.2.1, hm.2.2.1, hm.2.2.2.1⟩ hR)
    ⟨zblind hG, va_recv (ws := [(G.1 q, zE G P M q (.inr ci))]) (q0 := 0) hC.2.2.2.2.2.2.2.1.1 (fun i x hx => by
      cases i with
      | zero => cases hx; exact (hH.ob hk)
      | succ i => cases hx) hc rfl, fun U hU hW => ⟨rfl, by rw [hU]; exact hH, KK.warm hG hW hC.2.2.2.2.2.2.2.1⟩⟩ rfl (by rw [List.length_map]; exact hn) hl.1 (by simp [cv_R]) (zroom hcat) d hroom
  intro T0 hT X
  obtain ⟨v, st₀, t, T', L, h0, X', hL, e1, e2, ⟨r, lay', P', M', hv, hz, hHt⟩, go⟩ := hr T0 hT X
  have hv' : v = r.map (cv G.1) := by cases hv; rfl
  subst hv'
  have h := kk r lay' P' M' hz hG p e s m args below meth c T'.heap (locs ++ L) lsA hC hl (by rw [e1]; exact hHt) (fun q hq => by
    rcases List.mem_append.mp hq with h | h
    · exact hS q h
    · exact hL q h)
  obtain ⟨t2, a1, b1⟩ := h T' rfl X'
  refine ⟨t2, go t2 ?_, b1⟩
  have e9 : ((r.toList ++ st).map (cv G.1)) = (r.map (cv G.1)).toList ++ st.map (cv G.1) := by cases r <;> simp
  rw [e9] at a1
  exact a1
theorem a_invS {y : MethodName} {md2 : zMd} {idx nA : Nat} {C : String} {as : List av} {st0 : List av}  {Z2 : zZ} (d : decode md.2.2.1 pc = .ok (.invokestatic idx, 3)) (hm : MS md.1 idx y md2 nA) (hR : RM md md2)  (hn : as.length = nA) (hst : as.reverse ++ st = st0) (hcat : (st.map zcat1).sum ≤ 8) (hroom : k + md2.2.2.2.2.2.cells ≤ md.2.2.2.2.2.cells ∧ n + md2.2.2.2.2.2.slots ≤ md.2.2.2.2.2.slots) (hM : AM G l y md2 as lay P M Z2)
    (kk : ∀ (r : Option av) (lay' : List zKd) (P' : zP) (M' : zM), Z2 r lay' P' M' → AW G l md Z (pc + 3) ls (r.toList ++ st) lay' P' M' (k + md2.2.2.2.2.2.cells) (n + md2.2.2.2.2.2.slots)) : AW G l md Z (pc) ls (st0) lay P M (k) (n) := by
  intro hG p e s m args below meth c H locs lsA hC hl hH hS
  subst hst
  have hts := hC.2.2.2.2.2.2.1
  have hr := va_runS (p := p) (l := l) (e := e) (R := md.2.2.2.2.2) (below := below) (meth := meth) (locs := locs) (cells := k) (slots := n) (g := F0 m pc lsA ((as.reverse ++ st).map (cv G.1))) (rest := st.map (cv G.1)) (As := as.map (cv G.1)) (n := nA) ⟨hC.1, hC.2.1, hC.2.2.1, hC.2.2.2.2.2.1, hts⟩ (hM hG)
    (cwS nA hts (fun w hw => by
      rcases List.mem_append.mp hw with hw | hw
      · simp only [List.mem_cons, List.not_mem_nil, or_false] at hw
        rcases hw with rfl | rfl | rfl
        · exact zgood _ hm.2.2.2.2.1
        · exact zgood _ hm.2.2.2.2.2.1
        · exact zgood _ hm.2.2.2.2.2.2.1
      · exact zgoodc hm.2.2.2.2.2.2.2 w hw) rfl rfl rfl ⟨hm.1, hm.2.1, hm.2.2.1, hm.2.2.2.1⟩ hR)
    ⟨zblind hG, fun U hU hW => ⟨rfl, by rw [hU]; exact hH, KK.warm hG hW hC.2.2.2.2.2.2.2.1⟩⟩ rfl (by rw [List.length_map]; exact hn) hl.1 (by simp) (zroom hcat) d hroom
  intro T0 hT X
  obtain ⟨v, st₀, t, T', L, h0, X', hL, e1, e2, ⟨r, lay', P', M', hv, hz, hHt⟩, go⟩ := hr T0 hT X
  have hv' : v = r.map (cv G.1) := by cases hv; rfl
  subst hv'
  have h := kk r lay' P' M' hz hG p e s m args below meth c T'.heap (locs ++ L) lsA hC hl (by rw [e1]; exact hHt) (fun q hq => by
    rcases List.mem_append.mp hq with h | h
    · exact hS q h
    · exact hL q h)
  obtain ⟨t2, a1, b1⟩ := h T' rfl X'
  refine ⟨t2, go t2 ?_, b1⟩
  have e9 : ((r.toList ++ st).map (cv G.1)) = (r.map (cv G.1)).toList ++ st.map (cv G.1) := by cases r <;> simp
  rw [e9] at a1
  exact a1
/-- an answer and a memory, told -/
def zdet (r : Option av) (lay : List zKd) (P : zP) (M : zM) : zZ := fun r' lay' P' M' => r' = r ∧ lay' = lay ∧ P' = P ∧ M' = M
theorem a_callV {y : MethodName} {md2 : zMd} {idx nA : Nat} {C : String} {as : List av} {st0 : List av} {q ci : Nat} {T : u_T} {N : Nat} {v : av} {P' : zP} {M' : zM} (d : decode md.2.2.1 pc = .ok (.invokevirtual idx, 3)) (hm : MV md.1 idx C y md2 nA) (hR : RM md md2) (hk : lay[q]? = some (.inr ci)) (hc : vwCl[ci]? = some (C, T, N)) (hn : as.length = nA) (hst : as.reverse ++ aR q :: st = st0) (hcat : (st.map zcat1).sum ≤ 8) (hz : md2.2.2.2.2.2.cells = 0 ∧ md2.2.2.2.2.2.slots = 0) (hkn : k ≤ md.2.2.2.2.2.cells ∧ n ≤ md.2.2.2.2.2.slots) (hM : AM G l y md2 (aR q :: as) lay P M (zdet (some v) lay P' M'))
    (kk : AW G l md Z (pc + 3) ls (v :: st) lay P' M' (k) (n)) : AW G l md Z (pc) ls (st0) lay P M (k) (n) := by
  refine a_invV d hm hR hk hc hn hst hcat (by rw [hz.1, hz.2]; exact hkn) hM ?_
  rintro r lay' P'' M'' ⟨rfl, rfl, rfl, rfl⟩
  rw [hz.1, hz.2]
  exact kk
theorem a_callS {y : MethodName} {md2 : zMd} {idx nA : Nat}  {as : List av} {st0 : List av}  {v : av} {P' : zP} {M' : zM} (d : decode md.2.2.1 pc = .ok (.invokestatic idx, 3)) (hm : MS md.1 idx y md2 nA) (hR : RM md md2)  (hn : as.length = nA) (hst : as.reverse ++ st = st0) (hcat : (st.map zcat1).sum ≤ 8) (hz : md2.2.2.2.2.2.cells = 0 ∧ md2.2.2.2.2.2.slots = 0) (hkn : k ≤ md.2.2.2.2.2.cells ∧ n ≤ md.2.2.2.2.2.slots) (hM : AM G l y md2 as lay P M (zdet (some v) lay P' M'))
    (kk : AW G l md Z (pc + 3) ls (v :: st) lay P' M' (k) (n)) : AW G l md Z (pc) ls (st0) lay P M (k) (n) := by
  refine a_invS (C := "") d hm hR  hn hst hcat (by rw [hz.1, hz.2]; exact hkn) hM ?_
  rintro r lay' P'' M'' ⟨rfl, rfl, rfl, rfl⟩
  rw [hz.1, hz.2]
  exact kk
theorem a_callSN {y : MethodName} {md2 : zMd} {idx nA : Nat} {C : String} {as : List av} {st0 : List av}  {v : av} {P' : zP} {M' : zM} (d : decode md.2.2.1 pc = .ok (.invokestatic idx, 3)) (hm : MSN md.1 idx C y md2 nA) (hR : RM md md2)  (hn : as.length = nA) (hst : as.reverse ++ st = st0) (hcat : (st.map zcat1).sum ≤ 8) (hz : md2.2.2.2.2.2.cells = 0 ∧ md2.2.2.2.2.2.slots = 0) (hkn : k ≤ md.2.2.2.2.2.cells ∧ n ≤ md.2.2.2.2.2.slots) (hM : AM G l y md2 as lay P M (zdet (some v) lay P' M'))
    (kk : AW G l md Z (pc + 3) ls (v :: st) lay P' M' (k) (n)) : AW G l md Z (pc) ls (st0) lay P M (k) (n) := by
  refine a_invSN (C := C) d hm hR  hn hst hcat (by rw [hz.1, hz.2]; exact hkn) hM ?_
  rintro r lay' P'' M'' ⟨rfl, rfl, rfl, rfl⟩
  rw [hz.1, hz.2]
  exact kk
theorem a_callSA {y : MethodName} {md2 : zMd} {idx nA : Nat}  {as : List av} {st0 : List av}  {v : av} {P' : zP} {M' : zM} (d : decode md.2.2.1 pc = .ok (.invokestatic idx, 3)) (hm : MSA md.1 idx y md2 nA) (hR : RM md md2)  (hn : as.length = nA) (hst : as.reverse ++ st = st0) (hcat : (st.map zcat1).sum ≤ 8) (hz : md2.2.2.2.2.2.cells = 0 ∧ md2.2.2.2.2.2.slots = 0) (hkn : k ≤ md.2.2.2.2.2.cells ∧ n ≤ md.2.2.2.2.2.slots) (hM : AM G l y md2 as lay P M (zdet (some v) lay P' M'))
    (kk : AW G l md Z (pc + 3) ls (v :: st) lay P' M' (k) (n)) : AW G l md Z (pc) ls (st0) lay P M (k) (n) := by
  refine a_invSA (C := "") d hm hR  hn hst hcat (by rw [hz.1, hz.2]; exact hkn) hM ?_
  rintro r lay' P'' M'' ⟨rfl, rfl, rfl, rfl⟩
  rw [hz.1, hz.2]
  exact kk
theorem a_callVv {y : MethodName} {md2 : zMd} {idx nA : Nat} {C : String} {as : List av} {st0 : List av} {q ci : Nat} {T : u_T} {N : Nat}  {P' : zP} {M' : zM} (d : decode md.2.2.1 pc = .ok (.invokevirtual idx, 3)) (hm : MV md.1 idx C y md2 nA) (hR : RM md md2) (hk : lay[q]? = some (.inr ci)) (hc : vwCl[ci]? = some (C, T, N)) (hn : as.length = nA) (hst : as.reverse ++ aR q :: st = st0) (hcat : (st.map zcat1).sum ≤ 8) (hz : md2.2.2.2.2.2.cells = 0 ∧ md2.2.2.2.2.2.slots = 0) (hkn : k ≤ md.2.2.2.2.2.cells ∧ n ≤ md.2.2.2.2.2.slots) (hM : AM G l y md2 (aR q :: as) lay P M (zdet none lay P' M'))
    (kk : AW G l md Z (pc + 3) ls (st) lay P' M' (k) (n)) : AW G l md Z (pc) ls (st0) lay P M (k) (n) := by
  refine a_invV d hm hR hk hc hn hst hcat (by rw [hz.1, hz.2]; exact hkn) hM ?_
  rintro r lay' P'' M'' ⟨rfl, rfl, rfl, rfl⟩
  rw [hz.1, hz.2]
  exact kk
theorem a_callSv {y : MethodName} {md2 : zMd} {idx nA : Nat}  {as : List av} {st0 : List av}   {P' : zP} {M' : zM} (d : decode md.2.2.1 pc = .ok (.invokestatic idx, 3)) (hm : MS md.1 idx y md2 nA) (hR : RM md md2)  (hn : as.length = nA) (hst : as.reverse ++ st = st0) (hcat : (st.map zcat1).sum ≤ 8) (hz : md2.2.2.2.2.2.cells = 0 ∧ md2.2.2.2.2.2.slots = 0) (hkn : k ≤ md.2.2.2.2.2.cells ∧ n ≤ md.2.2.2.2.2.slots) (hM : AM G l y md2 as lay P M (zdet none lay P' M'))
    (kk : AW G l md Z (pc + 3) ls (st) lay P' M' (k) (n)) : AW G l md Z (pc) ls (st0) lay P M (k) (n) := by
  refine a_invS (C := "") d hm hR  hn hst hcat (by rw [hz.1, hz.2]; exact hkn) hM ?_
  rintro r lay' P'' M'' ⟨rfl, rfl, rfl, rfl⟩
  rw [hz.1, hz.2]
  exact kk
theorem a_callSNv {y : MethodName} {md2 : zMd} {idx nA : Nat} {C : String} {as : List av} {st0 : List av}   {P' : zP} {M' : zM} (d : decode md.2.2.1 pc = .ok (.invokestatic idx, 3)) (hm : MSN md.1 idx C y md2 nA) (hR : RM md md2)  (hn : as.length = nA) (hst : as.reverse ++ st = st0) (hcat : (st.map zcat1).sum ≤ 8) (hz : md2.2.2.2.2.2.cells = 0 ∧ md2.2.2.2.2.2.slots = 0) (hkn : k ≤ md.2.2.2.2.2.cells ∧ n ≤ md.2.2.2.2.2.slots) (hM : AM G l y md2 as lay P M (zdet none lay P' M'))
    (kk : AW G l md Z (pc + 3) ls (st) lay P' M' (k) (n)) : AW G l md Z (pc) ls (st0) lay P M (k) (n) := by
  refine a_invSN (C := C) d hm hR  hn hst hcat (by rw [hz.1, hz.2]; exact hkn) hM ?_
  rintro r lay' P'' M'' ⟨rfl, rfl, rfl, rfl⟩
  rw [hz.1, hz.2]
  exact kk
theorem a_callSAv {y : MethodName} {md2 : zMd} {idx nA : Nat}  {as : List av} {st0 : List av}   {P' : zP} {M' : zM} (d : decode md.2.2.1 pc = .ok (.invokestatic idx, 3)) (hm : MSA md.1 idx y md2 nA) (hR : RM md md2)  (hn : as.length = nA) (hst : as.reverse ++ st = st0) (hcat : (st.map zcat1).sum ≤ 8) (hz : md2.2.2.2.2.2.cells = 0 ∧ md2.2.2.2.2.2.slots = 0) (hkn : k ≤ md.2.2.2.2.2.cells ∧ n ≤ md.2.2.2.2.2.slots) (hM : AM G l y md2 as lay P M (zdet none lay P' M'))
    (kk : AW G l md Z (pc + 3) ls (st) lay P' M' (k) (n)) : AW G l md Z (pc) ls (st0) lay P M (k) (n) := by
  refine a_invSA (C := "") d hm hR  hn hst hcat (by rw [hz.1, hz.2]; exact hkn) hM ?_
  rintro r lay' P'' M'' ⟨rfl, rfl, rfl, rfl⟩
  rw [hz.1, hz.2]
  exact kk
theorem zml {G : zG} {md : zMd} {p : Program} {s : State} {m : MethodId} {args : Array Value} {meth : Method} {c : Code} {lsA : Array Slot} {L : List (Nat × Value)} (hC : Cx G md p s m args meth c) (hl : lv_has lsA md.2.2.2.1 L) : c.maxLocals = lsA.size := hC.2.2.1.trans hl.1.symm
theorem zrm {G : zG} {st : List av} {a : Nat} (h : (st.map zcat1).sum ≤ 8) (h2 : 21 ≤ a) : ((st.map (cv G.1)).map fun v => v.category).sum + 13 ≤ a := by
  have e : ((st.map (cv G.1)).map fun v => v.category) = st.map zcat1 := by
    rw [List.map_map]
    exact List.map_congr_left (fun v _ => zcat_eq G.1 v)
  rw [e]; omega
theorem a_abs {x : Int} {idx : Nat} (d : decode md.2.2.1 pc = .ok (.invokestatic idx, 3)) (hw : Cond.methodLink md.1 idx Lib.Math.abs.name ∈ zt ∧ Cond.static Lib.Math.abs.name ∈ zt ∧ Cond.initialized "java/lang/Math" ∈ zt ∧ Cond.code Lib.Math.abs.name Lib.Math.abs.code 1 (some .int) ∈ zt) (hcat : (st.map zcat1).sum ≤ 8) (hR : 1 ≤ md.2.2.2.2.2.frames ∧ 21 ≤ md.2.2.2.2.2.locals) (hkn : k ≤ md.2.2.2.2.2.cells ∧ n ≤ md.2.2.2.2.2.slots) (hx : inR x) (kk : AW G l md Z (pc + 3) ls (aI (if 0 ≤ x then x else -x) :: st) lay P M (k) (n)) : AW G l md Z (pc) ls (aI x :: st) lay P M (k) (n) := by
  intro hG p e s m args below meth c H locs lsA hC hl hH hS
  have h := kk hG p e s m args below meth c H locs lsA hC hl hH hS
  have hts := hC.2.2.2.2.2.2.1
  refine va_mabs hC.1 hC.2.1 (zml hC hl) hC.2.2.2.2.2.1 (hts _ hw.1) (hts _ hw.2.1) (hts _ hw.2.2.1) (hts _ hw.2.2.2) hR.1 (zrm hcat hR.2) hkn.1 hkn.2 d ?_
  rw [List.map_cons, cv_I] at h
  rw [show (if 0 ≤ Int32.ofInt x then Int32.ofInt x else 0 - Int32.ofInt x) = Int32.ofInt (if 0 ≤ x then x else -x) from by
    have e := zle r0 hx
    rw [z0] at e
    by_cases q : 0 ≤ x
    · rw [if_pos q, if_pos (e.mpr q)]
    · rw [if_neg q, if_neg (fun z => q (e.mp z)), Int32.ofInt_neg, Int32.zero_sub]]
  exact h
theorem a_max {x y : Int} {idx : Nat} (d : decode md.2.2.1 pc = .ok (.invokestatic idx, 3)) (hw : Cond.methodLink md.1 idx Lib.Math.max.name ∈ zt ∧ Cond.static Lib.Math.max.name ∈ zt ∧ Cond.initialized "java/lang/Math" ∈ zt ∧ Cond.code Lib.Math.max.name Lib.Math.max.code 2 (some .int) ∈ zt) (hcat : (st.map zcat1).sum ≤ 8) (hR : 1 ≤ md.2.2.2.2.2.frames ∧ 21 ≤ md.2.2.2.2.2.locals) (hkn : k ≤ md.2.2.2.2.2.cells ∧ n ≤ md.2.2.2.2.2.slots) (hx : inR x) (hy : inR y) (kk : AW G l md Z (pc + 3) ls (aI (if x < y then y else x) :: st) lay P M (k) (n)) : AW G l md Z (pc) ls (aI y :: aI x :: st) lay P M (k) (n) := by
  intro hG p e s m args below meth c H locs lsA hC hl hH hS
  have h := kk hG p e s m args below meth c H locs lsA hC hl hH hS
  have hts := hC.2.2.2.2.2.2.1
  refine va_mmax hC.1 hC.2.1 (zml hC hl) hC.2.2.2.2.2.1 (hts _ hw.1) (hts _ hw.2.1) (hts _ hw.2.2.1) (hts _ hw.2.2.2) hR.1 (zrm hcat hR.2) hkn.1 hkn.2 d ?_
  rw [List.map_cons, cv_I] at h
  rw [show (if Int32.ofInt x < Int32.ofInt y then Int32.ofInt y else Int32.ofInt x) = Int32.ofInt (if x < y then y else x) from by
    have e := zlt hx hy
    by_cases q : x < y
    · rw [if_pos q, if_pos (e.mpr q)]
    · rw [if_neg q, if_neg (fun z => q (e.mp z))]]
  exact h
theorem a_min {x y : Int} {idx : Nat} (d : decode md.2.2.1 pc = .ok (.invokestatic idx, 3)) (hw : Cond.methodLink md.1 idx Lib.Math.min.name ∈ zt ∧ Cond.static Lib.Math.min.name ∈ zt ∧ Cond.initialized "java/lang/Math" ∈ zt ∧ Cond.code Lib.Math.min.name Lib.Math.min.code 2 (some .int) ∈ zt) (hcat : (st.map zcat1).sum ≤ 8) (hR : 1 ≤ md.2.2.2.2.2.frames ∧ 21 ≤ md.2.2.2.2.2.locals) (hkn : k ≤ md.2.2.2.2.2.cells ∧ n ≤ md.2.2.2.2.2.slots) (hx : inR x) (hy : inR y) (kk : AW G l md Z (pc + 3) ls (aI (if y < x then y else x) :: st) lay P M (k) (n)) : AW G l md Z (pc) ls (aI y :: aI x :: st) lay P M (k) (n) := by
  intro hG p e s m args below meth c H locs lsA hC hl hH hS
  have h := kk hG p e s m args below meth c H locs lsA hC hl hH hS
  have hts := hC.2.2.2.2.2.2.1
  refine va_mmin hC.1 hC.2.1 (zml hC hl) hC.2.2.2.2.2.1 (hts _ hw.1) (hts _ hw.2.1) (hts _ hw.2.2.1) (hts _ hw.2.2.2) hR.1 (zrm hcat hR.2) hkn.1 hkn.2 d ?_
  rw [List.map_cons, cv_I] at h
  rw [show (if Int32.ofInt y < Int32.ofInt x then Int32.ofInt y else Int32.ofInt x) = Int32.ofInt (if y < x then y else x) from by
    have e := zlt hy hx
    by_cases q : y < x
    · rw [if_pos q, if_pos (e.mpr q)]
    · rw [if_neg q, if_neg (fun z => q (e.mp z))]]
  exact h
end ZC
