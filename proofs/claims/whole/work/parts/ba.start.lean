section ZST
/-- the memory at the law's entry: the script, the ranks, noughts -/
def M0 (xs : Nat → Int32) : zM := fun k i => if k = 0 then (xs i.toNat).toInt else if k = 1 then rnk i else 0
theorem M0_s (xs : Nat → Int32) : M0S (M0 xs) := ⟨fun k hk i => by unfold M0; rw [if_neg (by omega), if_neg (by omega)], fun i _ _ => rfl⟩
theorem M0_F (xs : Nat → Int32) : FR (M0 xs) (fun _ _ => none) 2 := fun k hk => ⟨fun i => (M0_s xs).1 k hk i, fun i => rfl⟩
def adF (b t z : Nat) : Nat → Nat := fun k => match k with
  | 0 => b
  | 1 => t
  | k + 2 => z + k
def cAF (a0 a1 a2 a3 a4 a5 a6 : ClassId) : Nat → ClassId := fun k => match k with
  | 0 => a0
  | 1 => a1
  | 2 => a2
  | 3 => a3
  | 4 => a4
  | 5 => a5
  | _ => a6
theorem st_one {s : State} {args : Array Value} (hts : ∀ w ∈ lw_tbl, w.before args s = true) {ci N : Nat} {C : String} {T : u_T} (hc : CL ci C T N) (hi : (Cond.instantiable C N).before args s = true) : ∃ D : ClassId × (Nat → Nat), ∀ q : vw_C, vwCl[ci]? = some q → u_Kn s q.1 q.2.1 q.2.2 D.1 D.2 := by
  obtain ⟨cC, iS, h⟩ := u_known (ws := zt) (fun w hw => hts w (List.mem_filter.mp hw).1) hc.2.1 hi
  refine ⟨(cC, iS), fun q hq => ?_⟩
  rw [hc.1] at hq
  cases hq
  exact h
theorem st_cl {s : State} {args : Array Value} (hts : ∀ w ∈ lw_tbl, w.before args s = true) : ∃ D : va_G, ∀ (c : Nat) (q : vw_C), vwCl[c]? = some q → u_Kn s q.1 q.2.1 q.2.2 (D.1 c) (D.2 c) := by
  have h0 := st_one hts clX0 (hts _ (tm0 269 (by decide +kernel)))
  have h1 := st_one hts clX1 (hts _ (tm0 41 (by decide +kernel)))
  have h2 := st_one hts clX2 (hts _ (tm0 418 (by decide +kernel)))
  have h3 := st_one hts clX3 (hts _ (tm0 323 (by decide +kernel)))
  have h4 := st_one hts clX4 (hts _ (tm0 148 (by decide +kernel)))
  have h5 := st_one hts clX5 (hts _ (tm0 359 (by decide +kernel)))
  have h6 := st_one hts clX6 (hts _ (tm0 275 (by decide +kernel)))
  have h7 := st_one hts clX7 (hts _ (tm0 154 (by decide +kernel)))
  have h8 := st_one hts clX8 (hts _ (tm0 34 (by decide +kernel)))
  have h9 := st_one hts clX9 (hts _ (tm0 398 (by decide +kernel)))
  have h10 := st_one hts clX10 (hts _ (tm0 26 (by decide +kernel)))
  have h11 := st_one hts clX11 (hts _ (tm0 1234 (by decide +kernel)))
  have h : ∀ c : Nat, ∃ D : ClassId × (Nat → Nat), ∀ q : vw_C, vwCl[c]? = some q → u_Kn s q.1 q.2.1 q.2.2 D.1 D.2 := by
    intro c
    match c with
    | 0 => exact h0
    | 1 => exact h1
    | 2 => exact h2
    | 3 => exact h3
    | 4 => exact h4
    | 5 => exact h5
    | 6 => exact h6
    | 7 => exact h7
    | 8 => exact h8
    | 9 => exact h9
    | 10 => exact h10
    | 11 => exact h11
    | n + 12 =>
      obtain ⟨D, -⟩ := h0
      refine ⟨D, fun q hq => ?_⟩
      rw [List.getElem?_eq_none (show 12 ≤ n + 12 by omega)] at hq
      cases hq
  obtain ⟨f, hf⟩ := Classical.axiomOfChoice h
  exact ⟨(fun c => (f c).1, fun c => (f c).2), fun c q hq => hf c q hq⟩
theorem st_a {s : State} {args : Array Value} {ty : FieldType} (h : (Cond.arrayClass ty).before args s = true) : ∃ cA : ClassId, ArrOfT s cA ty ∧ s.vm.findClass ("[" ++ ty.toString) = some cA := by
  obtain ⟨c, k, comp, h1, h2, h3⟩ := Cond.arrayClass_spec h
  exact ⟨c, fun n z => ⟨fun k h => (by cases h), k, h2, comp, h3⟩, h1⟩
theorem st_o {s : State} {args : Array Value} {C : String} (h : (Cond.arrayOver (.object C)).before args s = true) : ∃ cA : ClassId, ArrOfT s cA (.object C) ∧ va_RA s cA (.object C) := by
  obtain ⟨comp, c, k, h1, h2, h3, h4, h5⟩ := Cond.arrayOver_spec h
  exact ⟨c, fun n z => ⟨fun k h => (by cases h), k, h3, comp, h4⟩, k, comp, h3, h4, h1, h5⟩
theorem st_nw {s : State} {args : Array Value} (hts : ∀ w ∈ lw_tbl, w.before args s = true) : ∀ w ∈ zNest, va_Nw w s := fun w hw => by
  have h1 := hts w (List.mem_filter.mp hw).1
  have h2 := (List.mem_filter.mp hw).2
  cases w <;> first | (cases h2; done) | exact va_Nw.of rfl h1
theorem st_A (s : State) : ∀ a : Nat, a < s.heap.size → ¬ (fun q => s.heap.size ≤ q) a := fun a ha h => Nat.not_le.mpr ha h
abbrev fg : List Cond := flatC (Jvm.Cond.and given_1 narrow_1)
theorem st_XH {s : State} {args : Array Value} (hts : ∀ w ∈ lw_tbl, w.before args s = true) (hf : ∀ w ∈ fg, w.before args s = true) : XH s.heap s := by
  obtain ⟨a1, -, -, -, q1, -⟩ := Cond.exactly_spec (args := args) (first := s) (o := none) (s := s) (idx := []) (t := .string RX10 127) (cls := "java/lang/String") (hf _ (by decide +kernel))
  obtain ⟨a2, -, -, -, q2, -⟩ := Cond.exactly_spec (args := args) (first := s) (o := none) (s := s) (idx := []) (t := .string RX10 156) (cls := "java/lang/String") (hf _ (by decide +kernel))
  refine ⟨⟨⟨a1, vk_R.of (hts _ (tm0 1191 (by decide +kernel))) q1⟩, ⟨a2, vk_R.of (hts _ (tm0 1226 (by decide +kernel))) q2⟩⟩, ⟨vx_Zqof (hts _ (tm0 1178 (by decide +kernel))) (hts _ (tm0 18 (by decide +kernel))) (hf _ (by decide +kernel)) (st_A s), vx_Zqof (hts _ (tm0 1180 (by decide +kernel))) (hts _ (tm0 18 (by decide +kernel))) (hf _ (by decide +kernel)) (st_A s)⟩, va_Nc.of (hf (Cond.not (.castable sNS sIO)) (by decide +kernel)), fun w hw => ?_⟩
  exact va_Nw.of ((show ∀ w ∈ xw, w.onTables = true by decide +kernel) w hw) (hts w ((show ∀ w ∈ xw, w ∈ lw_tbl by decide +kernel) w hw))
theorem st_e : ∀ j : Nat, j < 105 → (([wlL.map Int32.ofInt] : List (List Int32)).getD 0 []).getD j 0 = Int32.ofInt (wl j) := by decide +kernel
theorem st_l : ∀ j : Nat, j < 105 → Cond.eq (.elem (.field (.string RX7 27) "java/lang/String" "value" "[B") (.int (Int32.ofNat j))) (.int ((([wlL.map Int32.ofInt] : List (List Int32)).getD 0 []).getD j 0)) ∈ fg := by decide +kernel
theorem st_XT {s : State} {args : Array Value} (hts : ∀ w ∈ lw_tbl, w.before args s = true) (hf : ∀ w ∈ fg, w.before args s = true) : ∃ sa va : Nat, XT s.heap sa va s := by
  obtain ⟨adK, adV, hS, hE⟩ := vk_Sof (args := args) (s := s) (N := 1) (tm := fun _ => .string RX7 27) (len := [105]) (byt := [wlL.map Int32.ofInt]) (A := fun q => s.heap.size ≤ q)
    (fun i hi => by obtain rfl : i = 0 := by omega
                    decide)
    (fun i hi => hf _ (by decide +kernel)) (fun i hi => hf _ (by decide +kernel)) (fun i hi => hf _ (by decide +kernel))
    (fun i hi => by obtain rfl : i = 0 := by omega
                    exact hf _ (by decide +kernel))
    (fun i hi j hj => by obtain rfl : i = 0 := by omega
                         exact hf _ (st_l j hj))
    (fun i j hi hj hij => absurd (show i = j by omega) hij) (st_A s)
  obtain ⟨c1, c2, c3, c4⟩ := hS.1 0 (by decide)
  refine ⟨adK 0, adV 0, vk_R.of (hts _ (tm0 159 (by decide +kernel))) (hE 0 (by decide)), c1, c2, c3, ?_, va_Zof (hts _ (tm0 169 (by decide +kernel))) (hts _ (tm0 6 (by decide +kernel))) (va_eqt (hf _ (by decide +kernel))) (st_A s), va_Zqof (hts _ (tm0 177 (by decide +kernel))) (hts _ (tm0 8 (by decide +kernel))) (hf _ (by decide +kernel)) (st_A s)⟩
  obtain ⟨cell, e1, e2, e3, e4, e5, e6, e7⟩ := c4
  refine ⟨cell, e1, e2, e3, e4, e5, fun j hj => ?_, e7⟩
  show cell.slots[j]? = some (Value.int (Int32.ofInt (wl j)))
  rw [← st_e j hj]
  exact e6 j hj
theorem st_r : ∀ j : Nat, j < 14 → Cond.eq (.elem (.static "StaticDial$Reader" "RANKS" "[I") (.int (Int32.ofNat j))) (.int (Int32.ofInt (rnk (j : Int)))) ∈ fg := by decide +kernel
theorem st_R {s : State} {args : Array Value} (hts : ∀ w ∈ lw_tbl, w.before args s = true) (hf : ∀ w ∈ fg, w.before args s = true) : ∃ t : Nat, va_T .int t 14 (fun j => .int (Int32.ofInt (rnk (j : Int)))) (fun q => s.heap.size ≤ q) s s.heap ∧ va_Z "StaticDial$Reader" "RANKS" "[I" (.ref t) (fun q => s.heap.size ≤ q) s s.heap := by
  obtain ⟨t, h1, h2⟩ := va_Tof (args := args) (s := s) (tm := .static "StaticDial$Reader" "RANKS" "[I") (ty := .int) (N := 14) (f := fun j => .int (Int32.ofInt (rnk (j : Int)))) (A := fun q => s.heap.size ≤ q) (by decide) (hf _ (by decide +kernel)) (va_eqt (hf _ (by decide +kernel))) (fun j hj => va_eqt (hf _ (st_r j hj))) (st_A s)
  exact ⟨t, h2, va_Zof (hts _ (tm0 647 (by decide +kernel))) (hts _ (tm0 4 (by decide +kernel))) h1 (st_A s)⟩
theorem st_k : ∀ n : Nat, n < 14 → -2147483648 ≤ rnkL.getD n 0 ∧ rnkL.getD n 0 < 2147483648 := by decide
/-- the world at the law's entry -/
theorem st_ok {p : Program} {s : State} {m : MethodId} {meth : Method} {c : Code} {b L : Nat} {xs : Nat → Int32} (C0 : lw_At p s m meth c b L xs) : ∃ (G : zG) (sa va : Nat), G.2.2.2.1 = s.heap ∧ G.1 0 = b ∧ GK G ∧ KK G s ∧ HR G ((LAY L).take 2) (fun _ _ => none) (M0 xs) s.heap ∧ (∀ U, G.2.2.2.2 U → XH G.2.2.2.1 U) ∧ ∀ U, G.2.2.2.2 U → XT G.2.2.2.1 sa va U := by
  obtain ⟨-, -, -, -, -, hts, ⟨scr, x1, x2, x3, x4, x5⟩, hb, -, hgv⟩ := C0
  have hf := flat_of_before _ hgv
  obtain ⟨sa, va, hXT⟩ := st_XT hts hf
  have hXH := st_XH hts hf
  obtain ⟨t, ⟨rc, r1, r2, r3, r4, r5, r6, r7⟩, hZ⟩ := st_R hts hf
  obtain ⟨D, hD⟩ := st_cl hts
  obtain ⟨a0, u0, w0⟩ := st_a (ty := .int) (hts _ (tm0 58 (by decide +kernel)))
  obtain ⟨a1, u1, w1⟩ := st_a (ty := .boolean) (hts _ (tm0 59 (by decide +kernel)))
  obtain ⟨a2, u2, w2⟩ := st_a (ty := .long) (hts _ (tm0 292 (by decide +kernel)))
  obtain ⟨a3, u3, w3⟩ := st_o (C := "StaticDial$Law") (hts _ (tm0 40 (by decide +kernel)))
  obtain ⟨a4, u4, w4⟩ := st_o (C := "StaticDial$State") (hts _ (tm0 404 (by decide +kernel)))
  refine ⟨(adF b t s.heap.size, D, cAF a0 a1 a2 a3 a4 scr.cls rc.cls, s.heap, fun U => XH s.heap U ∧ XT s.heap sa va U), sa, va, rfl, rfl, ⟨fun k => rfl, ⟨hb, (Array.getElem?_eq_some_iff.mp r1).1⟩, fun s9 U hW h => ⟨h.1.warm hW, h.2.warm hW⟩, fun U g mk a h => ⟨h.1.call, h.2.call⟩⟩, ⟨⟨hD, fun k q hk => ?_⟩, st_nw hts, ⟨⟨va_AO.of (hts _ (tm0 40 (by decide +kernel))), fun n z => ⟨fun k h => (by cases h), x2.2⟩, fun n z => ⟨fun k h => (by cases h), r2.2⟩⟩, va_AO.of (hts _ (tm0 404 (by decide +kernel)))⟩, hZ, hXH, hXT⟩, ⟨⟨?_, Or.inl ?_, fun q hq => rfl⟩, fun k kd hk => ?_⟩, fun U h => h.1, fun U h => h.2⟩
  · match k, hk with
    | 0, hk => cases hk; exact ⟨u0, w0⟩
    | 1, hk => cases hk; exact ⟨u1, w1⟩
    | 2, hk => cases hk; exact ⟨u2, w2⟩
    | 3, hk => cases hk; exact ⟨u3, w3⟩
    | 4, hk => cases hk; exact ⟨u4, w4⟩
    | n + 5, hk => rw [List.getElem?_eq_none (show 5 ≤ n + 5 by omega)] at hk; cases hk
  · exact Nat.le_refl 2
  · rfl
  · match k, hk with
    | 0, hk =>
      cases hk
      refine ⟨Or.inr ⟨by decide, L, scr, rfl, x1, x2.1, x3, Nat.le_of_eq x4.symm, by rw [x4], fun j hj => ?_, rfl⟩, fun i _ _ => ⟨?_, ?_⟩⟩
      · rw [x5 j hj]
        show _ = some (Value.int (Int32.ofInt ((xs j).toInt)))
        rw [Int32.ofInt_toInt]
      · exact Int32.le_toInt _
      · exact Int32.toInt_lt _
    | 1, hk =>
      cases hk
      exact ⟨Or.inr ⟨by decide, 14, rc, rfl, r1, r2.1, r3, r4, r5, r6, rfl⟩, fun i h0 h1 => st_k i.toNat (by have : i < 14 := h1; omega)⟩
    | n + 2, hk => rw [List.getElem?_eq_none (show ((LAY L).take 2).length ≤ n + 2 from Nat.le_add_left 2 n)] at hk; cases hk
end ZST
