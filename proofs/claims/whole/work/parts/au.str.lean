section ZST
abbrev sTX : String := "houseturn soundnear oftenfade seed law  reachlearndriftor   and  not  dial gain far  kind heardknowshour "
def wlL : List Int := [104, 111, 117, 115, 101, 116, 117, 114, 110, 32, 115, 111, 117, 110, 100, 110, 101, 97, 114, 32, 111, 102, 116, 101, 110, 102, 97, 100, 101, 32, 115, 101, 101, 100, 32, 108, 97, 119, 32, 32, 114, 101, 97, 99, 104, 108, 101, 97, 114, 110, 100, 114, 105, 102, 116, 111, 114, 32, 32, 32, 97, 110, 100, 32, 32, 110, 111, 116, 32, 32, 100, 105, 97, 108, 32, 103, 97, 105, 110, 32, 102, 97, 114, 32, 32, 107, 105, 110, 100, 32, 104, 101, 97, 114, 100, 107, 110, 111, 119, 115, 104, 111, 117, 114, 32]
def wl (j : Nat) : Int := wlL.getD j 0
/-- the constant's cells, as every state has them -/
def XT (H0 : Heap) (sa va : Nat) (U : State) : Prop := vk_R RX7 27 sTX sa U ∧ va_O "java/lang/String" sa (fun q => H0.size ≤ q) U H0 ∧ va_OF "java/lang/String" "coder" "B" (.int 0) sa (fun q => H0.size ≤ q) U H0 ∧ va_OF "java/lang/String" "value" "[B" (.ref va) sa (fun q => H0.size ≤ q) U H0 ∧ va_T .byte va 105 (fun j => .int (Int32.ofInt (wl j))) (fun q => H0.size ≤ q) U H0 ∧ va_Z "java/lang/String" "COMPACT_STRINGS" "Z" (.int 1) (fun q => H0.size ≤ q) U H0 ∧ va_Zq "jdk/internal/util/Preconditions" "SIOOBE_FORMATTER" "Ljava/util/function/BiFunction;" (fun q => H0.size ≤ q) U H0
theorem XT.warm {H0 : Heap} {sa va : Nat} {s U : State} (hW : s.WarmedH U.vm) (h : XT H0 sa va s) : XT H0 sa va U := by
  obtain ⟨h1, h2, h3, h4, h5, h6, h7⟩ := h
  exact ⟨vk_R.warm hW h1, va_O.moved hW.alike h2, va_OF.moved hW.alike h3, va_OF.moved hW.alike h4, va_T.moved hW.alike h5, va_Z.moved hW.alike h6, va_Zq.moved hW.alike h7⟩
theorem XT.call {H0 : Heap} {sa va : Nat} {U : State} {g : JFrame} {mk : MethodId} {a : Array Value} (h : XT H0 sa va U) : XT H0 sa va (U.calling g mk a) := by
  have hv : (U.calling g mk a).vm = U.vm := rfl
  have ha : U.vm.Alike (U.calling g mk a).vm := Vm.Alike.refl U.vm
  obtain ⟨h1, h2, h3, h4, h5, h6, h7⟩ := h
  exact ⟨vk_R.same hv h1, va_O.moved ha h2, va_OF.moved ha h3, va_OF.moved ha h4, va_T.moved ha h5, va_Z.moved ha h6, va_Zq.moved ha h7⟩
/-- a contract of a method that makes and writes nothing -/
def SM (G : zG) (l : Launch) (y : MethodName) (md : zMd) (ar : List Value) (res : Option Value) : Prop :=
  GK G → Met l y (.code y md.2.2.1 md.2.2.2.1 md.2.2.2.2.1 :: zt) md.2.2.2.2.2 (fun v U => v = ar.toArray ∧ KK G U ∧ ∀ q, q < G.2.2.2.1.size → U.heap[q]? = G.2.2.2.1[q]?) (fun _ s o t => o = .returned res ∧ t.heap = s.heap) md.2.2.2.2.2.cells md.2.2.2.2.2.slots (fun _ => False)
abbrev smQ (res : Option Value) : Array Value → State → Outcome → State → Prop := fun _ s o t => o = .returned res ∧ t.heap = s.heap
theorem SM.of {G : zG} {l : Launch} {y : MethodName} {md : zMd} {ar : List Value} {res : Option Value} (hy : plainName y.cls = true) (ho : y.cls = md.1) (hn : y.name = md.2.1) (hlen : (lg_sl ar).length ≤ md.2.2.2.1)
    (h : GK G → ∀ (p : Program) (e : Env) (s : State) (m : MethodId) (args : Array Value) (below : List Frame) (meth : Method) (c : Code) (lsA : Array Slot), Cx G md p s m args meth c → lv_has lsA md.2.2.2.1 (lv_args 0 ar) → W p l e md.2.2.2.2.2 s m args below meth c s.heap [] 0 0 (MQ below (smQ res) args s md.2.2.2.2.2.cells md.2.2.2.2.2.slots (fun _ => False)) (F0 m 0 lsA [])) : SM G l y md ar res := by
  intro hG
  refine Met.ofW (cc := md.2.2.1) (maxL := md.2.2.2.1) (ret := md.2.2.2.2.1) hy rfl ?_
  intro p e s m args below meth c s₁ B hml hv
  obtain ⟨rfl, hK, hH⟩ := hv
  have hts := atoms_spec (ws := .code y md.2.2.1 md.2.2.2.1 md.2.2.2.2.1 :: zt) B.pre
  have hown : s.vm.findClass y.cls = some m.cls := findClass_of_methodNamed B.named
  have hl := lv_entry ar (n := md.2.2.2.1) hlen
  rw [lg_entry_eq]
  exact h hG p e s m _ below meth c _ ⟨B.exec, B.bytes, hml, B.returns, B.notSynchronized, ho ▸ hown, fun w hw => hts w (List.mem_cons_of_mem _ hw), hK, (name_of_methodNamed B.named B.method).1.trans hn, hH⟩ hl
theorem smBlind {G : zG} (hG : GK G) {ar : List Value} : FrameBlind (fun v U => v = ar.toArray ∧ KK G U ∧ ∀ q, q < G.2.2.2.1.size → U.heap[q]? = G.2.2.2.1[q]?) := fun a U g mk q => by
  obtain ⟨q1, q2, q3⟩ := q
  exact ⟨q1, KK.call hG q2, q3⟩
section ZSTa
variable {G : zG} {l : Launch} {md md2 : zMd} {y : MethodName} {idx nA pc : Nat} {p : Program} {e : Env} {s : State} {m : MethodId} {args : Array Value} {below : List Frame} {meth : Method} {c : Code} {lsA : Array Slot} {Q : State → Prop} {As : List Value} {res : Option Value} {H : Heap} {locs : List Loc} {k n : Nat} {rest : List Value}
theorem s_S {st0 : List Value} (hG : GK G) (hC : Cx G md p s m args meth c) (hsz : lsA.size = md.2.2.2.1) (hH : ∀ q, q < G.2.2.2.1.size → H[q]? = G.2.2.2.1[q]?) (d : decode md.2.2.1 pc = .ok (.invokestatic idx, 3)) (hm : MSA md.1 idx y md2 nA) (hR : RM md md2) (hn : As.length = nA) (hst : As.reverse = st0) (hz : md2.2.2.2.2.2.cells = 0 ∧ md2.2.2.2.2.2.slots = 0) (hk : k ≤ md.2.2.2.2.2.cells ∧ n ≤ md.2.2.2.2.2.slots) (hM : SM G l y md2 As res)
    (kk : W p l e md.2.2.2.2.2 s m args below meth c H locs k n Q (F0 m (pc + 3) lsA res.toList)) : W p l e md.2.2.2.2.2 s m args below meth c H locs k n Q (F0 m pc lsA st0) := by
  subst hst
  have hts := hC.2.2.2.2.2.2.1
  have hr := va_runS (p := p) (l := l) (e := e) (R := md.2.2.2.2.2) (below := below) (meth := meth) (H := H) (locs := locs) (cells := k) (slots := n) (g := F0 m pc lsA As.reverse) (rest := []) (As := As) (n := nA) ⟨hC.1, hC.2.1, hC.2.2.1, hC.2.2.2.2.2.1, hts⟩ (hM hG)
    (va_cwS nA hts (fun w hw => by
      rcases List.mem_append.mp hw with hw | hw
      · simp only [List.mem_cons, List.not_mem_nil, or_false] at hw
        rcases hw with rfl | rfl | rfl
        · exact zgood _ hm.2.2.2.1
        · exact zgood _ hm.2.2.2.2.1
        · exact zgood _ hm.2.2.2.2.2.1
      · exact zgoodc hm.2.2.2.2.2.2 w hw) rfl rfl rfl ⟨hm.1, hm.2.1, hm.2.2.1⟩ hR)
    ⟨smBlind hG, fun U hU hW => ⟨rfl, KK.warm hG hW hC.2.2.2.2.2.2.2.1, by rw [hU]; exact hH⟩⟩ rfl hn hsz (by simp) (Nat.zero_le _) d (by rw [hz.1, hz.2]; exact hk)
  intro T0 hT X
  obtain ⟨v, st₀, t, T', L, h0, X', hL, e1, e2, ⟨hv, hh⟩, go⟩ := hr T0 hT X
  have hL0 : L = [] := List.eq_nil_iff_forall_not_mem.mpr (fun a ha => hL a ha)
  subst hL0
  rw [List.append_nil, hz.1, hz.2] at X'
  cases hv
  obtain ⟨t2, a1, b1⟩ := kk T' (by rw [e1, hh, h0]) X'
  refine ⟨t2, go t2 ?_, b1⟩
  rw [List.append_nil]
  exact a1
theorem s_V {b : Nat} {C : String} {st0 : List Value} (hG : GK G) (hC : Cx G md p s m args meth c) (hsz : lsA.size = md.2.2.2.1) (hH : ∀ q, q < G.2.2.2.1.size → H[q]? = G.2.2.2.1[q]?) (d : decode md.2.2.1 pc = .ok (.invokevirtual idx, 3)) (hm : MV md.1 idx C y md2 nA) (hR : RM md md2) (hb : ∃ cellB : Cell, H[b]? = some cellB ∧ cellB.vm.isStatics = false ∧ s.vm.findClass C = some cellB.cls) (hn : As.length = nA) (hst : As.reverse ++ [.ref b] = st0) (hz : md2.2.2.2.2.2.cells = 0 ∧ md2.2.2.2.2.2.slots = 0) (hk : k ≤ md.2.2.2.2.2.cells ∧ n ≤ md.2.2.2.2.2.slots) (hM : SM G l y md2 (.ref b :: As) res)
    (kk : W p l e md.2.2.2.2.2 s m args below meth c H locs k n Q (F0 m (pc + 3) lsA res.toList)) : W p l e md.2.2.2.2.2 s m args below meth c H locs k n Q (F0 m pc lsA st0) := by
  subst hst
  have hts := hC.2.2.2.2.2.2.1
  have hr := va_runV (p := p) (l := l) (e := e) (R := md.2.2.2.2.2) (below := below) (meth := meth) (H := H) (locs := locs) (cells := k) (slots := n) (g := F0 m pc lsA (As.reverse ++ [.ref b])) (rest := []) (b := b) (As := As) (n := nA) ⟨hC.1, hC.2.1, hC.2.2.1, hC.2.2.2.2.2.1, hts⟩ (hM hG)
    (cwV nA hts (fun w hw => by
      rcases List.mem_append.mp hw with hw | hw
      · simp only [List.mem_cons, List.not_mem_nil, or_false] at hw
        rcases hw with rfl | rfl | rfl | rfl
        · exact zgood _ hm.2.2.2.2.1
        · exact zgood _ hm.2.2.2.2.2.1
        · exact zgood _ hm.2.2.2.2.2.2.1
        · exact zgood _ hm.2.2.2.2.2.2.2.1
      · exact zgoodc hm.2.2.2.2.2.2.2.2 w hw) rfl rfl rfl ⟨hm.1, hm.2.1, hm.2.2.1, hm.2.2.2.1⟩ hR)
    ⟨smBlind hG, hb, fun U hU hW => ⟨rfl, KK.warm hG hW hC.2.2.2.2.2.2.2.1, by rw [hU]; exact hH⟩⟩ rfl hn hsz rfl (Nat.zero_le _) d (by rw [hz.1, hz.2]; exact hk)
  intro T0 hT X
  obtain ⟨v, st₀, t, T', L, h0, X', hL, e1, e2, ⟨hv, hh⟩, go⟩ := hr T0 hT X
  have hL0 : L = [] := List.eq_nil_iff_forall_not_mem.mpr (fun a ha => hL a ha)
  subst hL0
  rw [List.append_nil, hz.1, hz.2] at X'
  cases hv
  obtain ⟨t2, a1, b1⟩ := kk T' (by rw [e1, hh, h0]) X'
  refine ⟨t2, go t2 ?_, b1⟩
  rw [List.append_nil]
  exact a1
end ZSTa
abbrev mdJ3_checkIndex_8e157 : zMd := (RJ3, "checkIndex", cJ3_checkIndex_8e157, 3, some .int, rmd 1)
theorem kcJ3_checkIndex_8e157 : Cond.code yJ3_checkIndex_8e157 cJ3_checkIndex_8e157 3 (some .int) ∈ zt := zmem (tm0 180 (by decide +kernel)) rfl
abbrev mdJ0_checkIndex_df160 : zMd := (RJ0, "checkIndex", cJ0_checkIndex_df160, 2, none, rmd 2)
theorem kcJ0_checkIndex_df160 : Cond.code yJ0_checkIndex_df160 cJ0_checkIndex_df160 2 (none) ∈ zt := zmem (tm0 175 (by decide +kernel)) rfl
abbrev mdJ1_charAt_3b067 : zMd := (RJ1, "charAt", cJ1_charAt_3b067, 2, some .char, rmd 3)
theorem kcJ1_charAt_3b067 : Cond.code yJ1_charAt_3b067 cJ1_charAt_3b067 2 (some .char) ∈ zt := zmem (tm0 172 (by decide +kernel)) rfl
abbrev mdJ0_isLatin1_aae02 : zMd := (RJ0, "isLatin1", cJ0_isLatin1_aae02, 1, some .boolean, rmd 1)
theorem kcJ0_isLatin1_aae02 : Cond.code yJ0_isLatin1_aae02 cJ0_isLatin1_aae02 1 (some .boolean) ∈ zt := zmem (tm0 167 (by decide +kernel)) rfl
abbrev mdJ0_charAt_5068e : zMd := (RJ0, "charAt", cJ0_charAt_5068e, 2, some .char, rmd 4)
theorem kcJ0_charAt_5068e : Cond.code yJ0_charAt_5068e cJ0_charAt_5068e 2 (some .char) ∈ zt := zmem (tm0 163 (by decide +kernel)) rfl
theorem msJ0_1059 : MSA RJ0 1059 yJ3_checkIndex_8e157 mdJ3_checkIndex_8e157 3 := ⟨by decide, by decide, by decide +kernel, zmem (tm0 178 (by decide +kernel)) rfl, zmem (tm0 179 (by decide +kernel)) rfl, zmem (tm0 8 (by decide +kernel)) rfl, kcJ3_checkIndex_8e157⟩
theorem msJ1_9 : MSA RJ1 9 yJ0_checkIndex_df160 mdJ0_checkIndex_df160 2 := ⟨by decide, by decide, by decide +kernel, zmem (tm0 173 (by decide +kernel)) rfl, zmem (tm0 174 (by decide +kernel)) rfl, zmem (tm0 6 (by decide +kernel)) rfl, kcJ0_checkIndex_df160⟩
theorem msJ0_495 : MSA RJ0 495 yJ1_charAt_3b067 mdJ1_charAt_3b067 2 := ⟨by decide, by decide, by decide +kernel, zmem (tm0 170 (by decide +kernel)) rfl, zmem (tm0 171 (by decide +kernel)) rfl, zmem (tm0 7 (by decide +kernel)) rfl, kcJ1_charAt_3b067⟩
theorem mvJ0_492 : MV RJ0 492 RJ0 yJ0_isLatin1_aae02 mdJ0_isLatin1_aae02 0 := ⟨rfl, by decide, by decide, by decide +kernel, zmem (tm0 164 (by decide +kernel)) rfl, zmem (tm0 165 (by decide +kernel)) rfl, zmem (tm0 166 (by decide +kernel)) rfl, zmem (tm0 6 (by decide +kernel)) rfl, kcJ0_isLatin1_aae02⟩
theorem mvX7_29 : MV RX7 29 RJ0 yJ0_charAt_5068e mdJ0_charAt_5068e 1 := ⟨rfl, by decide, by decide, by decide +kernel, zmem (tm0 160 (by decide +kernel)) rfl, zmem (tm0 161 (by decide +kernel)) rfl, zmem (tm0 162 (by decide +kernel)) rfl, zmem (tm0 6 (by decide +kernel)) rfl, kcJ0_charAt_5068e⟩
theorem fw_cs : Cond.fieldLink RJ0 38 "java/lang/String" "COMPACT_STRINGS" "Z" ∈ zt := zmem (tm0 168 (by decide +kernel)) rfl
theorem fw_co : Cond.fieldLink RJ0 15 "java/lang/String" "coder" "B" ∈ zt := zmem (tm0 1963 (by decide +kernel)) rfl
theorem fw_va : Cond.fieldLink RJ0 9 "java/lang/String" "value" "[B" ∈ zt := zmem (tm0 1964 (by decide +kernel)) rfl
theorem fw_fm : Cond.fieldLink RJ0 1053 "jdk/internal/util/Preconditions" "SIOOBE_FORMATTER" "Ljava/util/function/BiFunction;" ∈ zt := zmem (tm0 176 (by decide +kernel)) rfl
theorem wl_f : ∀ j, j < 105 → ((Int32.ofInt (wl j) &&& 255).toUInt32 % 65536).toInt32 = Int32.ofInt (wl j) ∧ narrow .char (.int (Int32.ofInt (wl j))) = .int (Int32.ofInt (wl j)) := by decide +kernel
theorem st_in {j : Nat} (h : j < 105) : ¬ Int32.ofInt (j : Int) < 0 ∧ Int32.ofInt (j : Int) < 105 := by
  refine ⟨?_, ?_⟩
  · rw [Int32.lt_iff_toInt_lt, z32 ⟨by omega, by omega⟩]; simp
  · rw [Int32.lt_iff_toInt_lt, z32 ⟨by omega, by omega⟩]; show (j : Int) < 105; omega
theorem st_S {G : zG} {md : zMd} {p : Program} {s : State} {m : MethodId} {args : Array Value} {meth : Method} {c : Code} (hC : Cx G md p s m args meth c) : ∀ a : Nat, a < G.2.2.2.1.size → ¬ (G.2.2.2.1.size ≤ a) → s.heap[a]? = G.2.2.2.1[a]? := fun a ha _ => hC.2.2.2.2.2.2.2.2.2 a ha
theorem st_va {s : State} {A : Nat → Prop} : va_S A s.heap s.heap [] := ⟨Nat.le_refl _, fun _ _ _ => rfl, fun _ h => absurd h List.not_mem_nil⟩
theorem n_J3 {G : zG} {l : Launch} {j : Nat} {f : Value} (h : j < 105) (hf : f = .null ∨ ∃ t, f = .ref t) : SM G l yJ3_checkIndex_8e157 mdJ3_checkIndex_8e157 [.int (Int32.ofInt (j : Int)), .int 105, f] (some (.int (Int32.ofInt (j : Int)))) := by
  refine SM.of (by decide) rfl rfl (by rcases hf with rfl | ⟨t, rfl⟩ <;> exact Nat.le_of_ble_eq_true rfl) ?_
  intro hG p e s m args below meth c lsA hC hl
  have e0 : lsA[0]? = some (.val (.int (Int32.ofInt (j : Int)))) := hl.2.2 (0, _) (by simp [lv_args])
  have e1 : lsA[1]? = some (.val (.int 105)) := hl.2.2 (1, _) (by simp [lv_args, Value.category])
  refine lv_iload_n hC.1 hC.2.1 dJ3_checkIndex_8e157_0 rfl e0 ?_
  refine lv_if_lt (tgt := 9) hC.1 hC.2.1 dJ3_checkIndex_8e157_1 (by decide) (fun z => absurd z (st_in h).1) (fun _ => ?_)
  refine lv_iload_n hC.1 hC.2.1 dJ3_checkIndex_8e157_4 rfl e0 ?_
  refine lv_iload_n hC.1 hC.2.1 dJ3_checkIndex_8e157_5 rfl e1 ?_
  refine lv_icmp_lt (tgt := 16) hC.1 hC.2.1 dJ3_checkIndex_8e157_6 (by decide) (fun _ => ?_) (fun z => absurd (st_in h).2 z)
  refine lv_iload_n hC.1 hC.2.1 dJ3_checkIndex_8e157_16 rfl e0 ?_
  exact W.iret hC.1 hC.2.1 hC.2.2.2.1 (fun t ht _ => ⟨rfl, ht⟩) (fun _ h => absurd h List.not_mem_nil) dJ3_checkIndex_8e157_17 hC.2.2.2.2.1
theorem n_J0c {G : zG} {l : Launch} {sa va j : Nat} (hX : ∀ U, G.2.2.2.2 U → XT G.2.2.2.1 sa va U) (h : j < 105) : SM G l yJ0_checkIndex_df160 mdJ0_checkIndex_df160 [.int (Int32.ofInt (j : Int)), .int 105] none := by
  refine SM.of (by decide) rfl rfl (Nat.le_of_ble_eq_true rfl) ?_
  intro hG p e s m args below meth c lsA hC hl
  have e0 : lsA[0]? = some (.val (.int (Int32.ofInt (j : Int)))) := hl.2.2 (0, _) (by simp [lv_args])
  have e1 : lsA[1]? = some (.val (.int 105)) := hl.2.2 (1, _) (by simp [lv_args, Value.category])
  have hts := hC.2.2.2.2.2.2.1
  have hz := (hX s hC.2.2.2.2.2.2.2.1.2.2.2.2).2.2.2.2.2.2.kept (st_S hC)
  refine lv_iload_n hC.1 hC.2.1 dJ0_checkIndex_df160_0 rfl e0 ?_
  refine lv_iload_n hC.1 hC.2.1 dJ0_checkIndex_df160_1 rfl e1 ?_
  have go : ∀ f : Value, (f = .null ∨ ∃ t, f = .ref t) → W p l e mdJ0_checkIndex_df160.2.2.2.2.2 s m args below meth c s.heap [] 0 0 (MQ below (smQ none) args s 0 0 (fun _ => False)) (F0 m 5 lsA [f, .int 105, .int (Int32.ofInt (j : Int))]) := fun f hf => by
    refine s_S (As := [.int (Int32.ofInt (j : Int)), .int 105, f]) hG hC hl.1 hC.2.2.2.2.2.2.2.2.2 dJ0_checkIndex_df160_5 msJ0_1059 ⟨by decide, by decide⟩ rfl rfl ⟨rfl, rfl⟩ ⟨Nat.le_refl _, Nat.le_refl _⟩ (n_J3 h hf) ?_
    refine lv_pop hC.1 hC.2.1 dJ0_checkIndex_df160_8 rfl ?_
    exact W.vret hC.1 hC.2.1 hC.2.2.2.1 (fun t ht _ => ⟨rfl, ht⟩) (fun _ h => absurd h List.not_mem_nil) dJ0_checkIndex_df160_9 hC.2.2.2.2.1
  rcases hz with hz | ⟨t, hz⟩
  · exact va_gets hC.1 hC.2.1 hz st_va hC.2.2.2.2.2.1 (hts _ fw_fm) (fun _ h => h) dJ0_checkIndex_df160_2 (go _ (Or.inl rfl))
  · exact va_gets hC.1 hC.2.1 hz st_va hC.2.2.2.2.2.1 (hts _ fw_fm) (fun _ h => h) dJ0_checkIndex_df160_2 (go _ (Or.inr ⟨t, rfl⟩))
theorem n_J1 {G : zG} {l : Launch} {sa va j : Nat} (hX : ∀ U, G.2.2.2.2 U → XT G.2.2.2.1 sa va U) (h : j < 105) : SM G l yJ1_charAt_3b067 mdJ1_charAt_3b067 [.ref va, .int (Int32.ofInt (j : Int))] (some (.int (Int32.ofInt (wl j)))) := by
  refine SM.of (by decide) rfl rfl (Nat.le_of_ble_eq_true rfl) ?_
  intro hG p e s m args below meth c lsA hC hl
  have e0 : lsA[0]? = some (.val (.ref va)) := hl.2.2 (0, _) (by simp [lv_args])
  have e1 : lsA[1]? = some (.val (.int (Int32.ofInt (j : Int)))) := hl.2.2 (1, _) (by simp [lv_args, Value.category])
  have hb := (hX s hC.2.2.2.2.2.2.2.1.2.2.2.2).2.2.2.2.1.kept (st_S hC)
  refine lv_iload_n hC.1 hC.2.1 dJ1_charAt_3b067_0 rfl e1 ?_
  refine lv_aload_n hC.1 hC.2.1 dJ1_charAt_3b067_1 rfl e0 ?_
  refine va_tlen (v := 105) hC.1 hC.2.1 hb st_va (by decide) dJ1_charAt_3b067_2 ?_
  refine s_S (As := [.int (Int32.ofInt (j : Int)), .int 105]) hG hC hl.1 hC.2.2.2.2.2.2.2.2.2 dJ1_charAt_3b067_3 msJ1_9 ⟨by decide, by decide⟩ rfl rfl ⟨rfl, rfl⟩ ⟨Nat.le_refl _, Nat.le_refl _⟩ (n_J0c hX h) ?_
  refine lv_aload_n hC.1 hC.2.1 dJ1_charAt_3b067_6 rfl e0 ?_
  refine lv_iload_n hC.1 hC.2.1 dJ1_charAt_3b067_7 rfl e1 ?_
  refine va_tb (v := .int (Int32.ofInt (wl j))) hC.1 hC.2.1 hb st_va (zin h (by decide)) (by rw [zcl (by omega)]) dJ1_charAt_3b067_8 ?_
  refine lv_sipush (v := 255) hC.1 hC.2.1 dJ1_charAt_3b067_9 (by decide) ?_
  refine lv_iand hC.1 hC.2.1 dJ1_charAt_3b067_12 ?_
  refine lv_i2c hC.1 hC.2.1 dJ1_charAt_3b067_13 (wl_f j h).1 ?_
  exact W.zret hC.1 hC.2.1 hC.2.2.2.1 (wl_f j h).2 (fun t ht _ => ⟨rfl, ht⟩) (fun _ h => absurd h List.not_mem_nil) dJ1_charAt_3b067_14 hC.2.2.2.2.1
theorem n_J0l {G : zG} {l : Launch} {sa va : Nat} (hX : ∀ U, G.2.2.2.2 U → XT G.2.2.2.1 sa va U) : SM G l yJ0_isLatin1_aae02 mdJ0_isLatin1_aae02 [.ref sa] (some (.int 1)) := by
  refine SM.of (by decide) rfl rfl (Nat.le_of_ble_eq_true rfl) ?_
  intro hG p e s m args below meth c lsA hC hl
  have e0 : lsA[0]? = some (.val (.ref sa)) := hl.2.2 (0, _) (by simp [lv_args])
  have hts := hC.2.2.2.2.2.2.1
  have hx := hX s hC.2.2.2.2.2.2.2.1.2.2.2.2
  refine va_gets hC.1 hC.2.1 (hx.2.2.2.2.2.1.kept (st_S hC)) st_va hC.2.2.2.2.2.1 (hts _ fw_cs) (fun _ h => h) dJ0_isLatin1_aae02_0 ?_
  refine lv_if_eq (tgt := 17) hC.1 hC.2.1 dJ0_isLatin1_aae02_3 (by decide) (fun z => absurd z (by decide)) (fun _ => ?_)
  refine lv_aload_n hC.1 hC.2.1 dJ0_isLatin1_aae02_6 rfl e0 ?_
  refine vk_getf hC.1 hC.2.1 (hx.2.2.1.kept (st_S hC)) st_va hC.2.2.2.2.2.1 (hts _ fw_co) (fun _ h => h) dJ0_isLatin1_aae02_7 ?_
  refine lv_if_ne (tgt := 17) hC.1 hC.2.1 dJ0_isLatin1_aae02_10 (by decide) (fun z => absurd rfl z) (fun _ => ?_)
  refine lv_iconst (v := 1) hC.1 hC.2.1 dJ0_isLatin1_aae02_13 (by decide) ?_
  refine lv_goto (tgt := 18) hC.1 hC.2.1 dJ0_isLatin1_aae02_14 (by decide) ?_
  exact W.zret hC.1 hC.2.1 hC.2.2.2.1 (by decide) (fun t ht _ => ⟨rfl, ht⟩) (fun _ h => absurd h List.not_mem_nil) dJ0_isLatin1_aae02_18 hC.2.2.2.2.1
theorem st_rc {G : zG} {sa va : Nat} {s : State} {H : Heap} (hx : XT G.2.2.2.1 sa va s) (hH : ∀ q, q < G.2.2.2.1.size → H[q]? = G.2.2.2.1[q]?) : ∃ cellB : Cell, H[sa]? = some cellB ∧ cellB.vm.isStatics = false ∧ s.vm.findClass "java/lang/String" = some cellB.cls := by
  obtain ⟨-, ⟨cell, h1, h2, h3, h4⟩, -⟩ := hx
  exact ⟨cell, by rw [hH sa (Nat.not_le.mp h4)]; exact h1, h2, h3⟩
theorem n_J0 {G : zG} {l : Launch} {sa va j : Nat} (hX : ∀ U, G.2.2.2.2 U → XT G.2.2.2.1 sa va U) (h : j < 105) : SM G l yJ0_charAt_5068e mdJ0_charAt_5068e [.ref sa, .int (Int32.ofInt (j : Int))] (some (.int (Int32.ofInt (wl j)))) := by
  refine SM.of (by decide) rfl rfl (Nat.le_of_ble_eq_true rfl) ?_
  intro hG p e s m args below meth c lsA hC hl
  have e0 : lsA[0]? = some (.val (.ref sa)) := hl.2.2 (0, _) (by simp [lv_args])
  have e1 : lsA[1]? = some (.val (.int (Int32.ofInt (j : Int)))) := hl.2.2 (1, _) (by simp [lv_args, Value.category])
  have hts := hC.2.2.2.2.2.2.1
  have hx := hX s hC.2.2.2.2.2.2.2.1.2.2.2.2
  have hH := hC.2.2.2.2.2.2.2.2.2
  refine lv_aload_n hC.1 hC.2.1 dJ0_charAt_5068e_0 rfl e0 ?_
  refine s_V (As := []) (b := sa) hG hC hl.1 hH dJ0_charAt_5068e_1 mvJ0_492 ⟨by decide, by decide⟩ (st_rc hx hH) rfl rfl ⟨rfl, rfl⟩ ⟨Nat.le_refl _, Nat.le_refl _⟩ (n_J0l hX) ?_
  refine lv_if_eq (tgt := 16) hC.1 hC.2.1 dJ0_charAt_5068e_4 (by decide) (fun z => absurd z (by decide)) (fun _ => ?_)
  refine lv_aload_n hC.1 hC.2.1 dJ0_charAt_5068e_7 rfl e0 ?_
  refine vk_getf hC.1 hC.2.1 (hx.2.2.2.1.kept (st_S hC)) st_va hC.2.2.2.2.2.1 (hts _ fw_va) (fun _ h => h) dJ0_charAt_5068e_8 ?_
  refine lv_iload_n hC.1 hC.2.1 dJ0_charAt_5068e_11 rfl e1 ?_
  refine s_S (As := [.ref va, .int (Int32.ofInt (j : Int))]) hG hC hl.1 hH dJ0_charAt_5068e_12 msJ0_495 ⟨by decide, by decide⟩ rfl rfl ⟨rfl, rfl⟩ ⟨Nat.le_refl _, Nat.le_refl _⟩ (n_J1 hX h) ?_
  exact W.zret hC.1 hC.2.1 hC.2.2.2.1 (wl_f j h).2 (fun t ht _ => ⟨rfl, ht⟩) (fun _ h => absurd h List.not_mem_nil) dJ0_charAt_5068e_15 hC.2.2.2.2.1
end ZST
