section ZRLL
theorem rhM_x {t : Nat} (M : zM) : (∀ k : Nat, k ≠ 42 → k ≠ 43 → k ≠ t → ¬ (t + 1 ≤ k ∧ k ≤ t + 3) → rhM t M k = M k) ∧ (t ≠ 42 → t ≠ 43 → ∀ i : Int, i ≠ 2 → rhM t M t i = M t i) := by
  obtain ⟨M4, e4⟩ : ∃ M4, M4 = tkM 0 9 (tkM 0 99 (nmM9 t 1 (lwM (M t 2) 6 M))) := ⟨_, rfl⟩
  have q : ∀ k : Nat, k ≠ 42 → k ≠ 43 → M4 k = M k := fun k a b => by rw [e4, tkM_n _ _ _ a b, tkM_n _ _ _ a b, nmM9_n _ _ _ a b, lwM_n _ _ _ a b]
  unfold rhM
  try simp only []
  rw [← e4]
  split
  · exact ⟨fun k a b _ _ => q k a b, fun a b i _ => by rw [q t a b]⟩
  · exact ⟨fun k a b c d => by rw [sm_n c, sm_n (by omega), sm_n (by omega), sm_n (by omega)]; exact q k a b, fun a b i hi => by rw [sm_k, us_n hi, sm_n (by omega), sm_n (by omega), sm_n (by omega), q t a b]⟩
theorem rtM_x {t : Nat} (M : zM) : (∀ k : Nat, k ≠ 42 → k ≠ 43 → k ≠ t → ¬ (t + 4 ≤ k ∧ k ≤ t + 6) → rtM t M k = M k) ∧ (t ≠ 42 → t ≠ 43 → ∀ i : Int, i ≠ 6 → rtM t M t i = M t i) := by
  obtain ⟨M4, e4⟩ : ∃ M4, M4 = tkM 0 99 (tkM 0 99 (nmM9 t 0 (lwM (M t 6) 10 M))) := ⟨_, rfl⟩
  have q : ∀ k : Nat, k ≠ 42 → k ≠ 43 → M4 k = M k := fun k a b => by rw [e4, tkM_n _ _ _ a b, tkM_n _ _ _ a b, nmM9_n _ _ _ a b, lwM_n _ _ _ a b]
  unfold rtM
  try simp only []
  rw [← e4]
  split
  · exact ⟨fun k a b _ _ => q k a b, fun a b i _ => by rw [q t a b]⟩
  · exact ⟨fun k a b c d => by rw [sm_n c, sm_n (by omega), sm_n (by omega), sm_n (by omega)]; exact q k a b, fun a b i hi => by rw [sm_k, us_n hi, sm_n (by omega), sm_n (by omega), sm_n (by omega), q t a b]⟩
theorem rdM_x {t : Nat} (M : zM) : (∀ k : Nat, k ≠ 42 → k ≠ 43 → k ≠ t → ¬ (t + 7 ≤ k ∧ k ≤ t + 9) → rdM t M k = M k) ∧ (t ≠ 42 → t ≠ 43 → ∀ i : Int, i ≠ 10 → rdM t M t i = M t i) := by
  obtain ⟨M3, e3⟩ : ∃ M3, M3 = lnM 0 99 (nmM9 t 0 (lwM (M t 10) 12 M)) := ⟨_, rfl⟩
  have q3 : ∀ k : Nat, k ≠ 42 → k ≠ 43 → M3 k = M k := fun k a b => by rw [e3, lnM_n _ _ _ a, nmM9_n _ _ _ a b, lwM_n _ _ _ a b]
  unfold rdM
  try simp only []
  rw [← e3]
  obtain ⟨M4, e4⟩ : ∃ M4, M4 = if M3 42 6 = 0 ∧ sdT t M3 (hoT t (nmM9 t 0 (lwM (M t 10) 12 M)) (tnV (lwM (M t 10) 12 M))) (lnV 0 99 (nmM9 t 0 (lwM (M t 10) 12 M))) ≠ 0 then flM M3 3 else M3 := ⟨_, rfl⟩
  have q4 : ∀ k : Nat, k ≠ 42 → k ≠ 43 → M4 k = M k := fun k a b => by
    rw [e4]
    split
    · rw [flM_n _ _ a]; exact q3 k a b
    · exact q3 k a b
  rw [← e4]
  obtain ⟨M5, e5⟩ : ∃ M5, M5 = if M4 42 6 = 0 then stT M4 else M4 := ⟨_, rfl⟩
  have q5 : ∀ k : Nat, k ≠ 42 → k ≠ 43 → M5 k = M k := fun k a b => by
    rw [e5]
    split
    · rw [stT_n _ b]; exact q4 k a b
    · exact q4 k a b
  rw [← e5]
  have q : ∀ k : Nat, k ≠ 42 → k ≠ 43 → tkM 1 9 M5 k = M k := fun k a b => by rw [tkM_n _ _ _ a b]; exact q5 k a b
  split
  · exact ⟨fun k a b _ _ => q k a b, fun a b i _ => by rw [q t a b]⟩
  · exact ⟨fun k a b c d => by rw [sm_n c, sm_n (by omega), sm_n (by omega), sm_n (by omega)]; exact q k a b, fun a b i hi => by rw [sm_k, us_n hi, sm_n (by omega), sm_n (by omega), sm_n (by omega), q t a b]⟩
theorem reM_x {t : Nat} (k lo hi : Int) (M : zM) : ∀ q : Nat, q ≠ 42 → q ≠ 43 → q ≠ t + 10 → q ≠ t + 11 → reM t k lo hi M q = M q := by
  intro q a b c d
  unfold reM
  split
  · exact flM_n _ _ a
  · try simp only []
    split
    · rw [tkM_n _ _ _ a b, stT_n _ b]
    · rw [sm_n c, sm_n d, tkM_n _ _ _ a b, stT_n _ b]
/-- a law told, class against reference -/
def LwK (g : Int → Int) (o : Int) (F e K : Int) (Mr : zM) : Prop := KN g F o.toNat Mr ∧ e = F + o ∧ 0 ≤ F ∧ F + o ≤ K ∧ (pst g F o.toNat).length = 1
def LaX (t : Nat) (u : Nat) (Mc Mr : zM) : Prop := (Mr 223 (3 + (u : Int)) ≠ 0 ↔ 0 < Mc (t + 13 + 2 * u) 1) ∧ (0 < Mc (t + 13 + 2 * u) 1 → LwK (Mc (t + 13 + 2 * u + 1)) (Mc (t + 13 + 2 * u) 1) (Mr 224 (3 + (u : Int))) (Mr 225 (3 + (u : Int))) (Mr 209 19) Mr)
/-- a text being told, class against reference -/
def TxX (t : Nat) (Mc Mr : zM) : Prop := HoX t Mc Mr ∧ TuX t Mc Mr ∧ SoX t Mc Mr ∧ SeX t Mc Mr ∧ (∀ u : Nat, u ≤ 2 → LaX t u Mc Mr) ∧ (Mr 209 42 = Mc t 1 ∧ Mr 209 19 = Mc t 1)
theorem HoX.of {t : Nat} {Mc Mc' Mr Mr' : zM} (h : HoX t Mc Mr) (e0 : Mc' t 2 = Mc t 2) (e : ∀ k : Nat, t + 1 ≤ k → k ≤ t + 3 → Mc' k = Mc k) (r : ∀ k : Nat, 214 ≤ k → k ≤ 216 → Mr' k = Mr k) (r9 : Mr' 209 16 = Mr 209 16) : HoX t Mc' Mr' := by
  unfold HoX HoR at *
  rw [e0, e (t + 1) (by omega) (by omega), e (t + 2) (by omega) (by omega), e (t + 3) (by omega) (by omega), r 214 (by omega) (by omega), r 215 (by omega) (by omega), r 216 (by omega) (by omega), r9]
  exact h
theorem TuX.of {t : Nat} {Mc Mc' Mr Mr' : zM} (h : TuX t Mc Mr) (e0 : Mc' t 6 = Mc t 6) (e : ∀ k : Nat, t + 4 ≤ k → k ≤ t + 6 → Mc' k = Mc k) (r : ∀ k : Nat, 217 ≤ k → k ≤ 219 → Mr' k = Mr k) (r9 : Mr' 209 17 = Mr 209 17) : TuX t Mc' Mr' := by
  unfold TuX at *
  rw [e0, e (t + 4) (by omega) (by omega), e (t + 5) (by omega) (by omega), e (t + 6) (by omega) (by omega), r 217 (by omega) (by omega), r 218 (by omega) (by omega), r 219 (by omega) (by omega), r9]
  exact h
theorem SoX.of {t : Nat} {Mc Mc' Mr Mr' : zM} (h : SoX t Mc Mr) (e0 : Mc' t 10 = Mc t 10) (e : ∀ k : Nat, t + 7 ≤ k → k ≤ t + 9 → Mc' k = Mc k) (r : ∀ k : Nat, 220 ≤ k → k ≤ 222 → Mr' k = Mr k) (r9 : Mr' 209 18 = Mr 209 18) : SoX t Mc' Mr' := by
  unfold SoX at *
  rw [e0, e (t + 7) (by omega) (by omega), e (t + 8) (by omega) (by omega), e (t + 9) (by omega) (by omega), r 220 (by omega) (by omega), r 221 (by omega) (by omega), r 222 (by omega) (by omega), r9]
  exact h
theorem SeX.of {t : Nat} {Mc Mc' Mr Mr' : zM} (h : SeX t Mc Mr) (e : ∀ k : Nat, t + 10 ≤ k → k ≤ t + 11 → Mc' k = Mc k) (r : ∀ k : Nat, 212 ≤ k → k ≤ 213 → Mr' k = Mr k) : SeX t Mc' Mr' := by
  unfold SeX at *
  rw [e (t + 10) (by omega) (by omega), e (t + 11) (by omega) (by omega), r 212 (by omega) (by omega), r 213 (by omega) (by omega)]
  exact h
theorem LaX.of {t u : Nat} {Mc Mc' Mr Mr' : zM} (h : LaX t u Mc Mr) (e1 : Mc' (t + 13 + 2 * u) 1 = Mc (t + 13 + 2 * u) 1) (e2 : Mc' (t + 13 + 2 * u + 1) = Mc (t + 13 + 2 * u + 1)) (r : ∀ k : Nat, 223 ≤ k → k ≤ 228 → Mr' k = Mr k) (r9 : Mr' 209 19 = Mr 209 19) : LaX t u Mc' Mr' := by
  unfold LaX LwK KN at *
  rw [e1, e2, r 223 (by omega) (by omega), r 224 (by omega) (by omega), r 225 (by omega) (by omega), r 226 (by omega) (by omega), r 227 (by omega) (by omega), r 228 (by omega) (by omega), r9]
  exact h
theorem TxX.of {t : Nat} {Mc Mc' Mr Mr' : zM} (h : TxX t Mc Mr) (e0 : ∀ i : Int, i ≠ 0 → Mc' t i = Mc t i) (e : ∀ k : Nat, t + 1 ≤ k → k ≤ t + 18 → Mc' k = Mc k) (r : ∀ k : Nat, 212 ≤ k → k ≤ 228 → Mr' k = Mr k) (r9 : ∀ i : Int, (16 ≤ i ∧ i ≤ 19) ∨ i = 42 → Mr' 209 i = Mr 209 i) : TxX t Mc' Mr' := by
  obtain ⟨a, b, c, d, f, g⟩ := h
  exact ⟨a.of (e0 2 (by omega)) (fun k x y => e k (by omega) (by omega)) (fun k x y => r k (by omega) (by omega)) (r9 16 (by omega)), b.of (e0 6 (by omega)) (fun k x y => e k (by omega) (by omega)) (fun k x y => r k (by omega) (by omega)) (r9 17 (by omega)), c.of (e0 10 (by omega)) (fun k x y => e k (by omega) (by omega)) (fun k x y => r k (by omega) (by omega)) (r9 18 (by omega)), d.of (fun k x y => e k (by omega) (by omega)) (fun k x y => r k (by omega) (by omega)), fun u hu => (f u hu).of (by rw [e _ (by omega) (by omega)]) (e _ (by omega) (by omega)) (fun k x y => r k (by omega) (by omega)) (r9 19 (by omega)), by rw [r9 42 (by omega), r9 19 (by omega), e0 1 (by omega)]; exact g⟩
/-- what reading lines may change in the reference -/
def FrT (M M' : zM) : Prop := (∀ (k : Nat) (i : Int), (212 ≤ k → k ≤ 228 → i < hlf k) → k ≠ 229 → k ≠ 230 → ¬ (k = 209 ∧ ((4 ≤ i ∧ i ≤ 5) ∨ (7 ≤ i ∧ i ≤ 11) ∨ (16 ≤ i ∧ i ≤ 19) ∨ (39 ≤ i ∧ i ≤ 44))) → M' k i = M k i) ∧ (Rg M → Rg M')
theorem FrT.rf (M : zM) : FrT M M := ⟨fun _ _ _ _ _ _ => rfl, id⟩
theorem FrT.tr {M M1 M2 : zM} (h : FrT M M1) (h2 : FrT M1 M2) : FrT M M2 := ⟨fun k i a b c d => (h2.1 k i a b c d).trans (h.1 k i a b c d), fun r => h2.2 (h.2 r)⟩
theorem FrX.frt {ks : List Nat} {c : Int} {M M' : zM} (h : FrX ks c M M') (hk : ∀ k ∈ ks, 212 ≤ k ∧ k ≤ 228) (hc : c = 4 ∨ (16 ≤ c ∧ c ≤ 19)) : FrT M M' := ⟨fun k i a _ _ d => h.1 k i (fun z => a (hk k z).1 (hk k z).2) (fun z => d ⟨z.1, by omega⟩), h.2⟩
theorem hl64 {k : Nat} (h : 226 ≤ k) : hlf k = 64 := by
  unfold hlf
  rw [if_neg (by omega), if_neg (by omega), if_neg (by omega), if_neg (by omega), if_neg (by omega), if_neg (by omega)]
theorem FrL.frt {F : Int} {M M' : zM} (h : FrL F M M') (hF : 0 ≤ F) : FrT M M' := ⟨fun k i a b c d => by
  by_cases e : 226 ≤ k ∧ k ≤ 228
  · have := a (by omega) e.2
    rw [hl64 e.1] at this
    exact h.2 k i e.1 e.2 (by omega)
  · exact h.1 k i (by omega) (fun z => d ⟨z.1, by omega⟩), fun r => r.of (fun k a b => funext fun i => h.1 k i (by omega) (by omega))⟩
theorem FrT.row {M M1 : zM} (h : FrT M M1) {k : Nat} {i : Int} (hk : 223 ≤ k ∧ k ≤ 228) (hi : hlf k ≤ i) (v : Int) : FrT M (sm M1 k i v) := ⟨fun q j a b c d => by
  by_cases e : q = k
  · subst e; rw [sm_k, us_n (by have := a (by omega) hk.2; omega)]; exact h.1 q j a b c d
  · rw [sm_n e]; exact h.1 q j a b c d, fun r => (h.2 r).of (fun k x y => sm_n (by omega))⟩
theorem FrT.fl {M M1 M2 : zM} (h : FrT M M1) (h2 : Fl M1 M2) : FrT M M2 := ⟨fun k i a b c d => (h2 k i (fun z => d ⟨z.1, by omega⟩)).trans (h.1 k i a b c d), fun r => (h.2 r).of (fun k a b => h2.row (by omega))⟩
theorem FrX.rw9 {ks : List Nat} {c : Int} {M M' : zM} (h : FrX ks c M M') {k : Nat} (hk : k ∉ ks) (h9 : k ≠ 209) : M' k = M k := funext fun i => h.1 k i (fun z => absurd z hk) (fun z => h9 z.1)
theorem FrX.c9 {ks : List Nat} {c : Int} {M M' : zM} (h : FrX ks c M M') (hk : 209 ∉ ks) {i : Int} (hi : ¬ ((4 ≤ i ∧ i ≤ 5) ∨ (7 ≤ i ∧ i ≤ 11) ∨ i = c)) : M' 209 i = M 209 i := h.1 209 i (fun z => absurd z hk) (fun z => hi z.2)
theorem nm2 {k a b : Nat} (h1 : k ≠ a) (h2 : k ≠ b) : k ∉ [a, b] := by
  intro z
  rcases List.mem_cons.1 z with e | z
  · exact h1 e
  rcases List.mem_cons.1 z with e | z
  · exact h2 e
  · exact absurd z List.not_mem_nil
theorem nm3 {k a b c : Nat} (h1 : k ≠ a) (h2 : k ≠ b) (h3 : k ≠ c) : k ∉ [a, b, c] := by
  intro z
  rcases List.mem_cons.1 z with e | z
  · exact h1 e
  · exact nm2 h2 h3 z
/-- the four lines that are no laws -/
theorem tx_h {t : Nat} {Mc M M' : zM} (tt : t = 4 ∨ t = 23) (h : TxX t Mc M) (fr : FrX [214, 215, 216] 16 M M') (n : HoX t (rhM t Mc) M') : TxX t (rhM t Mc) M' := by
  obtain ⟨a, b, c, d, f, g⟩ := h
  obtain ⟨x, y⟩ := rhM_x (t := t) Mc
  have y1 := y (by omega) (by omega)
  refine ⟨n, b.of (y1 6 (by decide)) (fun k p q => x k (by omega) (by omega) (by omega) (by omega)) (fun k p q => fr.rw9 (nm3 (by omega) (by omega) (by omega)) (by omega)) (fr.c9 (by decide) (by omega)), c.of (y1 10 (by decide)) (fun k p q => x k (by omega) (by omega) (by omega) (by omega)) (fun k p q => fr.rw9 (nm3 (by omega) (by omega) (by omega)) (by omega)) (fr.c9 (by decide) (by omega)), d.of (fun k p q => x k (by omega) (by omega) (by omega) (by omega)) (fun k p q => fr.rw9 (nm3 (by omega) (by omega) (by omega)) (by omega)), fun u hu => (f u hu).of (by rw [x _ (by omega) (by omega) (by omega) (by omega)]) (x _ (by omega) (by omega) (by omega) (by omega)) (fun k p q => fr.rw9 (nm3 (by omega) (by omega) (by omega)) (by omega)) (fr.c9 (by decide) (by omega)), ?_⟩
  rw [fr.c9 (by decide) (i := 42) (by omega), fr.c9 (by decide) (i := 19) (by omega), y1 1 (by decide)]; exact g
theorem tx_t {t : Nat} {Mc M M' : zM} (tt : t = 4 ∨ t = 23) (h : TxX t Mc M) (fr : FrX [217, 218, 219] 17 M M') (n : TuX t (rtM t Mc) M') : TxX t (rtM t Mc) M' := by
  obtain ⟨a, b, c, d, f, g⟩ := h
  obtain ⟨x, y⟩ := rtM_x (t := t) Mc
  have y1 := y (by omega) (by omega)
  refine ⟨a.of (y1 2 (by decide)) (fun k p q => x k (by omega) (by omega) (by omega) (by omega)) (fun k p q => fr.rw9 (nm3 (by omega) (by omega) (by omega)) (by omega)) (fr.c9 (by decide) (by omega)), n, c.of (y1 10 (by decide)) (fun k p q => x k (by omega) (by omega) (by omega) (by omega)) (fun k p q => fr.rw9 (nm3 (by omega) (by omega) (by omega)) (by omega)) (fr.c9 (by decide) (by omega)), d.of (fun k p q => x k (by omega) (by omega) (by omega) (by omega)) (fun k p q => fr.rw9 (nm3 (by omega) (by omega) (by omega)) (by omega)), fun u hu => (f u hu).of (by rw [x _ (by omega) (by omega) (by omega) (by omega)]) (x _ (by omega) (by omega) (by omega) (by omega)) (fun k p q => fr.rw9 (nm3 (by omega) (by omega) (by omega)) (by omega)) (fr.c9 (by decide) (by omega)), ?_⟩
  rw [fr.c9 (by decide) (i := 42) (by omega), fr.c9 (by decide) (i := 19) (by omega), y1 1 (by decide)]; exact g
theorem tx_s {t : Nat} {Mc M M' : zM} (tt : t = 4 ∨ t = 23) (h : TxX t Mc M) (fr : FrX [220, 221, 222] 18 M M') (n : SoX t (rdM t Mc) M') : TxX t (rdM t Mc) M' := by
  obtain ⟨a, b, c, d, f, g⟩ := h
  obtain ⟨x, y⟩ := rdM_x (t := t) Mc
  have y1 := y (by omega) (by omega)
  refine ⟨a.of (y1 2 (by decide)) (fun k p q => x k (by omega) (by omega) (by omega) (by omega)) (fun k p q => fr.rw9 (nm3 (by omega) (by omega) (by omega)) (by omega)) (fr.c9 (by decide) (by omega)), b.of (y1 6 (by decide)) (fun k p q => x k (by omega) (by omega) (by omega) (by omega)) (fun k p q => fr.rw9 (nm3 (by omega) (by omega) (by omega)) (by omega)) (fr.c9 (by decide) (by omega)), n, d.of (fun k p q => x k (by omega) (by omega) (by omega) (by omega)) (fun k p q => fr.rw9 (nm3 (by omega) (by omega) (by omega)) (by omega)), fun u hu => (f u hu).of (by rw [x _ (by omega) (by omega) (by omega) (by omega)]) (x _ (by omega) (by omega) (by omega) (by omega)) (fun k p q => fr.rw9 (nm3 (by omega) (by omega) (by omega)) (by omega)) (fr.c9 (by decide) (by omega)), ?_⟩
  rw [fr.c9 (by decide) (i := 42) (by omega), fr.c9 (by decide) (i := 19) (by omega), y1 1 (by decide)]; exact g
theorem tx_e {t : Nat} {kk lo hi : Int} {Mc M M' : zM} (tt : t = 4 ∨ t = 23) (h : TxX t Mc M) (fr : FrX [212, 213] 4 M M') (n : SeX t (reM t kk lo hi Mc) M') : TxX t (reM t kk lo hi Mc) M' := by
  obtain ⟨a, b, c, d, f, g⟩ := h
  have x := reM_x (t := t) kk lo hi Mc
  have y1 : reM t kk lo hi Mc t = Mc t := x t (by omega) (by omega) (by omega) (by omega)
  refine ⟨a.of (by rw [y1]) (fun k p q => x k (by omega) (by omega) (by omega) (by omega)) (fun k p q => fr.rw9 (nm2 (by omega) (by omega)) (by omega)) (fr.c9 (by decide) (by omega)), b.of (by rw [y1]) (fun k p q => x k (by omega) (by omega) (by omega) (by omega)) (fun k p q => fr.rw9 (nm2 (by omega) (by omega)) (by omega)) (fr.c9 (by decide) (by omega)), c.of (by rw [y1]) (fun k p q => x k (by omega) (by omega) (by omega) (by omega)) (fun k p q => fr.rw9 (nm2 (by omega) (by omega)) (by omega)) (fr.c9 (by decide) (by omega)), n, fun u hu => (f u hu).of (by rw [x _ (by omega) (by omega) (by omega) (by omega)]) (x _ (by omega) (by omega) (by omega) (by omega)) (fun k p q => fr.rw9 (nm2 (by omega) (by omega)) (by omega)) (fr.c9 (by decide) (by omega)), ?_⟩
  rw [fr.c9 (by decide) (i := 42) (by omega), fr.c9 (by decide) (i := 19) (by omega), y1]; exact g
/-- the class's memory behind a law's line -/
theorem rl_x {t w : Nat} {Mc C2 X : zM} (tw : t < 41 ∧ w + 1 < 42 ∧ w ≠ t ∧ w + 1 ≠ t) (hv : TV C2) (hd : WdI C2) (hk : 0 ≤ C2 t 1 ∧ C2 t 1 ≤ 64) (hw0 : C2 w 1 = 0) (e2 : ∀ k : Nat, k ≠ 43 → C2 k = Mc k) (eX : X = lyA w 1 (lwL t w 701 1 (sm (sm C2 42 4 0) 42 5 0) 42 4).toNat (lwL t w 701 1 (sm (sm C2 42 4 0) 42 5 0))) : (∀ k : Nat, k ≠ 42 → k ≠ 43 → k ≠ 49 → k ≠ t → k ≠ w → k ≠ w + 1 → X k = Mc k) ∧ (∀ i : Int, i ≠ 1 → X t i = Mc t i) ∧ 0 ≤ X w 1 := by
  have lv := LvI.ini (t := t) (w := w) ⟨tw.1, tw.2.1⟩ hv hk hw0
  have d0 : WdI (sm (sm C2 42 4 0) 42 5 0) := hd.of (by rw [sm_n (by decide), sm_n (by decide)]) (by rw [sm_n (by decide), sm_n (by decide)]) (by rw [sm_n (by decide), sm_n (by decide)])
  have lv2 := LvI.lw tw.1 tw.2.1 ⟨tw.2.2.1, tw.2.2.2⟩ 701 1 _ lv
  have j1 := LJ.lw tw.1 tw.2.1 ⟨tw.2.2.1, tw.2.2.2⟩ 701 1 _ lv d0
  obtain ⟨C3, e3⟩ : ∃ C3, C3 = lwL t w 701 1 (sm (sm C2 42 4 0) 42 5 0) := ⟨_, rfl⟩
  have n3 : ∀ k : Nat, k ≠ 42 → k ≠ 43 → k ≠ 49 → k ≠ t → k ≠ w → k ≠ w + 1 → C3 k = C2 k := fun k a b c d f g => by rw [e3, lwL_n t w a b c d f g, sm_n a, sm_n a]
  rw [← e3] at eX j1 lv2
  have j2 := LJ.ly (r := 1) (by decide) tw.1 tw.2.1 ⟨tw.2.2.1, tw.2.2.2⟩ (C3 42 4).toNat C3 lv2.2.2.1
  have l4 := LvI.ly (r := 1) tw.1 tw.2.1 ⟨tw.2.2.1, tw.2.2.2⟩ (by decide) lv2
  rw [← eX] at j2 l4
  refine ⟨fun k a b c d f g => ?_, fun i hi => ?_, l4.2.2.2.1.1⟩
  · rw [eX, lyA_n w 1 a f g, n3 k a b c d f g, e2 k b]
  · rw [j2.2.1 i hi, j1.2.1 i hi, sm_n (by omega), sm_n (by omega), e2 t (by omega)]
end ZRLL

set_option maxRecDepth 100000 in
set_option maxHeartbeats 4000000 in
theorem tzX11_line {G : zG} {l : Launch} {L : Nat} {P : zP} {f : Int → Int} {n : Int} {t : Nat} {Mx CX M0 M : zM} {x : Int} (hP : PFok P) (tt : t = 4 ∨ t = 23) (eC : CX = leM t Mx) (fr : FrT M0 M) (hx : (x = 0 ∧ CX 42 6 ≠ 0 ∧ FT CX M) ∨ (x = 1 ∧ Mx 42 6 = 0 ∧ RTk f n Mx M ∧ TxX t Mx M)) : AW G l mdX11_lineRead (zany (LAY L) P (fun r M' => FrT M0 M' ∧ ((r = 0 ∧ CX 42 6 ≠ 0 ∧ FT CX M') ∨ (r = 1 ∧ CX 42 6 = 0 ∧ RTk f n CX M' ∧ TxX t CX M')))) 237 [some (aR 209), some (aI x), none] [] (LAY L) P M 0 0 := by
  have hx2 : x = 0 ∨ x = 1 := by rcases hx with h | h <;> omega
  refine a_iloadn dX11_lineRead_237 rfl ?_
  refine a_if_ne (tgt := 243) dX11_lineRead_238 (by decide) ⟨by omega, by omega⟩ (fun hb238 => ?_) (fun hb238 => ?_)
  · refine a_aloadn dX11_lineRead_243 rfl ?_
    refine a_bipush (w := 59) dX11_lineRead_244 (by decide) ?_
    obtain ⟨_, h0, rt, tx⟩ := hx.resolve_left (by omega)
    have t4 := rt.2.2.2.1
    unfold TKq at t4
    refine a_oneV (as := [_]) (q := 209) dX11_lineRead_246 mvX11_179 ⟨by decide, by decide⟩ (L209 L) rfl rfl rfl (Nat.le_of_ble_eq_true rfl) ⟨rfl, rfl⟩ ⟨by decide, by decide⟩ (m_isSg1 ⟨by omega, by omega⟩) (fun x246 hx246 => ?_)
    refine a_if_ne (tgt := 258) dX11_lineRead_249 (by decide) ⟨by omega, by omega⟩ (fun hb249 => ?_) (fun hb249 => ?_)
    · refine a_aloadn dX11_lineRead_258 rfl ?_
      refine a_relVv (as := []) (q := 209) dX11_lineRead_259 mvX11_176 ⟨by decide, by decide⟩ (L209 L) rfl rfl rfl (Nat.le_of_ble_eq_true rfl) ⟨rfl, rfl⟩ ⟨by decide, by decide⟩ (m_X11_token hP (by rw [rt.2.2.2.2.1.1]; exact rt.2.2.2.2.1.2.2) rt.2.2.2.2.2 rt.nx) (fun M1 hM1 => ?_)
      have ts : TkR f n (M 209 7) M M1 := by rw [rt.2.2.2.2.1.1, rt.2.2.2.2.1.2.1] at hM1; exact hM1
      have fk := ts.2.2.2
      refine a_iconst dX11_lineRead_262 ?_
      have e : CX = sm (stT Mx) t 0 (Mx t 0 + 1) := by rw [eC]; unfold leM; rw [if_neg (by omega), if_pos (by omega)]
      have rt1 := rt.step (by omega) ts
      have cn : ∀ k : Nat, k ≠ t → k ≠ 43 → CX k = Mx k := fun k a b => by rw [e, sm_n a, stT_n _ b]
      have rt2 : RTk f n CX M1 := rt1.of (by rw [e, sm_n (by omega)]) (by rw [e, sm_n (by omega)]) (by rw [e, sm_n (by omega)]) (by rw [e, sm_n (by omega)]) (fun _ _ _ => rfl) rfl rfl
      have tx2 : TxX t CX M1 := tx.of (fun i hi => by rw [e, sm_k, us_n hi, stT_n _ (by omega)]) (fun k a b => cn k (by omega) (by omega)) (fun k a b => fk.row (by omega)) (fun i hi => fk 209 i (by omega))
      exact a_zreturn dX11_lineRead_263 rfl rfl rfl (by omega) (zany_i ⟨fr.fl fk.fl, Or.inr ⟨rfl, by rw [cn 42 (by omega) (by decide)]; exact h0, rt2, tx2⟩⟩)
    · refine a_aloadn dX11_lineRead_252 rfl ?_
      refine a_iconst dX11_lineRead_253 ?_
      refine a_callV (as := [_]) (q := 209) dX11_lineRead_254 mvX11_166 ⟨by decide, by decide⟩ (L209 L) rfl rfl rfl (Nat.le_of_ble_eq_true rfl) ⟨rfl, rfl⟩ ⟨by decide, by decide⟩ (m_X11_wrong ⟨by omega, by omega⟩) ?_
      have e : CX = flM Mx 1 := by rw [eC]; unfold leM; rw [if_neg (by omega), if_neg (by omega)]
      exact a_zreturn dX11_lineRead_257 rfl rfl rfl (by omega) (zany_i ⟨fr.fl (((Fl.rf M).sm (by omega) _).sm (by omega) _), Or.inl ⟨rfl, by rw [e, (flM_6 1 h0).1]; decide, by rw [e]; exact wr_ft h0 rt.2.2.1⟩⟩)
  · refine a_iconst dX11_lineRead_241 ?_
    obtain ⟨_, c6, ft⟩ := hx.resolve_right (by omega)
    exact a_zreturn dX11_lineRead_242 rfl rfl rfl (by omega) (zany_i ⟨fr, Or.inl ⟨rfl, c6, ft⟩⟩)

section ZRLM
/-- a text with one law more -/
theorem tx_l {t w u : Nat} {Mc X M N2 M3 : zM} (tt : t = 4 ∨ t = 23) (hu : u ≤ 2) (ew : w = t + 13 + 2 * u) (hx : TxX t Mc M) (hr : (∀ k : Nat, k ≠ 42 → k ≠ 43 → k ≠ 49 → k ≠ t → k ≠ w → k ≠ w + 1 → X k = Mc k) ∧ (∀ i : Int, i ≠ 1 → X t i = Mc t i) ∧ 0 ≤ X w 1) (hn : ∀ (k : Nat) (i : Int), 212 ≤ k ∨ (k = 209 ∧ (16 ≤ i ∧ i ≤ 19)) → ¬ (k = 223 ∧ i = 3 + (u : Int)) → ¬ (k = 224 ∧ i = 3 + (u : Int)) → N2 k i = M k i) (h23 : N2 223 (3 + (u : Int)) ≠ 0) (h24 : N2 224 (3 + (u : Int)) = N2 209 19) (h19 : N2 209 19 = M 209 19) (hF : 0 ≤ N2 209 19) (fr : FrL (N2 209 19) N2 M3) (kn : KN (X (w + 1)) (N2 209 19) (X w 1).toNat M3) (k1 : M3 209 19 = N2 209 19 + X w 1) (k2 : M3 209 42 = X t 1) (k3 : M3 209 19 = M3 209 42) (pl : (pst (X (w + 1)) (N2 209 19) (X w 1).toNat).length = 1) : TxX t X (sm M3 225 (3 + (u : Int)) (M3 209 19)) := by
  obtain ⟨a, b, c, d, g, g2⟩ := hx
  obtain ⟨r1, r2, r3⟩ := hr
  have row : ∀ k : Nat, 212 ≤ k → k ≤ 222 → sm M3 225 (3 + (u : Int)) (M3 209 19) k = M k := fun k p q => by
    rw [sm_n (by omega)]
    funext i
    rw [fr.1 k i (by omega) (by omega), hn k i (by omega) (by omega) (by omega)]
  have c9 : ∀ i : Int, 16 ≤ i → i ≤ 18 → sm M3 225 (3 + (u : Int)) (M3 209 19) 209 i = M 209 i := fun i p q => by
    rw [sm_n (by decide), fr.1 209 i (by omega) (by omega), hn 209 i (by omega) (by omega) (by omega)]
  have ow : ∀ i : Int, 223 ≤ 223 → M3 223 i = N2 223 i ∧ M3 224 i = N2 224 i ∧ M3 225 i = N2 225 i := fun i _ => ⟨fr.1 223 i (by omega) (by omega), fr.1 224 i (by omega) (by omega), fr.1 225 i (by omega) (by omega)⟩
  have o1 : 1 ≤ (X w 1).toNat := by
    cases e : (X w 1).toNat with
    | zero => rw [e] at pl; exact absurd (show (0 : Nat) = 1 from pl) (by decide)
    | succ n => omega
  refine ⟨a.of (r2 2 (by decide)) (fun k p q => r1 k (by omega) (by omega) (by omega) (by omega) (by omega) (by omega)) (fun k p q => row k (by omega) (by omega)) (c9 16 (by omega) (by omega)), b.of (r2 6 (by decide)) (fun k p q => r1 k (by omega) (by omega) (by omega) (by omega) (by omega) (by omega)) (fun k p q => row k (by omega) (by omega)) (c9 17 (by omega) (by omega)), c.of (r2 10 (by decide)) (fun k p q => r1 k (by omega) (by omega) (by omega) (by omega) (by omega) (by omega)) (fun k p q => row k (by omega) (by omega)) (c9 18 (by omega) (by omega)), d.of (fun k p q => r1 k (by omega) (by omega) (by omega) (by omega) (by omega) (by omega)) (fun k p q => row k (by omega) (by omega)), fun v hv => ?_, by rw [sm_n (by decide)]; exact ⟨k2, k3.trans k2⟩⟩
  by_cases e : v = u
  · subst e
    unfold LaX LwK
    rw [← ew, sm_n (show 223 ≠ 225 by decide), sm_n (show 224 ≠ 225 by decide), sm_n (show 209 ≠ 225 by decide), sm_s, (ow _ (by decide)).1, (ow _ (by decide)).2.1, h24]
    refine ⟨⟨fun _ => by omega, fun _ => h23⟩, fun _ => ⟨?_, k1, hF, by omega, pl⟩⟩
    intro j hj
    have z := kn j hj
    rw [sm_n (show 226 ≠ 225 by decide), sm_n (show 227 ≠ 225 by decide), sm_n (show 228 ≠ 225 by decide)]; exact z
  · have l := g v hv
    unfold LaX LwK at l ⊢
    have x1 : X (t + 13 + 2 * v) = Mc (t + 13 + 2 * v) := r1 _ (by omega) (by omega) (by omega) (by omega) (by omega) (by omega)
    have x2 : X (t + 13 + 2 * v + 1) = Mc (t + 13 + 2 * v + 1) := r1 _ (by omega) (by omega) (by omega) (by omega) (by omega) (by omega)
    have y3 : M3 223 (3 + (v : Int)) = M 223 (3 + (v : Int)) := by rw [(ow _ (by decide)).1, hn 223 _ (by omega) (by omega) (by omega)]
    have y4 : M3 224 (3 + (v : Int)) = M 224 (3 + (v : Int)) := by rw [(ow _ (by decide)).2.1, hn 224 _ (by omega) (by omega) (by omega)]
    have y5 : M3 225 (3 + (v : Int)) = M 225 (3 + (v : Int)) := by rw [(ow _ (by decide)).2.2, hn 225 _ (by omega) (by omega) (by omega)]
    rw [x1, x2, sm_n (show 223 ≠ 225 by decide), sm_n (show 224 ≠ 225 by decide), sm_n (show 209 ≠ 225 by decide), sm_k, us_n (by omega), y3, y4, y5]
    refine ⟨l.1, fun p => ?_⟩
    obtain ⟨l1, l2, l3, l4, l5⟩ := l.2 p
    refine ⟨fun j hj => ?_, l2, l3, by omega, l5⟩
    rw [sm_n (show 226 ≠ 225 by decide), sm_n (show 227 ≠ 225 by decide), sm_n (show 228 ≠ 225 by decide)]
    have bj : 64 + M 224 (3 + (v : Int)) + (j : Int) < 64 + N2 209 19 := by omega
    exact KnA_c (fun _ _ _ => rfl) (by rw [fr.2 226 _ (by omega) (by omega) bj, hn 226 _ (by omega) (by omega) (by omega)]) (by rw [fr.2 227 _ (by omega) (by omega) bj, hn 227 _ (by omega) (by omega) (by omega)]) (by rw [fr.2 228 _ (by omega) (by omega) bj, hn 228 _ (by omega) (by omega) (by omega)]) (l1 j hj)
end ZRLM

set_option maxRecDepth 100000 in
set_option maxHeartbeats 4000000 in
theorem tlX11_line {G : zG} {l : Launch} {L : Nat} {P : zP} {f : Int → Int} {n : Int} {t : Nat} {Mc CX M : zM} (hP : PFok P) (tt : t = 4 ∨ t = 23) (ht : RTk f n Mc M) (h0 : Mc 42 6 = 0) (hs : Mc 43 9 ≠ 0) (hI : RdI t Mc) (hx : TxX t Mc M) (eC : CX = leM t (rlM t Mc)) : AW G l mdX11_lineRead (zany (LAY L) P (fun r M' => FrT M M' ∧ ((r = 0 ∧ CX 42 6 ≠ 0 ∧ FT CX M') ∨ (r = 1 ∧ CX 42 6 = 0 ∧ RTk f n CX M' ∧ TxX t CX M')))) 140 [some (aR 209), none, none] [] (LAY L) P M 0 0 := by
  have C1d : ∃ C1, C1 = stT Mc := ⟨_, rfl⟩
  obtain ⟨C1, eC1⟩ := C1d
  have hR := hI
  obtain ⟨i1, i2, i3, i4, i5, i6, i7, i8⟩ := hR
  obtain ⟨a, b, c, d, g, g2⟩ := id hx
  refine a_aloadn dX11_lineRead_140 rfl ?_
  refine a_relVv (as := []) (q := 209) dX11_lineRead_141 mvX11_176 ⟨by decide, by decide⟩ (L209 L) rfl rfl rfl (Nat.le_of_ble_eq_true rfl) ⟨rfl, rfl⟩ ⟨by decide, by decide⟩ (m_X11_token hP (by rw [ht.2.2.2.2.1.1]; exact ht.2.2.2.2.1.2.2) ht.2.2.2.2.2 ht.nx) (fun M1 hM1 => ?_)
  have ts : TkR f n (M 209 7) M M1 := by rw [ht.2.2.2.2.1.1, ht.2.2.2.2.1.2.1] at hM1; exact hM1
  have fk := ts.2.2.2
  have rt1 : RTk f n C1 M1 := by rw [eC1]; exact ht.step hs ts
  have c1n : ∀ k : Nat, k ≠ 43 → C1 k = Mc k := fun k hk => by rw [eC1, stT_n _ hk]
  have c10 : C1 42 6 = 0 := by rw [c1n 42 (by decide)]; exact h0
  have t4 := rt1.2.2.2.1
  unfold TKq at t4
  have lk : lkM Mc = if C1 43 9 = 3 then C1 43 11 - 8 else -1 := by rw [eC1]; rfl
  have eR : rlM t Mc = if ¬ (0 ≤ lkM Mc ∧ lkM Mc ≤ 2) then flM C1 1 else if 0 < C1 (t + 13 + 2 * (lkM Mc).toNat) 1 then flM C1 3 else lyA (t + 13 + 2 * (lkM Mc).toNat) 1 (lsM t (t + 13 + 2 * (lkM Mc).toNat) C1 42 4).toNat (lsM t (t + 13 + 2 * (lkM Mc).toNat) C1) := by rw [eC1]; rfl
  refine a_aloadn dX11_lineRead_144 rfl ?_
  refine b_getI (j' := 8) dX11_lineRead_145 flX11_142 rfl rfl (L209 L) (fun hr145 => ?_)
  refine a_iconst dX11_lineRead_148 ?_
  refine a_icmp_ne (tgt := 170) dX11_lineRead_149 (by decide) ⟨by omega, by omega⟩ ⟨by omega, by omega⟩ (fun hb149 => ?_) (fun hb149 => ?_)
  · refine a_aloadn dX11_lineRead_170 rfl ?_
    refine a_iconst dX11_lineRead_171 ?_
    refine a_callV (as := [_]) (q := 209) dX11_lineRead_172 mvX11_166 ⟨by decide, by decide⟩ (L209 L) rfl rfl rfl (Nat.le_of_ble_eq_true rfl) ⟨rfl, rfl⟩ ⟨by decide, by decide⟩ (m_X11_wrong ⟨by omega, by omega⟩) ?_
    have eR2 : rlM t Mc = flM C1 1 := by rw [eR, if_pos (by rw [lk]; split <;> omega)]
    have eL : CX = flM C1 1 := by rw [eC, eR2]; unfold leM; rw [if_pos (by rw [(flM_6 1 c10).1]; decide)]
    exact a_zreturn dX11_lineRead_175 rfl rfl rfl (by omega) (zany_i ⟨((FrT.rf M).fl fk.fl).fl (((Fl.rf M1).sm (by omega) _).sm (by omega) _), Or.inl ⟨rfl, by rw [eL, (flM_6 1 c10).1]; decide, by rw [eL]; exact wr_ft c10 rt1.2.2.1⟩⟩)
  · refine a_aloadn dX11_lineRead_152 rfl ?_
    refine b_getI (j' := 9) dX11_lineRead_153 flX11_153 rfl rfl (L209 L) (fun hr153 => ?_)
    refine a_bipush (w := 8) dX11_lineRead_156 (by decide) ?_
    refine a_icmp_lt (tgt := 170) dX11_lineRead_158 (by decide) ⟨by omega, by omega⟩ ⟨by omega, by omega⟩ (fun hb158 => ?_) (fun hb158 => ?_)
    · refine a_aloadn dX11_lineRead_170 rfl ?_
      refine a_iconst dX11_lineRead_171 ?_
      refine a_callV (as := [_]) (q := 209) dX11_lineRead_172 mvX11_166 ⟨by decide, by decide⟩ (L209 L) rfl rfl rfl (Nat.le_of_ble_eq_true rfl) ⟨rfl, rfl⟩ ⟨by decide, by decide⟩ (m_X11_wrong ⟨by omega, by omega⟩) ?_
      have eR2 : rlM t Mc = flM C1 1 := by rw [eR, if_pos (by rw [lk]; split <;> omega)]
      have eL : CX = flM C1 1 := by rw [eC, eR2]; unfold leM; rw [if_pos (by rw [(flM_6 1 c10).1]; decide)]
      exact a_zreturn dX11_lineRead_175 rfl rfl rfl (by omega) (zany_i ⟨((FrT.rf M).fl fk.fl).fl (((Fl.rf M1).sm (by omega) _).sm (by omega) _), Or.inl ⟨rfl, by rw [eL, (flM_6 1 c10).1]; decide, by rw [eL]; exact wr_ft c10 rt1.2.2.1⟩⟩)
    · refine a_aloadn dX11_lineRead_161 rfl ?_
      refine b_getI (j' := 9) dX11_lineRead_162 flX11_153 rfl rfl (L209 L) (fun hr162 => ?_)
      refine a_bipush (w := 10) dX11_lineRead_165 (by decide) ?_
      refine a_icmp_le (tgt := 176) dX11_lineRead_167 (by decide) ⟨by omega, by omega⟩ ⟨by omega, by omega⟩ (fun hb167 => ?_) (fun hb167 => ?_)
      · refine a_iconst dX11_lineRead_176 ?_
        refine a_aloadn dX11_lineRead_177 rfl ?_
        refine b_getI (j' := 9) dX11_lineRead_178 flX11_153 rfl rfl (L209 L) (fun hr178 => ?_)
        refine a_iadd dX11_lineRead_181 ?_
        refine a_bipush (w := 8) dX11_lineRead_182 (by decide) ?_
        refine a_isub dX11_lineRead_184 ?_
        refine c_istoren (ls' := [_, _, _]) dX11_lineRead_185 (by decide) rfl rfl ?_
        obtain ⟨u, hu⟩ : ∃ u : Nat, M1 209 9 = 8 + (u : Int) := ⟨(M1 209 9 - 8).toNat, by omega⟩
        have hu2 : u ≤ 2 := by omega
        have elk : lkM Mc = (u : Int) := by rw [lk, if_pos (by omega)]; omega
        have elt : (lkM Mc).toNat = u := by omega
        rw [if_neg (by omega), elt] at eR
        obtain ⟨w, ew⟩ : ∃ w : Nat, w = t + 13 + 2 * u := ⟨_, rfl⟩
        rw [← ew] at eR
        have lu := g u hu2
        unfold LaX at lu
        rw [← ew] at lu
        have e23 : ∀ i : Int, M1 223 i = M 223 i := fun i => fk 223 i (by omega)
        refine a_loc (ls' := [some (aR 209), none, some (aI (3 + (u : Int)))]) (by rw [hu, show 3 + (8 + (u : Int)) - 8 = 3 + (u : Int) by omega]) ?_
        refine a_aloadn dX11_lineRead_186 rfl ?_
        refine a_getR (j' := 31) (y := 223) dX11_lineRead_187 flX11_54 rfl rfl (L209 L) (p209_31 hP) ?_
        refine a_iloadn dX11_lineRead_190 rfl ?_
        refine b_zald (N := 6) dX11_lineRead_191 (L223 L) (by decide) (by omega) (by omega) (fun hr191 => ?_)
        refine a_if_eq (tgt := 201) dX11_lineRead_192 (by decide) ⟨by omega, by omega⟩ (fun hb192 => ?_) (fun hb192 => ?_)
        · refine a_aloadn dX11_lineRead_201 rfl ?_
          refine a_getR (j' := 31) (y := 223) dX11_lineRead_202 flX11_54 rfl rfl (L209 L) (p209_31 hP) ?_
          refine a_iloadn dX11_lineRead_205 rfl ?_
          refine a_iconst dX11_lineRead_206 ?_
          refine a_zast (N := 6) dX11_lineRead_207 (L223 L) (by decide) (by decide) (by omega) (by omega) (by omega) ?_
          refine a_aloadn dX11_lineRead_208 rfl ?_
          obtain ⟨N1, eN1⟩ : ∃ N1, N1 = sm M1 223 (3 + (u : Int)) 1 := ⟨_, rfl⟩
          have rtN : RTk f n C1 N1 := by rw [eN1]; exact rt1.of rfl rfl rfl rfl (fun i i0 i1 => by rw [sm_n (by decide)]) (sm_n (by decide)) (sm_n (by decide))
          rw [← eN1]
          refine a_relVv (as := []) (q := 209) dX11_lineRead_209 mvX11_176 ⟨by decide, by decide⟩ (L209 L) rfl rfl rfl (Nat.le_of_ble_eq_true rfl) ⟨rfl, rfl⟩ ⟨by decide, by decide⟩ (m_X11_token hP (by rw [rtN.2.2.2.2.1.1]; exact rtN.2.2.2.2.1.2.2) rtN.2.2.2.2.2 rtN.nx) (fun M2 hM2 => ?_)
          have ts2 : TkR f n (N1 209 7) N1 M2 := by rw [rtN.2.2.2.2.1.1, rtN.2.2.2.2.1.2.1] at hM2; exact hM2
          have fk2 := ts2.2.2.2
          obtain ⟨C2, eC2⟩ : ∃ C2, C2 = stT C1 := ⟨_, rfl⟩
          have rt2 : RTk f n C2 M2 := by rw [eC2]; exact rtN.step (by omega) ts2
          have c2n : ∀ k : Nat, k ≠ 43 → C2 k = Mc k := fun k hk => by rw [eC2, stT_n _ hk]; exact c1n k hk
          have c20 : C2 42 6 = 0 := by rw [c2n 42 (by decide)]; exact h0
          have w20 : C2 w 1 = 0 := by
            have z : ¬ 0 < Mc w 1 := fun z => by have := lu.1.2 z; rw [e23] at hb192; exact this hb192
            have lw0 : 0 ≤ Mc w 1 := by
              have : w = t + 13 ∨ w = t + 15 ∨ w = t + 17 := by omega
              rcases this with e | e | e
              · rw [e]; exact i4.1.1.1
              · rw [e]; exact i4.2.1.1.1
              · rw [e]; exact i4.2.2.1.1
            rw [c2n w (by omega)]; omega
          have lsE : lsM t w C1 = lwL t w 701 1 (sm (sm C2 42 4 0) 42 5 0) := by rw [eC2]; rfl
          rw [if_neg (by rw [c1n w (by omega), ← c2n w (by omega), w20]; omega), lsE] at eR
          refine a_aloadn dX11_lineRead_212 rfl ?_
          refine a_getR (j' := 32) (y := 224) dX11_lineRead_213 flX11_57 rfl rfl (L209 L) (p209_32 hP) ?_
          refine a_iloadn dX11_lineRead_216 rfl ?_
          refine a_aloadn dX11_lineRead_217 rfl ?_
          refine b_getI (j' := 19) dX11_lineRead_218 flX11_195 rfl rfl (L209 L) (fun hr218 => ?_)
          refine a_iast (N := 6) dX11_lineRead_221 (L224 L) (by decide) (by decide) (by omega) (by omega) hr218 ?_
          refine a_aloadn dX11_lineRead_222 rfl ?_
          obtain ⟨N2, eN2⟩ : ∃ N2, N2 = sm M2 224 (3 + (u : Int)) (M2 209 19) := ⟨_, rfl⟩
          have rtN2 : RTk f n C2 N2 := by rw [eN2]; exact rt2.of rfl rfl rfl rfl (fun i i0 i1 => by rw [sm_n (by decide)]) (sm_n (by decide)) (sm_n (by decide))
          have b42 : N2 209 42 = C2 t 1 := by rw [eN2, sm_n (by decide), fk2 209 42 (by omega), eN1, sm_n (by decide), fk 209 42 (by omega), c2n t (by omega)]; exact g2.1
          have b19 : N2 209 19 = C2 t 1 := by rw [eN2, sm_n (by decide), fk2 209 19 (by omega), eN1, sm_n (by decide), fk 209 19 (by omega), c2n t (by omega)]; exact g2.2
          rw [← eN2]
          refine a_anyV (as := []) (q := 209) dX11_lineRead_223 mvX11_240 ⟨by decide, by decide⟩ (L209 L) rfl rfl rfl (Nat.le_of_ble_eq_true rfl) ⟨rfl, rfl⟩ ⟨by decide, by decide⟩ (m_X11_sumRead (t := t) (w := w) (Mc := C2) (X := rlM t Mc) hP rtN2 c20 tt (by omega) (by rw [c2n t (by omega)]; exact i3) w20 b42 b19 eR) (fun x223 M3 hM3 => ?_)
          obtain ⟨fr3, su⟩ := hM3
          have hx223 : x223 = 0 ∨ x223 = 1 := by rcases su with h | h <;> omega
          refine c_istoren (ls' := [_, _, _]) dX11_lineRead_226 (by decide) rfl rfl ?_
          refine a_aloadn dX11_lineRead_227 rfl ?_
          refine a_getR (j' := 33) (y := 225) dX11_lineRead_228 flX11_60 rfl rfl (L209 L) (p209_33 hP) ?_
          refine a_iloadn dX11_lineRead_231 rfl ?_
          refine a_aloadn dX11_lineRead_232 rfl ?_
          refine b_getI (j' := 19) dX11_lineRead_233 flX11_195 rfl rfl (L209 L) (fun hr233 => ?_)
          refine a_iast (N := 6) dX11_lineRead_236 (L225 L) (by decide) (by decide) (by omega) (by omega) hr233 ?_
          have d2 : WdI C2 := i8.of (by rw [eC2, (stT_4 C1).1, eC1, (stT_4 Mc).1]) (c2n 45 (by decide)) (c2n 47 (by decide))
          obtain ⟨r1, r2, r3⟩ := rl_x (t := t) (w := w) (Mc := Mc) (by omega) rt2.1.2 d2 (by rw [c2n t (by omega)]; exact i3) w20 c2n eR
          have n19 : N2 209 19 = M 209 19 := by rw [b19, c2n t (by omega), g2.2]
          have F0 : 0 ≤ N2 209 19 := by rw [b19, c2n t (by omega)]; exact i3.1
          have frN : FrT M N2 := by
            rw [eN2]
            refine FrT.row ?_ ⟨by decide, by decide⟩ (by rw [hl224]; omega) _
            have f1 : FrT M N1 := by rw [eN1]; exact FrT.row ((FrT.rf M).fl fk.fl) ⟨by decide, by decide⟩ (by rw [hl223]; omega) _
            exact f1.fl fk2.fl
          have fr4 : FrT M (sm M3 225 (3 + (u : Int)) (M3 209 19)) := FrT.row (frN.tr (fr3.frt F0)) ⟨by decide, by decide⟩ (by rw [hl225]; omega) _
          refine a_forget [2] (ls' := [_, _, none]) rfl ?_
          refine tzX11_line hP tt eC fr4 ?_
          rcases su with ⟨e, ⟨s6, ft⟩ | ⟨s6, ns, ft⟩⟩ | ⟨e, s6, se, rt, kn, ⟨k1, k2, k3⟩, pl⟩
          · have eL : CX = rlM t Mc := by rw [eC]; unfold leM; rw [if_pos s6]
            exact Or.inl ⟨e, by rw [eL]; exact s6, by rw [eL]; exact ⟨by rw [sm_n (by decide)]; exact ft.1, by rw [sm_n (by decide)]; exact ft.2⟩⟩
          · have eL : CX = flM (rlM t Mc) 1 := by rw [eC]; unfold leM; rw [if_neg (fun z => z s6), if_neg ns]
            exact Or.inl ⟨e, by rw [eL, (flM_6 1 s6).1]; decide, by rw [eL]; exact ⟨by rw [sm_n (by decide)]; exact ft.1, by rw [sm_n (by decide)]; exact ft.2⟩⟩
          · refine Or.inr ⟨e, s6, rt.of rfl rfl rfl rfl (fun i i0 i1 => by rw [sm_n (by decide)]) (sm_n (by decide)) (sm_n (by decide)), ?_⟩
            exact tx_l tt hu2 ew hx ⟨r1, r2, r3⟩ (fun k i p q z => by rw [eN2]; by_cases e4 : k = 224; (subst e4; rw [sm_k, us_n (by omega), fk2.row (by decide), eN1, sm_n (by decide), fk.row (by decide)]); (rw [sm_n e4, fk2 k i (by omega), eN1]; by_cases e3 : k = 223; (subst e3; rw [sm_k, us_n (by omega), fk.row (by decide)]); (rw [sm_n e3, fk k i (by omega)]))) (by rw [eN2, sm_n (by decide), fk2.row (by decide), eN1, sm_s]; decide) (by rw [eN2, sm_s, sm_n (by decide)]) n19 F0 fr3 kn k1 k2 k3 pl
        · refine a_aloadn dX11_lineRead_195 rfl ?_
          refine a_iconst dX11_lineRead_196 ?_
          refine a_callV (as := [_]) (q := 209) dX11_lineRead_197 mvX11_166 ⟨by decide, by decide⟩ (L209 L) rfl rfl rfl (Nat.le_of_ble_eq_true rfl) ⟨rfl, rfl⟩ ⟨by decide, by decide⟩ (m_X11_wrong ⟨by omega, by omega⟩) ?_
          have eR2 : rlM t Mc = flM C1 3 := by rw [eR, if_pos (by rw [c1n w (by omega)]; exact lu.1.1 (by rw [← e23]; exact hb192))]
          have eL : CX = flM C1 3 := by rw [eC, eR2]; unfold leM; rw [if_pos (by rw [(flM_6 3 c10).1]; decide)]
          exact a_zreturn dX11_lineRead_200 rfl rfl rfl (by omega) (zany_i ⟨((FrT.rf M).fl fk.fl).fl (((Fl.rf M1).sm (by omega) _).sm (by omega) _), Or.inl ⟨rfl, by rw [eL, (flM_6 3 c10).1]; decide, by rw [eL]; exact wr_ft c10 rt1.2.2.1⟩⟩)
      · refine a_aloadn dX11_lineRead_170 rfl ?_
        refine a_iconst dX11_lineRead_171 ?_
        refine a_callV (as := [_]) (q := 209) dX11_lineRead_172 mvX11_166 ⟨by decide, by decide⟩ (L209 L) rfl rfl rfl (Nat.le_of_ble_eq_true rfl) ⟨rfl, rfl⟩ ⟨by decide, by decide⟩ (m_X11_wrong ⟨by omega, by omega⟩) ?_
        have eR2 : rlM t Mc = flM C1 1 := by rw [eR, if_pos (by rw [lk]; split <;> omega)]
        have eL : CX = flM C1 1 := by rw [eC, eR2]; unfold leM; rw [if_pos (by rw [(flM_6 1 c10).1]; decide)]
        exact a_zreturn dX11_lineRead_175 rfl rfl rfl (by omega) (zany_i ⟨((FrT.rf M).fl fk.fl).fl (((Fl.rf M1).sm (by omega) _).sm (by omega) _), Or.inl ⟨rfl, by rw [eL, (flM_6 1 c10).1]; decide, by rw [eL]; exact wr_ft c10 rt1.2.2.1⟩⟩)

set_option maxRecDepth 100000 in
set_option maxHeartbeats 4000000 in
theorem taX11_line {G : zG} {l : Launch} {L : Nat} {P : zP} {f : Int → Int} {n : Int} {t : Nat} {Mc : zM} {M : zM} (hP : PFok P) (tt : t = 4 ∨ t = 23) (ht : RTk f n Mc M) (h0 : Mc 42 6 = 0) (hs : Mc 43 9 ≠ 0) (hI : RdI t Mc) (hx : TxX t Mc M) : AW G l mdX11_lineRead (zany (LAY L) P (fun r M' => FrT M M' ∧ ((r = 0 ∧ (leM t (rlnM t Mc)) 42 6 ≠ 0 ∧ FT (leM t (rlnM t Mc)) M') ∨ (r = 1 ∧ (leM t (rlnM t Mc)) 42 6 = 0 ∧ RTk f n (leM t (rlnM t Mc)) M' ∧ TxX t (leM t (rlnM t Mc)) M')))) 0 [some (aR 209), none, none] [] (LAY L) P M 0 0 := by
  have t3 := ht.2.2.1
  have t4 := ht.2.2.2.1
  unfold TKq at t4
  have hh := hx.1.1
  refine a_aloadn dX11_lineRead_0 rfl ?_
  refine b_getI (j' := 8) dX11_lineRead_1 flX11_142 rfl rfl (L209 L) (fun hr1 => ?_)
  refine a_iconst dX11_lineRead_4 ?_
  refine a_icmp_ne (tgt := 17) dX11_lineRead_5 (by decide) ⟨by omega, by omega⟩ ⟨by omega, by omega⟩ (fun hb5 => ?_) (fun hb5 => ?_)
  · refine a_aloadn dX11_lineRead_17 rfl ?_
    refine a_iconst dX11_lineRead_18 ?_
    refine a_callV (as := [_]) (q := 209) dX11_lineRead_19 mvX11_166 ⟨by decide, by decide⟩ (L209 L) rfl rfl rfl (Nat.le_of_ble_eq_true rfl) ⟨rfl, rfl⟩ ⟨by decide, by decide⟩ (m_X11_wrong ⟨by omega, by omega⟩) ?_
    have eL : rlnM t Mc = flM Mc 1 := by
      have el : lvM Mc = -1 ∨ 7 < lvM Mc := by unfold lvM; split <;> omega
      unfold rlnM
      rw [if_neg (by omega), if_neg (by omega), if_neg (by omega), if_neg (by omega), if_neg (by omega), if_neg (by omega), if_neg (by omega), if_neg (by omega)]
    have eL2 : leM t (rlnM t Mc) = flM Mc 1 := by rw [eL]; unfold leM; rw [if_pos (by rw [(flM_6 1 h0).1]; decide)]
    exact a_zreturn dX11_lineRead_22 rfl rfl rfl (by omega) (zany_i ⟨(FrT.rf M).fl (((Fl.rf M).sm (by omega) _).sm (by omega) _), Or.inl ⟨rfl, by rw [eL2, (flM_6 1 h0).1]; decide, by rw [eL2]; exact wr_ft h0 t3⟩⟩)
  · refine a_aloadn dX11_lineRead_8 rfl ?_
    refine b_getI (j' := 9) dX11_lineRead_9 flX11_153 rfl rfl (L209 L) (fun hr9 => ?_)
    refine a_bipush (w := 7) dX11_lineRead_12 (by decide) ?_
    refine a_icmp_le (tgt := 23) dX11_lineRead_14 (by decide) ⟨by omega, by omega⟩ ⟨by omega, by omega⟩ (fun hb14 => ?_) (fun hb14 => ?_)
    · refine a_aloadn dX11_lineRead_23 rfl ?_
      refine b_getI (j' := 9) dX11_lineRead_24 flX11_153 rfl rfl (L209 L) (fun hr24 => ?_)
      rcases (show (M 209 9) = 0 ∨ (M 209 9) = 1 ∨ (M 209 9) = 2 ∨ (M 209 9) = 3 ∨ (M 209 9) = 4 ∨ (M 209 9) = 5 ∨ (M 209 9) = 6 ∨ ((M 209 9) < 0 ∨ 6 < (M 209 9)) by omega) with e27 | e27 | e27 | e27 | e27 | e27 | e27 | e27
      · refine c_tabIn (tgt := 68) (off := 41) e27 dX11_lineRead_27 ⟨by decide, by decide⟩ (by decide) (by decide) rfl (by decide) ?_
        refine a_aloadn dX11_lineRead_68 rfl ?_
        have el : lvM Mc = 0 := by unfold lvM; rw [if_pos (by omega)]; omega
        have eL : rlnM t Mc = rhM t Mc := by unfold rlnM; rw [if_pos el]
        refine a_anyV (as := []) (q := 209) dX11_lineRead_69 mvX11_228 ⟨by decide, by decide⟩ (L209 L) rfl rfl rfl (Nat.le_of_ble_eq_true rfl) ⟨rfl, rfl⟩ ⟨by decide, by decide⟩ (m_X11_houseLine hP ht h0 hs tt hx.1) (fun x69 M69 hM69 => ?_)
        have y69 : x69 = 0 ∨ x69 = 1 := by rcases hM69.2 with h | h <;> omega
        refine c_istoren (ls' := [_, _, _]) dX11_lineRead_72 (by decide) rfl rfl ?_
        refine a_goto (tgt := 237) dX11_lineRead_73 (by decide) ?_
        obtain ⟨fr, li⟩ := hM69
        have f9 : FrT M M69 := fr.frt (by decide) (by omega)
        exact (by
          refine tzX11_line (Mx := rlnM t Mc) hP tt rfl f9 ?_
          rcases li with ⟨e, s6, ft⟩ | ⟨e, s6, rt, ex⟩
          · refine Or.inl ⟨e, ?_, ?_⟩
            · unfold leM; rw [eL, if_pos s6]; exact s6
            · unfold leM; rw [eL, if_pos s6]; exact ft
          · exact Or.inr ⟨e, by rw [eL]; exact s6, by rw [eL]; exact rt, by rw [eL]; exact tx_h tt hx fr ex⟩)
      · refine c_tabIn (tgt := 76) (off := 49) e27 dX11_lineRead_27 ⟨by decide, by decide⟩ (by decide) (by decide) rfl (by decide) ?_
        refine a_aloadn dX11_lineRead_76 rfl ?_
        have el : lvM Mc = 1 := by unfold lvM; rw [if_pos (by omega)]; omega
        have eL : rlnM t Mc = rtM t Mc := by unfold rlnM; rw [el, if_neg (by omega), if_pos rfl]
        refine a_anyV (as := []) (q := 209) dX11_lineRead_77 mvX11_231 ⟨by decide, by decide⟩ (L209 L) rfl rfl rfl (Nat.le_of_ble_eq_true rfl) ⟨rfl, rfl⟩ ⟨by decide, by decide⟩ (m_X11_turnLine hP ht h0 hs tt hh hx.2.1) (fun x77 M77 hM77 => ?_)
        have y77 : x77 = 0 ∨ x77 = 1 := by rcases hM77.2 with h | h <;> omega
        refine c_istoren (ls' := [_, _, _]) dX11_lineRead_80 (by decide) rfl rfl ?_
        refine a_goto (tgt := 237) dX11_lineRead_81 (by decide) ?_
        obtain ⟨fr, li⟩ := hM77
        have f9 : FrT M M77 := fr.frt (by decide) (by omega)
        exact (by
          refine tzX11_line (Mx := rlnM t Mc) hP tt rfl f9 ?_
          rcases li with ⟨e, s6, ft⟩ | ⟨e, s6, rt, ex⟩
          · refine Or.inl ⟨e, ?_, ?_⟩
            · unfold leM; rw [eL, if_pos s6]; exact s6
            · unfold leM; rw [eL, if_pos s6]; exact ft
          · exact Or.inr ⟨e, by rw [eL]; exact s6, by rw [eL]; exact rt, by rw [eL]; exact tx_t tt hx fr ex⟩)
      · refine c_tabIn (tgt := 84) (off := 57) e27 dX11_lineRead_27 ⟨by decide, by decide⟩ (by decide) (by decide) rfl (by decide) ?_
        refine a_aloadn dX11_lineRead_84 rfl ?_
        have el : lvM Mc = 2 := by unfold lvM; rw [if_pos (by omega)]; omega
        have eL : rlnM t Mc = rdM t Mc := by unfold rlnM; rw [el, if_neg (by omega), if_neg (by omega), if_pos rfl]
        refine a_anyV (as := []) (q := 209) dX11_lineRead_85 mvX11_234 ⟨by decide, by decide⟩ (L209 L) rfl rfl rfl (Nat.le_of_ble_eq_true rfl) ⟨rfl, rfl⟩ ⟨by decide, by decide⟩ (m_X11_soundLine hP ht h0 hs tt hh hx.2.2.1) (fun x85 M85 hM85 => ?_)
        have y85 : x85 = 0 ∨ x85 = 1 := by rcases hM85.2 with h | h <;> omega
        refine c_istoren (ls' := [_, _, _]) dX11_lineRead_88 (by decide) rfl rfl ?_
        refine a_goto (tgt := 237) dX11_lineRead_89 (by decide) ?_
        obtain ⟨fr, li⟩ := hM85
        have f9 : FrT M M85 := fr.frt (by decide) (by omega)
        exact (by
          refine tzX11_line (Mx := rlnM t Mc) hP tt rfl f9 ?_
          rcases li with ⟨e, s6, ft⟩ | ⟨e, s6, rt, ex⟩
          · refine Or.inl ⟨e, ?_, ?_⟩
            · unfold leM; rw [eL, if_pos s6]; exact s6
            · unfold leM; rw [eL, if_pos s6]; exact ft
          · exact Or.inr ⟨e, by rw [eL]; exact s6, by rw [eL]; exact rt, by rw [eL]; exact tx_s tt hx fr ex⟩)
      · refine c_tabIn (tgt := 92) (off := 65) e27 dX11_lineRead_27 ⟨by decide, by decide⟩ (by decide) (by decide) rfl (by decide) ?_
        refine a_aloadn dX11_lineRead_92 rfl ?_
        refine a_iconst dX11_lineRead_93 ?_
        refine a_iconst dX11_lineRead_94 ?_
        refine a_bipush (w := 20) dX11_lineRead_95 (by decide) ?_
        have el : lvM Mc = 3 := by unfold lvM; rw [if_pos (by omega)]; omega
        have eL : rlnM t Mc = reM t 0 0 20 Mc := by unfold rlnM; rw [el, if_neg (by omega), if_neg (by omega), if_neg (by omega), if_pos rfl]
        refine a_anyV (as := [_, _, _]) (q := 209) dX11_lineRead_97 mvX11_237 ⟨by decide, by decide⟩ (L209 L) rfl rfl rfl (Nat.le_of_ble_eq_true rfl) ⟨rfl, rfl⟩ ⟨by decide, by decide⟩ (m_X11_onceLine hP ht h0 hs tt ⟨by omega, by omega⟩ ⟨by omega, by omega, by omega⟩ ⟨by omega, by omega, by omega⟩ hx.2.2.2.1) (fun x97 M97 hM97 => ?_)
        have y97 : x97 = 0 ∨ x97 = 1 := by rcases hM97.2 with h | h <;> omega
        refine c_istoren (ls' := [_, _, _]) dX11_lineRead_100 (by decide) rfl rfl ?_
        refine a_goto (tgt := 237) dX11_lineRead_101 (by decide) ?_
        obtain ⟨fr, li⟩ := hM97
        have f9 : FrT M M97 := fr.frt (by decide) (by omega)
        exact (by
          refine tzX11_line (Mx := rlnM t Mc) hP tt rfl f9 ?_
          rcases li with ⟨e, s6, ft⟩ | ⟨e, s6, rt, ex⟩
          · refine Or.inl ⟨e, ?_, ?_⟩
            · unfold leM; rw [eL, if_pos s6]; exact s6
            · unfold leM; rw [eL, if_pos s6]; exact ft
          · exact Or.inr ⟨e, by rw [eL]; exact s6, by rw [eL]; exact rt, by rw [eL]; exact tx_e tt hx fr ex⟩)
      · refine c_tabIn (tgt := 104) (off := 77) e27 dX11_lineRead_27 ⟨by decide, by decide⟩ (by decide) (by decide) rfl (by decide) ?_
        refine a_aloadn dX11_lineRead_104 rfl ?_
        refine a_iconst dX11_lineRead_105 ?_
        refine a_iconst dX11_lineRead_106 ?_
        refine a_bipush (w := 9) dX11_lineRead_107 (by decide) ?_
        have el : lvM Mc = 4 := by unfold lvM; rw [if_pos (by omega)]; omega
        have eL : rlnM t Mc = reM t 1 1 9 Mc := by unfold rlnM; rw [el, if_neg (by omega), if_neg (by omega), if_neg (by omega), if_neg (by omega), if_pos rfl]
        refine a_anyV (as := [_, _, _]) (q := 209) dX11_lineRead_109 mvX11_237 ⟨by decide, by decide⟩ (L209 L) rfl rfl rfl (Nat.le_of_ble_eq_true rfl) ⟨rfl, rfl⟩ ⟨by decide, by decide⟩ (m_X11_onceLine hP ht h0 hs tt ⟨by omega, by omega⟩ ⟨by omega, by omega, by omega⟩ ⟨by omega, by omega, by omega⟩ hx.2.2.2.1) (fun x109 M109 hM109 => ?_)
        have y109 : x109 = 0 ∨ x109 = 1 := by rcases hM109.2 with h | h <;> omega
        refine c_istoren (ls' := [_, _, _]) dX11_lineRead_112 (by decide) rfl rfl ?_
        refine a_goto (tgt := 237) dX11_lineRead_113 (by decide) ?_
        obtain ⟨fr, li⟩ := hM109
        have f9 : FrT M M109 := fr.frt (by decide) (by omega)
        exact (by
          refine tzX11_line (Mx := rlnM t Mc) hP tt rfl f9 ?_
          rcases li with ⟨e, s6, ft⟩ | ⟨e, s6, rt, ex⟩
          · refine Or.inl ⟨e, ?_, ?_⟩
            · unfold leM; rw [eL, if_pos s6]; exact s6
            · unfold leM; rw [eL, if_pos s6]; exact ft
          · exact Or.inr ⟨e, by rw [eL]; exact s6, by rw [eL]; exact rt, by rw [eL]; exact tx_e tt hx fr ex⟩)
      · refine c_tabIn (tgt := 116) (off := 89) e27 dX11_lineRead_27 ⟨by decide, by decide⟩ (by decide) (by decide) rfl (by decide) ?_
        refine a_aloadn dX11_lineRead_116 rfl ?_
        refine a_iconst dX11_lineRead_117 ?_
        refine a_iconst dX11_lineRead_118 ?_
        refine a_bipush (w := 100) dX11_lineRead_119 (by decide) ?_
        have el : lvM Mc = 5 := by unfold lvM; rw [if_pos (by omega)]; omega
        have eL : rlnM t Mc = reM t 2 0 100 Mc := by unfold rlnM; rw [el, if_neg (by omega), if_neg (by omega), if_neg (by omega), if_neg (by omega), if_neg (by omega), if_pos rfl]
        refine a_anyV (as := [_, _, _]) (q := 209) dX11_lineRead_121 mvX11_237 ⟨by decide, by decide⟩ (L209 L) rfl rfl rfl (Nat.le_of_ble_eq_true rfl) ⟨rfl, rfl⟩ ⟨by decide, by decide⟩ (m_X11_onceLine hP ht h0 hs tt ⟨by omega, by omega⟩ ⟨by omega, by omega, by omega⟩ ⟨by omega, by omega, by omega⟩ hx.2.2.2.1) (fun x121 M121 hM121 => ?_)
        have y121 : x121 = 0 ∨ x121 = 1 := by rcases hM121.2 with h | h <;> omega
        refine c_istoren (ls' := [_, _, _]) dX11_lineRead_124 (by decide) rfl rfl ?_
        refine a_goto (tgt := 237) dX11_lineRead_125 (by decide) ?_
        obtain ⟨fr, li⟩ := hM121
        have f9 : FrT M M121 := fr.frt (by decide) (by omega)
        exact (by
          refine tzX11_line (Mx := rlnM t Mc) hP tt rfl f9 ?_
          rcases li with ⟨e, s6, ft⟩ | ⟨e, s6, rt, ex⟩
          · refine Or.inl ⟨e, ?_, ?_⟩
            · unfold leM; rw [eL, if_pos s6]; exact s6
            · unfold leM; rw [eL, if_pos s6]; exact ft
          · exact Or.inr ⟨e, by rw [eL]; exact s6, by rw [eL]; exact rt, by rw [eL]; exact tx_e tt hx fr ex⟩)
      · refine c_tabIn (tgt := 128) (off := 101) e27 dX11_lineRead_27 ⟨by decide, by decide⟩ (by decide) (by decide) rfl (by decide) ?_
        refine a_aloadn dX11_lineRead_128 rfl ?_
        refine a_iconst dX11_lineRead_129 ?_
        refine a_iconst dX11_lineRead_130 ?_
        refine a_ldc (w := 99999) dX11_lineRead_131 knX11_162 (by decide) ?_
        have el : lvM Mc = 6 := by unfold lvM; rw [if_pos (by omega)]; omega
        have eL : rlnM t Mc = reM t 3 0 99999 Mc := by unfold rlnM; rw [el, if_neg (by omega), if_neg (by omega), if_neg (by omega), if_neg (by omega), if_neg (by omega), if_neg (by omega), if_pos rfl]
        refine a_anyV (as := [_, _, _]) (q := 209) dX11_lineRead_133 mvX11_237 ⟨by decide, by decide⟩ (L209 L) rfl rfl rfl (Nat.le_of_ble_eq_true rfl) ⟨rfl, rfl⟩ ⟨by decide, by decide⟩ (m_X11_onceLine hP ht h0 hs tt ⟨by omega, by omega⟩ ⟨by omega, by omega, by omega⟩ ⟨by omega, by omega, by omega⟩ hx.2.2.2.1) (fun x133 M133 hM133 => ?_)
        have y133 : x133 = 0 ∨ x133 = 1 := by rcases hM133.2 with h | h <;> omega
        refine c_istoren (ls' := [_, _, _]) dX11_lineRead_136 (by decide) rfl rfl ?_
        refine a_goto (tgt := 237) dX11_lineRead_137 (by decide) ?_
        obtain ⟨fr, li⟩ := hM133
        have f9 : FrT M M133 := fr.frt (by decide) (by omega)
        exact (by
          refine tzX11_line (Mx := rlnM t Mc) hP tt rfl f9 ?_
          rcases li with ⟨e, s6, ft⟩ | ⟨e, s6, rt, ex⟩
          · refine Or.inl ⟨e, ?_, ?_⟩
            · unfold leM; rw [eL, if_pos s6]; exact s6
            · unfold leM; rw [eL, if_pos s6]; exact ft
          · exact Or.inr ⟨e, by rw [eL]; exact s6, by rw [eL]; exact rt, by rw [eL]; exact tx_e tt hx fr ex⟩)
      · refine c_tabOut (tgt := 140) e27 dX11_lineRead_27 ⟨by omega, by omega⟩ (by decide) ?_
        have el : lvM Mc = 7 := by unfold lvM; rw [if_pos (by omega)]; omega
        have eL : rlnM t Mc = rlM t Mc := by unfold rlnM; rw [el, if_neg (by omega), if_neg (by omega), if_neg (by omega), if_neg (by omega), if_neg (by omega), if_neg (by omega), if_neg (by omega), if_pos rfl]
        exact tlX11_line hP tt ht h0 hs hI hx (by rw [eL])
    · refine a_aloadn dX11_lineRead_17 rfl ?_
      refine a_iconst dX11_lineRead_18 ?_
      refine a_callV (as := [_]) (q := 209) dX11_lineRead_19 mvX11_166 ⟨by decide, by decide⟩ (L209 L) rfl rfl rfl (Nat.le_of_ble_eq_true rfl) ⟨rfl, rfl⟩ ⟨by decide, by decide⟩ (m_X11_wrong ⟨by omega, by omega⟩) ?_
      have eL : rlnM t Mc = flM Mc 1 := by
        have el : lvM Mc = -1 ∨ 7 < lvM Mc := by unfold lvM; split <;> omega
        unfold rlnM
        rw [if_neg (by omega), if_neg (by omega), if_neg (by omega), if_neg (by omega), if_neg (by omega), if_neg (by omega), if_neg (by omega), if_neg (by omega)]
      have eL2 : leM t (rlnM t Mc) = flM Mc 1 := by rw [eL]; unfold leM; rw [if_pos (by rw [(flM_6 1 h0).1]; decide)]
      exact a_zreturn dX11_lineRead_22 rfl rfl rfl (by omega) (zany_i ⟨(FrT.rf M).fl (((Fl.rf M).sm (by omega) _).sm (by omega) _), Or.inl ⟨rfl, by rw [eL2, (flM_6 1 h0).1]; decide, by rw [eL2]; exact wr_ft h0 t3⟩⟩)

theorem m_X11_lineRead {G : zG} {l : Launch} {L : Nat} {P : zP} {M : zM} {f : Int → Int} {n : Int} {t : Nat} {Mc : zM} (hP : PFok P) (tt : t = 4 ∨ t = 23) (ht : RTk f n Mc M) (h0 : Mc 42 6 = 0) (hs : Mc 43 9 ≠ 0) (hI : RdI t Mc) (hx : TxX t Mc M) : AM G l yX11_lineRead mdX11_lineRead [aR 209] (LAY L) P M (zany (LAY L) P (fun r M' => FrT M M' ∧ ((r = 0 ∧ (leM t (rlnM t Mc)) 42 6 ≠ 0 ∧ FT (leM t (rlnM t Mc)) M') ∨ (r = 1 ∧ (leM t (rlnM t Mc)) 42 6 = 0 ∧ RTk f n (leM t (rlnM t Mc)) M' ∧ TxX t (leM t (rlnM t Mc)) M')))) := by
  refine AM.go [some (aR 209), none, none] rfl (Nat.le_of_ble_eq_true rfl) ?_ (by decide) rfl rfl
  exact taX11_line hP tt ht h0 hs hI hx
