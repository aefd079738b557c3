section ZRR
/-- all but the reference's names, values and error -/
def Es (M0 M : zM) : Prop := ∀ (k : Nat) (i : Int), k ≠ 231 → k ≠ 232 → ¬ (k = 209 ∧ i = 47) → M k i = M0 k i
theorem Es.rf (M : zM) : Es M M := fun _ _ _ _ _ => rfl
theorem Es.tr {M0 M1 M2 : zM} (h1 : Es M0 M1) (h2 : Es M1 M2) : Es M0 M2 := fun k i a b c => (h2 k i a b c).trans (h1 k i a b c)
theorem Er.es {M0 M : zM} (h : Er M0 M) : Es M0 M := fun k i _ b c => h k i b c
theorem Es.row {M0 M : zM} (h : Es M0 M) {k : Nat} (h1 : k ≠ 209) (h2 : k ≠ 231) (h3 : k ≠ 232) : M k = M0 k := funext fun i => h k i h2 h3 (fun z => h1 z.1)
theorem Es.sm2 {M0 M : zM} (h : Es M0 M) (k : Nat) (i v : Int) : Es (sm M0 k i v) (sm M k i v) := fun q j a b c => by
  by_cases e : q = k
  · subst e
    rw [sm_k, sm_k]
    unfold us
    split
    · rfl
    · exact h q j a b c
  · rw [sm_n e, sm_n e]; exact h q j a b c
/-- how many a house knows -/
def kmM (M : zM) (b h : Int) : Int := zsm (fun j => if M 237 (36 * b + 6 * h + j) = 0 then 0 else 1) (M 209 12).toNat 0 0
theorem zsm01' (c : Int → Prop) [DecidablePred c] : ∀ (n : Nat) (i acc : Int), acc ≤ zsm (fun j => if c j then 0 else 1) n i acc ∧ zsm (fun j => if c j then 0 else 1) n i acc ≤ acc + n
  | 0, i, acc => by simp only [zsm]; omega
  | n + 1, i, acc => by
    have h := zsm01' c n (i + 1) (acc + if c i then 0 else 1)
    simp only [zsm]
    by_cases hc : c i
    · rw [if_pos hc] at h ⊢; omega
    · rw [if_neg hc] at h ⊢; omega
theorem kmM_in {M : zM} (hI : TxI M) (b h : Int) : 0 ≤ kmM M b h ∧ kmM M b h ≤ 6 := by
  have := zsm01' (fun j => M 237 (36 * b + 6 * h + j) = 0) (M 209 12).toNat 0 0
  have q := hI.1
  unfold kmM
  omega
/-- the reference's law w as a function of the names -/
def rlf (M : zM) (w : Int) : (Int → Int) → Option Int := fun nm => if M 223 w = 0 then none else rLaw nm (M 226) (M 227) (M 228) (M 224 w) (M 225 w - M 224 w).toNat
theorem rV_cong {nm nm' kn pt ot : Int → Int} {f : Int} (h : ∀ i, 0 ≤ i → i < 7 → nm i = nm' i) : ∀ (n : Nat) (i : Int) (V : Int → Int) (e : Int), (∀ j, i ≤ j → j < i + n → kn j = 1 → 0 ≤ pt j ∧ pt j ≤ 6) → rV nm kn pt ot n i V e = rV nm' kn pt ot n i V e
  | 0, i, V, e, _ => rfl
  | n + 1, i, V, e, hk => by
    unfold rV
    have : vV nm kn pt ot V e i = vV nm' kn pt ot V e i := by
      by_cases c : kn i = 1
      · have := hk i (by omega) (by omega) c
        rw [vV_1 c, vV_1 c, h _ (by omega) (by omega)]
      · unfold vV
        rw [if_neg c, if_neg c]
    rw [this]
    exact rV_cong (f := f) h n (i + 1) _ _ (fun j h1 h2 => hk j (by omega) (by omega))
theorem rlf_cong {M : zM} {w : Int} (hw : LrI M w) {nm nm' : Int → Int} (h : ∀ i, 0 ≤ i → i < 7 → nm i = nm' i) : rlf M w nm = rlf M w nm' := by
  unfold rlf
  by_cases c : M 223 w = 0
  · rw [if_pos c, if_pos c]
  · rw [if_neg c, if_neg c]
    have q := (hw c).2
    have q1 := (hw c).1
    unfold rLaw
    rw [rV_cong (f := 0) h _ _ _ _ (fun j h1 h2 h3 => (q.2 j h1 (by omega)).2.2.1 h3)]
/-- the reference's numbers are within their ranges -/
def RI (M : zM) (b : Int) : Prop := TxI M ∧ (LrI M 0 ∧ LrI M 1 ∧ LrI M 2) ∧ SmI M b ∧ (0 ≤ M 209 60 ∧ M 209 60 ≤ 20)
theorem LrI_of {M0 M : zM} {w : Int} (h223 : M 223 = M0 223) (h224 : M 224 = M0 224) (h225 : M 225 = M0 225) (h226 : M 226 = M0 226) (h227 : M 227 = M0 227) (h228 : M 228 = M0 228) (h : LrI M0 w) : LrI M w := by
  unfold LrI KnI at h ⊢
  rw [h223, h224, h225, h226, h227, h228]
  exact h
theorem Es.lri {M0 M : zM} (h : Es M0 M) {w : Int} (hI : LrI M0 w) : LrI M w := LrI_of (h.row (by decide) (by decide) (by decide)) (h.row (by decide) (by decide) (by decide)) (h.row (by decide) (by decide) (by decide)) (h.row (by decide) (by decide) (by decide)) (h.row (by decide) (by decide) (by decide)) (h.row (by decide) (by decide) (by decide)) hI
theorem Es.txi {M0 M : zM} (h : Es M0 M) (hI : TxI M0) : TxI M := by
  unfold TxI at hI ⊢
  rw [h 209 12 (by decide) (by decide) (by omega), h 209 13 (by decide) (by decide) (by omega), h 209 14 (by decide) (by decide) (by omega), h.row (k := 213) (by decide) (by decide) (by decide), h.row (k := 215) (by decide) (by decide) (by decide), h.row (k := 216) (by decide) (by decide) (by decide), h.row (k := 217) (by decide) (by decide) (by decide), h.row (k := 218) (by decide) (by decide) (by decide), h.row (k := 219) (by decide) (by decide) (by decide), h.row (k := 220) (by decide) (by decide) (by decide), h.row (k := 221) (by decide) (by decide) (by decide), h.row (k := 222) (by decide) (by decide) (by decide)]
  exact hI
theorem Es.smi {M0 M : zM} (h : Es M0 M) {b : Int} (hI : SmI M0 b) : SmI M b := by
  unfold SmI at hI ⊢
  rw [h.row (k := 233) (by decide) (by decide) (by decide), h.row (k := 234) (by decide) (by decide) (by decide), h.row (k := 236) (by decide) (by decide) (by decide), h.row (k := 238) (by decide) (by decide) (by decide)]
  exact hI
theorem Es.ri {M0 M : zM} (h : Es M0 M) {b : Int} (hI : RI M0 b) : RI M b := ⟨h.txi hI.1, ⟨h.lri hI.2.1.1, h.lri hI.2.1.2.1, h.lri hI.2.1.2.2⟩, h.smi hI.2.2.1, by rw [h 209 60 (by decide) (by decide) (by omega)]; exact hI.2.2.2⟩
theorem Es.rlq {M0 M : zM} (h : Es M0 M) (w : Int) : rlf M w = rlf M0 w := by
  unfold rlf
  rw [h.row (k := 223) (by decide) (by decide) (by decide), h.row (k := 224) (by decide) (by decide) (by decide), h.row (k := 225) (by decide) (by decide) (by decide), h.row (k := 226) (by decide) (by decide) (by decide), h.row (k := 227) (by decide) (by decide) (by decide), h.row (k := 228) (by decide) (by decide) (by decide)]
theorem Es.km {M0 M : zM} (h : Es M0 M) (b x : Int) : kmM M b x = kmM M0 b x := by
  unfold kmM
  rw [h 209 12 (by decide) (by decide) (by omega), h.row (k := 237) (by decide) (by decide) (by decide)]
/-- does h hear o, in the reference -/
def hrR (M : zM) (b h o : Int) : Int := if h = o then 0 else hrv (rlf M 0) (M 209 60) (M 233 (6 * b + h)) (M 233 (6 * b + o)) (M 234 (6 * b + h)) (M 236 (36 * b + 6 * h + o)) (kmM M b h) (M 238 b)
theorem hrR01 (M : zM) (b h o : Int) : hrR M b h o = 0 ∨ hrR M b h o = 1 := by
  unfold hrR
  split
  · exact Or.inl rfl
  · exact hrv01 _ _ _ _ _ _ _ _
def ndR (M : zM) (b h o kd : Int) : Int := ndv (rlf M 1) (M 213 1) (M 233 (6 * b + h)) (M 233 (6 * b + o)) (M 234 (6 * b + h)) kd (M 236 (36 * b + 6 * h + o)) (kmM M b h) (M 238 b)
theorem Es.hrr {M0 M : zM} (h : Es M0 M) (b x y : Int) : hrR M b x y = hrR M0 b x y := by
  unfold hrR
  rw [h.rlq, h.km, h 209 60 (by decide) (by decide) (by omega), h.row (k := 233) (by decide) (by decide) (by decide), h.row (k := 234) (by decide) (by decide) (by decide), h.row (k := 236) (by decide) (by decide) (by decide), h.row (k := 238) (by decide) (by decide) (by decide)]
theorem Es.ndr {M0 M : zM} (h : Es M0 M) (b x y kd : Int) : ndR M b x y kd = ndR M0 b x y kd := by
  unfold ndR
  rw [h.rlq, h.km, h.row (k := 213) (by decide) (by decide) (by decide), h.row (k := 233) (by decide) (by decide) (by decide), h.row (k := 234) (by decide) (by decide) (by decide), h.row (k := 236) (by decide) (by decide) (by decide), h.row (k := 238) (by decide) (by decide) (by decide)]
theorem nmf_lim3 {M1 : zM} {d g f kd hd ks hr : Int} (h : ∀ i : Int, 0 ≤ i → i < 7 → M1 231 i = nmf d g f kd hd ks hr i) (h1 : 0 ≤ d ∧ d ≤ 99) (h2 : 0 ≤ g ∧ g ≤ 9) (h3 : 0 ≤ f ∧ f ≤ 99) (h4 : 0 ≤ kd ∧ kd ≤ 9) (h5 : 0 ≤ hd ∧ hd ≤ 999) (h6 : 0 ≤ ks ∧ ks ≤ 6) (h7 : 0 ≤ hr ∧ hr ≤ 9999) : NrI M1 := fun i i0 i1 => by
  rw [h i i0 i1]
  rcases (show i = 0 ∨ i = 1 ∨ i = 2 ∨ i = 3 ∨ i = 4 ∨ i = 5 ∨ i = 6 by omega) with rfl | rfl | rfl | rfl | rfl | rfl | rfl <;> simp only [nmf] <;> simp <;> constructor <;> omega
theorem lawE_s (v w lo hi : Int) : lawE (some v) w lo hi = if v < lo then lo else if hi < v then hi else v := rfl
theorem lawE_n (w lo hi : Int) : lawE none w lo hi = w := rfl
end ZRR
