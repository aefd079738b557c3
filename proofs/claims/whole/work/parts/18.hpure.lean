section ZHP
/-- the names that a law may use, as a row -/
def nmf (d g f kd hd ks hr : Int) : Int → Int := fun i => if i = 0 then d else if i = 1 then g else if i = 2 then f else if i = 3 then kd else if i = 4 then hd else if i = 5 then ks else hr
/-- a law's value within its range; without: what holds without it or in ERROR -/
def lawE (r : Option Int) (without lo hi : Int) : Int := match r with
  | none => without
  | some v => if v < lo then lo else if hi < v then hi else v
/-- does one hear another: by the law of reach, near, dials, gain, times heard, how many are known, the hour -/
def hrv (ℓ : (Int → Int) → Option Int) (nr dh dO gh t c hour : Int) : Int := if iabs (dh - dO) ≤ lawE (ℓ (nmf dh gh (iabs (dh - dO)) 0 t c hour)) (nr + gh) 0 99 then 1 else 0
theorem hrv01 (ℓ : (Int → Int) → Option Int) (nr dh dO gh t c hour : Int) : hrv ℓ nr dh dO gh t c hour = 0 ∨ hrv ℓ nr dh dO gh t c hour = 1 := by unfold hrv; split <;> simp
/-- how often one must have heard -/
def ndv (ℓ : (Int → Int) → Option Int) (of dh dO gh kd t c hour : Int) : Int := lawE (ℓ (nmf dh gh (iabs (dh - dO)) kd t c hour)) of 1 99
/-- the class's law w of the text at t, as a function of the names -/
def lwf (M : zM) (w : Nat) : (Int → Int) → Option Int := fun nm => lawS nm (M (w + 1)) (M w 1).toNat
theorem stS_cong {nm nm' : Int → Int} (h : ∀ i, 0 ≤ i → i < 7 → nm i = nm' i) {x : Int} (hx : kok x) (st : List Int) : stS nm x st = stS nm' x st := by
  unfold stS
  by_cases h1 : x < 20000
  · rw [if_pos h1, if_pos h1]
    by_cases h2 : x < 10000
    · rw [if_pos h2, if_pos h2]
    · rw [if_neg h2, if_neg h2, h (x - 10000) (by unfold kok at hx; omega) (by unfold kok at hx; omega)]
  · rw [if_neg h1, if_neg h1]
theorem evS_cong {nm nm' kn : Int → Int} (h : ∀ i, 0 ≤ i → i < 7 → nm i = nm' i) : ∀ (n : Nat) (i : Int) (st : List Int), (∀ j, i ≤ j → j < i + n → kok (kn j)) → evS nm kn n i st = evS nm' kn n i st
  | 0, i, st, _ => rfl
  | n + 1, i, st, hk => by
    unfold evS
    rw [stS_cong h (hk i (by omega) (by omega))]
    split
    · rfl
    · exact evS_cong h n (i + 1) _ (fun j h1 h2 => hk j (by omega) (by omega))
theorem lwf_cong {M : zM} {w : Nat} (hw : LwI M w) {nm nm' : Int → Int} (h : ∀ i, 0 ≤ i → i < 7 → nm i = nm' i) : lwf M w nm = lwf M w nm' := by
  unfold lwf lawS
  rw [evS_cong h _ 0 [] (fun j h1 h2 => hw.2 j (by omega) (by have := hw.1; omega))]
/-- all but a sum's own cells -/
def Ec (M0 M : zM) : Prop := ∀ (k : Nat) (i : Int), k ≠ 52 → k ≠ 53 → ¬ (k = 51 ∧ i = 2) → M k i = M0 k i
theorem Ec.rf (M : zM) : Ec M M := fun _ _ _ _ _ => rfl
theorem Ec.tr {M0 M1 M2 : zM} (h1 : Ec M0 M1) (h2 : Ec M1 M2) : Ec M0 M2 := fun k i a b c => (h2 k i a b c).trans (h1 k i a b c)
theorem Ew.ec {M0 M : zM} (h : Ew M0 M) : Ec M0 M := fun k i _ b c => h k i b c
theorem Ec.row {M0 M : zM} (h : Ec M0 M) {k : Nat} (h1 : k ≠ 51) (h2 : k ≠ 52) (h3 : k ≠ 53) : M k = M0 k := funext fun i => h k i h2 h3 (fun z => h1 z.1)
theorem Ec.sti {M0 M : zM} (h : Ec M0 M) {a : Nat} (ha : 54 ≤ a) (hI : StI M0 a) : StI M a := by
  unfold StI at hI ⊢
  rw [h.row (k := a) (by omega) (by omega) (by omega), h.row (k := a + 1) (by omega) (by omega) (by omega), h.row (k := a + 2) (by omega) (by omega) (by omega), h.row (k := a + 3) (by omega) (by omega) (by omega), h.row (k := a + 4) (by omega) (by omega) (by omega), h.row (k := a + 5) (by omega) (by omega) (by omega)]
  exact hI
theorem Ec.toi {M0 M : zM} (h : Ec M0 M) {t : Nat} (ht : t ≤ 30) (hI : ToI M0 t) : ToI M t := by
  unfold ToI at hI ⊢
  rw [h.row (k := t) (by omega) (by omega) (by omega), h.row (k := t + 2) (by omega) (by omega) (by omega), h.row (k := t + 3) (by omega) (by omega) (by omega), h.row (k := t + 4) (by omega) (by omega) (by omega), h.row (k := t + 5) (by omega) (by omega) (by omega), h.row (k := t + 6) (by omega) (by omega) (by omega), h.row (k := t + 7) (by omega) (by omega) (by omega), h.row (k := t + 8) (by omega) (by omega) (by omega), h.row (k := t + 9) (by omega) (by omega) (by omega), h.row (k := t + 10) (by omega) (by omega) (by omega)]
  exact hI
theorem Ec.lwi {M0 M : zM} (h : Ec M0 M) {w : Nat} (hw : w ≤ 45) (hI : LwI M0 w) : LwI M w := by
  unfold LwI at hI ⊢
  rw [h.row (k := w) (by omega) (by omega) (by omega), h.row (k := w + 1) (by omega) (by omega) (by omega)]
  exact hI
theorem Ec.lwq {M0 M : zM} (h : Ec M0 M) {w : Nat} (hw : w ≤ 45) : lwf M w = lwf M0 w := by
  unfold lwf
  rw [h.row (k := w) (by omega) (by omega) (by omega), h.row (k := w + 1) (by omega) (by omega) (by omega)]
theorem bcnt_dec : ∀ x : Fin 64, 0 ≤ bcnt ((x.val : Nat) : Int) ∧ bcnt ((x.val : Nat) : Int) ≤ 6 ∧ bcnt ((x.val : Nat) : Int) = zsm (fun j => kbit ((x.val : Nat) : Int) j) 6 0 0 := by decide +kernel
theorem bcnt_in {x : Int} (h : 0 ≤ x ∧ x ≤ 63) : 0 ≤ bcnt x ∧ bcnt x ≤ 6 := by
  obtain ⟨k, rfl⟩ : ∃ k : Nat, x = (k : Int) := ⟨x.toNat, by omega⟩
  have := bcnt_dec ⟨k, by omega⟩
  exact ⟨this.1, this.2.1⟩
theorem bcnt_sum {x : Int} (h : 0 ≤ x ∧ x ≤ 63) : bcnt x = zsm (fun j => kbit x j) 6 0 0 := by
  obtain ⟨k, rfl⟩ : ∃ k : Nat, x = (k : Int) := ⟨x.toNat, by omega⟩
  exact (bcnt_dec ⟨k, by omega⟩).2.2
theorem lawE_in {r : Option Int} {w lo hi : Int} (h : lo ≤ hi) : lawE r w lo hi = w ∨ (lo ≤ lawE r w lo hi ∧ lawE r w lo hi ≤ hi) := by
  unfold lawE
  split
  · left; rfl
  · right
    split
    · omega
    · split <;> omega
end ZHP
section ZHP2
theorem lw_use {M M1 M2 : zM} {w : Nat} {nm : Int → Int} {x : Int} (hw : LwI M w) (hw4 : w ≤ 40) (h1 : (∀ (k : Nat) (i : Int), k ≠ 52 → M1 k i = M k i) ∧ ∀ i : Int, 0 ≤ i → i < 7 → M1 52 i = nm i) (h2 : Ew M1 M2 ∧ ((x = 1 ∧ lawS (M1 52) (M1 (w + 1)) (M1 w 1).toNat = some (M2 51 2)) ∨ (x = 0 ∧ lawS (M1 52) (M1 (w + 1)) (M1 w 1).toNat = none))) : Ec M M2 ∧ ((x = 1 ∧ lwf M w nm = some (M2 51 2)) ∨ (x = 0 ∧ lwf M w nm = none)) := by
  have e1 : M1 (w + 1) = M (w + 1) := funext fun i => h1.1 _ i (by omega)
  have e2 : M1 w 1 = M w 1 := h1.1 _ _ (by omega)
  have e3 : lawS (M1 52) (M1 (w + 1)) (M1 w 1).toNat = lwf M w nm := by
    rw [e1, e2]
    exact lwf_cong hw h1.2
  rw [e3] at h2
  exact ⟨fun k i a b c => (h2.1 k i b c).trans (h1.1 k i a), h2.2⟩
theorem nmf_lim {M1 : zM} {d g f kd hd ks hr : Int} (h : ∀ i : Int, 0 ≤ i → i < 7 → M1 52 i = nmf d g f kd hd ks hr i) (h1 : 0 ≤ d ∧ d ≤ 99) (h2 : 0 ≤ g ∧ g ≤ 9) (h3 : 0 ≤ f ∧ f ≤ 99) (h4 : 0 ≤ kd ∧ kd ≤ 9) (h5 : 0 ≤ hd ∧ hd ≤ 999) (h6 : 0 ≤ ks ∧ ks ≤ 6) (h7 : 0 ≤ hr ∧ hr ≤ 9999) : NmI M1 := fun i i0 i1 => by
  rw [h i i0 i1]
  rcases (show i = 0 ∨ i = 1 ∨ i = 2 ∨ i = 3 ∨ i = 4 ∨ i = 5 ∨ i = 6 by omega) with rfl | rfl | rfl | rfl | rfl | rfl | rfl <;> simp only [nmf] <;> simp <;> constructor <;> omega
theorem LwI_lk {M M1 : zM} {w : Nat} (hw4 : w ≤ 40) (h1 : ∀ (k : Nat) (i : Int), k ≠ 52 → M1 k i = M k i) (hw : LwI M w) : LwI M1 w := by
  unfold LwI at hw ⊢
  rw [show M1 w = M w from funext fun i => h1 _ i (by omega), show M1 (w + 1) = M (w + 1) from funext fun i => h1 _ i (by omega)]
  exact hw
theorem hrv_eq {ℓ : (Int → Int) → Option Int} {nr dh dO gh t c hour : Int} {r : Option Int} (h : ℓ (nmf dh gh (iabs (dh - dO)) 0 t c hour) = r) : hrv ℓ nr dh dO gh t c hour = if iabs (dh - dO) ≤ lawE r (nr + gh) 0 99 then 1 else 0 := by unfold hrv; rw [h]
theorem lwf_0 {M : zM} {w : Nat} (h : M w 1 ≤ 0) (nm : Int → Int) : lwf M w nm = none := by
  unfold lwf
  rw [show (M w 1).toNat = 0 by omega]
  rfl
theorem iabs_99 {x y : Int} (h1 : 0 ≤ x ∧ x ≤ 99) (h2 : 0 ≤ y ∧ y ≤ 99) : 0 ≤ iabs (x - y) ∧ iabs (x - y) ≤ 99 := by
  unfold iabs
  split <;> omega
end ZHP2
theorem hrv_n {ℓ : (Int → Int) → Option Int} {nr dh dO gh t c hour : Int} (h : ℓ (nmf dh gh (iabs (dh - dO)) 0 t c hour) = none) : hrv ℓ nr dh dO gh t c hour = if iabs (dh - dO) ≤ nr + gh then 1 else 0 := by unfold hrv; rw [h]; rfl
theorem hrv_s {ℓ : (Int → Int) → Option Int} {nr dh dO gh t c hour v : Int} (h : ℓ (nmf dh gh (iabs (dh - dO)) 0 t c hour) = some v) : hrv ℓ nr dh dO gh t c hour = if iabs (dh - dO) ≤ (if v < 0 then 0 else if 99 < v then 99 else v) then 1 else 0 := by unfold hrv; rw [h]; rfl
theorem ndv_n {ℓ : (Int → Int) → Option Int} {oft dh dO gh kd t c hour : Int} (h : ℓ (nmf dh gh (iabs (dh - dO)) kd t c hour) = none) : ndv ℓ oft dh dO gh kd t c hour = oft := by unfold ndv; rw [h]; rfl
theorem ndv_s {ℓ : (Int → Int) → Option Int} {oft dh dO gh kd t c hour v : Int} (h : ℓ (nmf dh gh (iabs (dh - dO)) kd t c hour) = some v) : ndv ℓ oft dh dO gh kd t c hour = (if v < 1 then 1 else if 99 < v then 99 else v) := by unfold ndv; rw [h]; rfl
