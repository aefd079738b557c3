section ZQ2
theorem hrM_cn {L : Nat} {P : zP} {M0 M : zM} {t : Nat} (hv : CV L P M0 t) (h : Cn t M0 M) (x y : Int) : hrM M t 61 x y = hrM M0 t 61 x y := by
  have ht := hv.1.2.2.2.1
  unfold hrM lwf
  rw [h.1 (t + 13) (by omega), h.1 (t + 13 + 1) (by omega), h.1 61 (by omega), h.1 (61 + 1) (by omega), h.1 (61 + 2) (by omega), h.1 (61 + 3) (by omega), h.1 (61 + 5) (by omega), h.2, hv.2.2.2.1]
theorem zbits_cong {f g : Int → Int} : ∀ (n : Nat) (i acc : Int), (∀ j, i ≤ j → j < i + n → (f j = 0 ↔ g j = 0)) → zbits f n i acc = zbits g n i acc
  | 0, i, acc, _ => rfl
  | n + 1, i, acc, h => by
    have h0 := h i (by omega) (by omega)
    unfold zbits
    by_cases c : f i = 0
    · rw [if_pos c, if_pos (h0.mp c)]
      exact zbits_cong n (i + 1) acc (fun j j0 j1 => h j (by omega) (by omega))
    · rw [if_neg c, if_neg (fun z => c (h0.mpr z))]
      exact zbits_cong n (i + 1) _ (fun j j0 j1 => h j (by omega) (by omega))
theorem zall_cong {f g : Int → Int} : ∀ (n : Nat) (i : Int), (∀ j, i ≤ j → j < i + n → (f j = 0 ↔ g j = 0)) → zall f n i = zall g n i
  | 0, i, _ => rfl
  | n + 1, i, h => by
    have h0 := h i (by omega) (by omega)
    unfold zall
    by_cases c : f i = 0
    · rw [if_pos c, if_pos (h0.mp c)]
    · rw [if_neg c, if_neg (fun z => c (h0.mpr z))]
      exact zall_cong n (i + 1) (fun j j0 j1 => h j (by omega) (by omega))
theorem zsm_cong {f g : Int → Int} : ∀ (n : Nat) (i acc : Int), (∀ j, i ≤ j → j < i + n → f j = g j) → zsm f n i acc = zsm g n i acc
  | 0, i, acc, _ => rfl
  | n + 1, i, acc, h => by
    unfold zsm
    rw [h i (by omega) (by omega)]
    exact zsm_cong n (i + 1) _ (fun j j0 j1 => h j (by omega) (by omega))
/-- who is reached by one more step, and by n steps -/
def rfI (b : Int → Int) (rc : Int) : Nat → Int → Int → Int
  | 0, _, mo => mo
  | n + 1, i, mo => rfI b rc n (i + 1) (if kbit rc i = 1 then b_ior mo (b i) else mo)
def rfO (b : Int → Int) (hs : Nat) : Nat → Int → Int
  | 0, rc => rc
  | n + 1, rc => rfO b hs n (rfI b rc hs 0 rc)
theorem rfI_cong {f g : Int → Int} (rc : Int) : ∀ (n : Nat) (i mo : Int), (∀ j, i ≤ j → j < i + n → f j = g j) → rfI f rc n i mo = rfI g rc n i mo
  | 0, i, mo, _ => rfl
  | n + 1, i, mo, h => by
    unfold rfI
    rw [h i (by omega) (by omega)]
    exact rfI_cong rc n (i + 1) _ (fun j j0 j1 => h j (by omega) (by omega))
theorem rfO_cong {f g : Int → Int} {hs : Nat} (h : ∀ j : Int, 0 ≤ j → j < hs → f j = g j) : ∀ (n : Nat) (rc : Int), rfO f hs n rc = rfO g hs n rc
  | 0, rc => rfl
  | n + 1, rc => by
    unfold rfO
    rw [rfI_cong rc hs 0 rc (fun j j0 j1 => h j j0 (by omega))]
    exact rfO_cong h n _
/-- who hears j; whom j hears -/
def hoC (M : zM) (t : Nat) (j : Int) : Int := zbits (fun i => if i = j then 0 else hrM M t 61 i j) (M t 2).toNat 0 0
def hbC (M : zM) (t : Nat) (j : Int) : Int := zbits (fun i => if i = j then 0 else hrM M t 61 j i) (M t 2).toNat 0 0
theorem hoC_cn {L : Nat} {P : zP} {M0 M : zM} {t : Nat} (hv : CV L P M0 t) (h : Cn t M0 M) (x : Int) : hoC M t x = hoC M0 t x := by
  have ht := hv.1.2.2.2.1
  unfold hoC
  rw [h.1 t (by omega)]
  exact zbits_cong _ _ _ (fun j j0 j1 => by rw [hrM_cn hv h])
theorem hbC_cn {L : Nat} {P : zP} {M0 M : zM} {t : Nat} (hv : CV L P M0 t) (h : Cn t M0 M) (x : Int) : hbC M t x = hbC M0 t x := by
  have ht := hv.1.2.2.2.1
  unfold hbC
  rw [h.1 t (by omega)]
  exact zbits_cong _ _ _ (fun j j0 j1 => by rw [hrM_cn hv h])
/-- the smallest set that warns all -/
def wnF (b : Int → Int) (hs : Nat) : Nat → Int → Int → Int
  | 0, _, best => best
  | n + 1, s, best => wnF b hs n (s + 1) (if bcnt s < bcnt best ∧ zall (fun i => b_iand (b i) s) hs 0 ≠ 0 then s else best)
theorem wnF_cong {f g : Int → Int} {hs : Nat} (h : ∀ j : Int, 0 ≤ j → j < hs → f j = g j) : ∀ (n : Nat) (s best : Int), wnF f hs n s best = wnF g hs n s best
  | 0, s, best => rfl
  | n + 1, s, best => by
    unfold wnF
    rw [zall_cong (f := fun i => b_iand (f i) s) (g := fun i => b_iand (g i) s) hs 0 (fun j j0 j1 => by simp only [h j j0 (by omega)])]
    exact wnF_cong h n _ _
theorem shl1 {h : Int} (h0 : 0 ≤ h) (h1 : h ≤ 6) : 1 ≤ b_ishl 1 h ∧ b_ishl 1 h ≤ 64 := by
  rcases (show h = 0 ∨ h = 1 ∨ h = 2 ∨ h = 3 ∨ h = 4 ∨ h = 5 ∨ h = 6 by omega) with rfl | rfl | rfl | rfl | rfl | rfl | rfl <;> decide
/-- how often a house sounds alike to another, later -/
def alC (M : zM) (t : Nat) (h g z : Int) : Int := zsm (fun j => if M (t + 7) j = h ∧ zsnd (M (t + 7)) (M (t + 8)) (M (t + 9)) g (M (t + 8) j + z) (M t 10).toNat 0 = M (t + 9) j then 1 else 0) (M t 10).toNat 0 0
theorem alC_in {M : zM} {t : Nat} (hI : ToI M t) (h g z : Int) : 0 ≤ alC M t h g z ∧ alC M t h g z ≤ 12 := by
  have q := hI.2.2.1
  have := zsm01 (fun j => M (t + 7) j = h ∧ zsnd (M (t + 7)) (M (t + 8)) (M (t + 9)) g (M (t + 8) j + z) (M t 10).toNat 0 = M (t + 9) j) (M t 10).toNat 0 0
  unfold alC
  omega
/-- how much later, of i = 2, 3, 4 .. -/
def ltr (i : Int) : Int := if i.tmod 2 = 0 then -(i.tdiv 2) else i.tdiv 2
def bfF (f : Int → Int) : Nat → Int → Int → Int → Int × Int
  | 0, _, best, most => (best, most)
  | n + 1, i, best, most => if most < f (ltr i) then bfF f n (i + 1) (ltr i) (f (ltr i)) else bfF f n (i + 1) best most
def soC (M : zM) (t : Nat) (h : Int) : Int := zsm (fun j => if M (t + 7) j = h then 1 else 0) (M t 10).toNat 0 0
theorem soC_in {M : zM} {t : Nat} (hI : ToI M t) (h : Int) : 0 ≤ soC M t h ∧ soC M t h ≤ 12 := by
  have q := hI.2.2.1
  have := zsm01 (fun j => M (t + 7) j = h) (M t 10).toNat 0 0
  unfold soC
  omega
def ldF (f : Int → Int) : Nat → Int → Int → Int → Int
  | 0, _, best, _ => best
  | n + 1, i, best, most => if most < f i then ldF f n (i + 1) i (f i) else ldF f n (i + 1) best most
/-- what a burglar has, what a house has, and when they rest -/
def bgC (M : zM) (t : Nat) (h b l : Int) : Int := (if b = l then 0 else 6) + (if zsnd (M (t + 7)) (M (t + 8)) (M (t + 9)) h (M 61 5 + b) (M t 10).toNat 0 ≠ 0 then 2 else 0)
def hsC (M : zM) (t : Nat) (h b l : Int) : Int := (if b = l then 5 else 0) - (if zsnd (M (t + 7)) (M (t + 8)) (M (t + 9)) h (M 61 5 + l) (M t 10).toNat 0 ≠ 0 then 6 else 0)
theorem bgC_in (M : zM) (t : Nat) (h b l : Int) : 0 ≤ bgC M t h b l ∧ bgC M t h b l ≤ 8 := by
  unfold bgC
  split <;> split <;> omega
theorem hsC_in (M : zM) (t : Nat) (h b l : Int) : -6 ≤ hsC M t h b l ∧ hsC M t h b l ≤ 5 := by
  unfold hsC
  split <;> split <;> omega
def rsC (M : zM) (t : Nat) (h b l : Int) : Int := zall (fun k => if bgC M t h b l < bgC M t h k l ∨ hsC M t h b l < hsC M t h b k then 0 else 1) 4 0
def rsO (f : Int → Int → Int) : Nat → Int → Int → Int
  | 0, _, acc => acc
  | n + 1, b, acc => rsO f n (b + 1) (zsm (f b) 4 0 acc)
def rtI (f : Int → Int) (b : Int) : Nat → Int → Int → Option Int × Int
  | 0, _, lf => (none, lf)
  | n + 1, i, lf => if f i = 0 then rtI f b n (i + 1) lf else if lf = 0 then (some (10 * b + i), lf) else rtI f b n (i + 1) (lf - 1)
def rtO (f : Int → Int → Int) : Nat → Int → Int → Int
  | 0, _, _ => -2
  | n + 1, b, lf => match rtI (f b) b 4 0 lf with
    | (some r, _) => r
    | (none, lf') => rtO f n (b + 1) lf'
/-- with the row of those that count -/
def nokF (c : Int → Int) (M : zM) (t : Nat) (h i : Int) : Int := if c i ≠ 0 ∧ M 202 i = 0 ∧ (if zsnd (M (t + 7)) (M (t + 8)) (M (t + 9)) h (M 203 i) (M t 10).toNat 0 = M 204 i then 1 else 0) ≠ M 206 i then 0 else 1
def sokF (c : Int → Int) (M Mp : zM) (a : Nat) (n i : Int) : Int := if c i ≠ 0 ∧ M 202 i = 1 ∧ M 203 i = n ∧ kbit (Mp (a + 3) (M 204 i)) (M 205 i) ≠ M 206 i then 0 else 1
def lsG (c : Int → Int) (M : zM) : Nat → Int → Int → Int
  | 0, _, acc => acc
  | n + 1, i, acc => lsG c M n (i + 1) (if c i ≠ 0 ∧ M 202 i = 1 then (if acc < M 203 i then M 203 i else acc) else acc)
def whC (M : zM) (t : Nat) : Int := zbits (fun i => zall (nokF (cntF M) M t i) (M 201 6).toNat 0) (M t 2).toNat 0 0
/-- the most that stay alike at an hour -/
def maC (M : zM) (t : Nat) (st9 x : Int) : Int := zmx (fun kd => zsm (fun j => if kbit st9 j = 1 ∧ zsnd (M (t + 7)) (M (t + 8)) (M (t + 9)) j x (M t 10).toNat 0 = kd then 1 else 0) (M t 2).toNat 0 0) 10 0 0
theorem zmx_in {f : Int → Int} {b : Int} (h : ∀ i, 0 ≤ f i ∧ f i ≤ b) : ∀ (n : Nat) (i acc : Int), 0 ≤ acc ∧ acc ≤ b → 0 ≤ zmx f n i acc ∧ zmx f n i acc ≤ b
  | 0, i, acc, ha => ha
  | n + 1, i, acc, ha => by
    unfold zmx
    have := h i
    exact zmx_in h n (i + 1) _ (by split <;> omega)
theorem maC_in {M : zM} {t : Nat} (hI : ToI M t) (st9 x : Int) : 0 ≤ maC M t st9 x ∧ maC M t st9 x ≤ 6 := by
  have q := hI.1
  refine zmx_in (b := 6) (fun kd => ?_) 10 0 0 (by omega)
  have := zsm01 (fun j => kbit st9 j = 1 ∧ zsnd (M (t + 7)) (M (t + 8)) (M (t + 9)) j x (M t 10).toNat 0 = kd) (M t 2).toNat 0 0
  omega
def akF (f : Int → Int) : Nat → Int → Int → Int → Int × Int
  | 0, _, best, few => (best, few)
  | n + 1, x, best, few => if f x < few then akF f n (x + 1) x (f x) else akF f n (x + 1) best few
def hoA (M : zM) (hs rch x : Int) : Int := zsm (fun j => if iabs (M (61 + 1) j - x) ≤ rch then 1 else 0) hs.toNat 0 0
/-- the dial where it is busiest -/
def bsF (f : Int → Int) : Nat → Int → Int → Int → Int × Int
  | 0, _, best, most => (best, most)
  | n + 1, x, best, most => if most < f x then bsF f n (x + 1) x (f x) else bsF f n (x + 1) best most
end ZQ2
