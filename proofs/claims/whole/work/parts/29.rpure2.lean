section ZRQ
variable {G : zG} {l : Launch} {md : zMd} {Z : zZ} {pc : Nat} {ls : List (Option av)} {st : List av} {lay : List zKd} {P : zP} {M : zM} {k n : Nat}
theorem c_tabIn {dflt lo hi : Int} {offs : Array Int} {len : Nat} {x c off : Int} {tgt : Nat} (e : x = c) (d : decode md.2.2.1 pc = .ok (.tableswitch dflt lo hi offs, len)) (hx : inR c) (h1 : lo ≤ c) (h2 : c ≤ hi) (ho : offs[(c - lo).toNat]? = some off) (ht : (pc : Int) + off = (tgt : Int)) (kk : AW G l md Z tgt ls st lay P M k n) : AW G l md Z pc ls (aI x :: st) lay P M k n := by
  subst e
  exact a_tabIn d hx h1 h2 ho ht kk
theorem vV_lo {nm kn pt ot V : Int → Int} {err i s : Int} (h3 : 3 ≤ kn i) (h : kn i < 11) (hs : sgn (kn i) = s) : vV nm kn pt ot V err i = jn s (V (pt i)) (V (ot i)) := by
  unfold vV
  rw [if_neg (by omega), if_neg (by omega), if_neg (by omega), if_neg (fun z => by omega), hs]
theorem vE_hi {kn pt ot V : Int → Int} {err i s : Int} (h : 11 ≤ kn i) (hs : sgn (kn i) = s) : vE kn pt ot V err i = if err ≠ 0 ∨ ¬ lim (jn s (V (pt i)) (V (ot i))) then 1 else 0 := by
  unfold vE
  rw [hs]
  by_cases c : err ≠ 0 ∨ ¬ lim (jn s (V (pt i)) (V (ot i)))
  · rw [if_pos c, if_pos (c.imp id (fun z => ⟨h, z⟩))]
  · rw [if_neg c, if_neg (fun z => c (z.imp id (fun q => q.2)))]
theorem vV_hi {nm kn pt ot V : Int → Int} {err i s : Int} (h : 11 ≤ kn i) (hs : sgn (kn i) = s) : vV nm kn pt ot V err i = if err ≠ 0 ∨ ¬ lim (jn s (V (pt i)) (V (ot i))) then 0 else jn s (V (pt i)) (V (ot i)) := by
  unfold vV
  rw [if_neg (by omega), if_neg (by omega), if_neg (by omega), vE_hi h hs, hs]
  by_cases c : err ≠ 0 ∨ ¬ lim (jn s (V (pt i)) (V (ot i)))
  · rw [if_pos c, if_pos c, if_pos ⟨h, by decide⟩]
  · rw [if_neg c, if_neg c, if_neg (fun z => z.2 rfl)]
theorem ifl (e y p q : Int) : (if e ≠ 0 ∨ 1000000000000 < y ∨ y < -1000000000000 then p else q) = if e ≠ 0 ∨ ¬ lim y then p else q := by
  by_cases c : e ≠ 0 ∨ 1000000000000 < y ∨ y < -1000000000000
  · rw [if_pos c, if_pos (c.imp id (fun z => by omega))]
  · rw [if_neg c, if_neg (fun z => c (z.imp id (fun z => by omega)))]
theorem ifm (e a b p q : Int) : (if e ≠ 0 ∨ (a ≠ 0 ∧ b ≠ 0 ∧ (1000000000000 : Int).tdiv (labs a) < labs b) then p else q) = if e ≠ 0 ∨ ¬ lim (jn 11 a b) then p else q := by
  by_cases c : e ≠ 0 ∨ (a ≠ 0 ∧ b ≠ 0 ∧ (1000000000000 : Int).tdiv (labs a) < labs b)
  · rw [if_pos c, if_pos (c.imp id mul_much.mp)]
  · rw [if_neg c, if_neg (fun z => c (z.imp id mul_much.mpr))]
theorem ifm2 (e a b : Int) : (if e ≠ 0 ∨ (a ≠ 0 ∧ b ≠ 0 ∧ (1000000000000 : Int).tdiv (labs a) < labs b) then 0 else a * b) = if e ≠ 0 ∨ ¬ lim (jn 11 a b) then 0 else jn 11 a b := by
  by_cases c : e ≠ 0 ∨ (a ≠ 0 ∧ b ≠ 0 ∧ (1000000000000 : Int).tdiv (labs a) < labs b)
  · rw [if_pos c, if_pos (c.imp id mul_much.mp)]
  · rw [if_neg c, if_neg (fun z => c (z.imp id mul_much.mpr)), jn_mul, if_neg]
    rintro ⟨h1, h2⟩
    refine c (Or.inr ⟨h1, fun e0 => ?_, h2⟩)
    rw [e0, labs0] at h2
    have := tdiv_nn a
    omega
theorem er1 {M : zM} {v : Int} : ∀ (k : Nat) (j : Int), ¬ (k = 209 ∧ j = 47) → sm M 209 47 v k j = M k j := fun k j h => by
  by_cases e : k = 209
  · subst e
    rw [sm_k, us_n (fun z => h ⟨rfl, z⟩)]
  · rw [sm_n e]
theorem rLaw_of {nm kn pt ot V : Int → Int} {e f : Int} {n : Nat} (h : rV nm kn pt ot n f (fun _ => 0) 0 = (V, e)) : rLaw nm kn pt ot f n = if e = 0 then some (V (f + n - 1)) else none := by
  unfold rLaw
  rw [h]
theorem vV_0 {nm kn pt ot V : Int → Int} {err i : Int} (h : kn i = 0) : vV nm kn pt ot V err i = pt i := by unfold vV; rw [if_pos h]
theorem vV_1 {nm kn pt ot V : Int → Int} {err i : Int} (h : kn i = 1) : vV nm kn pt ot V err i = nm (pt i) := by unfold vV; rw [if_neg (by omega), if_pos h]
theorem vV_2 {nm kn pt ot V : Int → Int} {err i : Int} (h : kn i = 2) : vV nm kn pt ot V err i = if V (pt i) = 0 then 1 else 0 := by unfold vV; rw [if_neg (by omega), if_neg (by omega), if_pos h]
end ZRQ
