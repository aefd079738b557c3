section ZRDP
/-- a fault is told, if none was -/
def flM (M : zM) (c : Int) : zM := if M 42 6 = 0 then sm (sm M 42 6 c) 42 7 (M 43 10) else M
/-- the tokens and the one that is come to -/
def TV (M : zM) : Prop := (0 ≤ M 43 5 ∧ M 43 5 ≤ M 43 4 - 1 ∧ M 43 4 ≤ 701) ∧ (M 43 9 = M 45 (M 43 5) ∧ M 43 10 = M 46 (M 43 5) ∧ M 43 11 = M 47 (M 43 5)) ∧ M 45 (M 43 4 - 1) = 0
theorem TV.lt {M : zM} (h : TV M) (hs : M 43 9 ≠ 0) : -1 ≤ M 43 5 ∧ M 43 5 < M 43 4 - 1 ∧ M 43 4 ≤ 701 := by
  obtain ⟨h1, h2, h3⟩ := h
  refine ⟨by omega, ?_, h1.2.2⟩
  by_cases e : M 43 5 = M 43 4 - 1
  · exfalso; rw [h2.1, e] at hs; exact hs h3
  · omega
theorem stT_n (M : zM) {k : Nat} (h : k ≠ 43) : stT M k = M k := by unfold stT; rw [sm_n h, sm_n h, sm_n h, sm_n h]
theorem stT_4 (M : zM) : stT M 43 4 = M 43 4 ∧ stT M 43 5 = M 43 5 + 1 ∧ stT M 43 9 = M 45 (M 43 5 + 1) ∧ stT M 43 10 = M 46 (M 43 5 + 1) ∧ stT M 43 11 = M 47 (M 43 5 + 1) := by
  unfold stT
  refine ⟨?_, ?_, ?_, ?_, ?_⟩ <;> simp [sm, ur, us]
theorem TV.st {M : zM} (h : TV M) (hs : M 43 9 ≠ 0) : TV (stT M) := by
  have l := h.lt hs
  obtain ⟨h1, h2, h3⟩ := h
  obtain ⟨s1, s2, s3, s4, s5⟩ := stT_4 M
  unfold TV
  rw [s1, s2, s3, s4, s5, stT_n M (show 45 ≠ 43 by decide), stT_n M (show 46 ≠ 43 by decide), stT_n M (show 47 ≠ 43 by decide)]
  exact ⟨⟨by omega, by omega, by omega⟩, ⟨rfl, rfl, rfl⟩, h3⟩
theorem TV.of {M M' : zM} (h : TV M) (e43 : M' 43 = M 43) (e45 : M' 45 = M 45) (e46 : M' 46 = M 46) (e47 : M' 47 = M 47) : TV M' := by
  unfold TV at *
  rw [e43, e45, e46, e47]
  exact h
theorem flM_n (M : zM) (c : Int) {k : Nat} (h : k ≠ 42) : flM M c k = M k := by
  unfold flM
  split
  · rw [sm_n h, sm_n h]
  · rfl
theorem flM_42 (M : zM) (c : Int) {i : Int} (h : i ≠ 6 ∧ i ≠ 7) : flM M c 42 i = M 42 i := by
  unfold flM
  split
  · rw [sm_k, us_n h.2, sm_k, us_n h.1]
  · rfl
theorem flM_6 {M : zM} (c : Int) (h : M 42 6 = 0) : flM M c 42 6 = c ∧ flM M c 42 7 = M 43 10 := by
  unfold flM
  rw [if_pos h]
  exact ⟨by rw [sm_k, us_n (by decide), sm_s], by rw [sm_s]⟩
theorem flM_id {M : zM} (c : Int) (h : M 42 6 ≠ 0) : flM M c = M := by unfold flM; rw [if_neg h]
theorem TV.fl {M : zM} (h : TV M) (c : Int) : TV (flM M c) := h.of (flM_n M c (by decide)) (flM_n M c (by decide)) (flM_n M c (by decide)) (flM_n M c (by decide))
/-- a line's word -/
def lwM (a m : Int) (M : zM) : zM := if a < m then stT M else flM M 2
/-- a number is looked at, is taken -/
def lnM (lo hi : Int) (M : zM) : zM := if M 42 6 ≠ 0 then M else if M 43 9 ≠ 4 then flM M 1 else if lo ≤ M 43 11 ∧ M 43 11 ≤ hi then M else flM M 2
def lnV (lo hi : Int) (M : zM) : Int := if M 42 6 = 0 ∧ M 43 9 = 4 ∧ lo ≤ M 43 11 ∧ M 43 11 ≤ hi then M 43 11 else lo
def tkM (lo hi : Int) (M : zM) : zM := if lnM lo hi M 42 6 = 0 then stT (lnM lo hi M) else lnM lo hi M
/-- a name is taken -/
def hoT (t : Nat) (M : zM) (x : Int) : Int := zfind (M (t + 1)) x (M t 2).toNat 0
def nmM9 (t : Nat) (b : Int) (M : zM) : zM := if M 42 6 ≠ 0 then M else if M 43 9 ≠ 2 then flM M 1 else if b ≠ 0 ∧ hoT t M (M 43 11) ≠ -1 then flM M 3 else if b = 0 ∧ hoT t M (M 43 11) = -1 then flM M 4 else stT M
def tnV (M : zM) : Int := if M 42 6 ≠ 0 then 0 else M 43 11
/-- a line's end -/
def leM (t : Nat) (M : zM) : zM := if M 42 6 ≠ 0 then M else if M 43 9 = 5 ∧ M 43 11 = 15 then sm (stT M) t 0 (M t 0 + 1) else flM M 1
/-- the lines but laws -/
def rhM (t : Nat) (M : zM) : zM :=
  let M1 := lwM (M t 2) 6 M
  let M2 := nmM9 t 1 M1
  let M3 := tkM 0 99 M2
  let M4 := tkM 0 9 M3
  if M4 42 6 ≠ 0 then M4 else sm (sm (sm (sm M4 (t + 1) (M4 t 2) (tnV M1)) (t + 2) (M4 t 2) (lnV 0 99 M2)) (t + 3) (M4 t 2) (lnV 0 9 M3)) t 2 (M4 t 2 + 1)
def rtM (t : Nat) (M : zM) : zM :=
  let M1 := lwM (M t 6) 10 M
  let M2 := nmM9 t 0 M1
  let M3 := tkM 0 99 M2
  let M4 := tkM 0 99 M3
  if M4 42 6 ≠ 0 then M4 else sm (sm (sm (sm M4 (t + 4) (M4 t 6) (hoT t M2 (tnV M1))) (t + 5) (M4 t 6) (lnV 0 99 M2)) (t + 6) (M4 t 6) (lnV 0 99 M3)) t 6 (M4 t 6 + 1)
def sdT (t : Nat) (M : zM) (h x : Int) : Int := zsnd (M (t + 7)) (M (t + 8)) (M (t + 9)) h x (M t 10).toNat 0
def rdM (t : Nat) (M : zM) : zM :=
  let M1 := lwM (M t 10) 12 M
  let M2 := nmM9 t 0 M1
  let M3 := lnM 0 99 M2
  let M4 := if M3 42 6 = 0 ∧ sdT t M3 (hoT t M2 (tnV M1)) (lnV 0 99 M2) ≠ 0 then flM M3 3 else M3
  let M5 := if M4 42 6 = 0 then stT M4 else M4
  let M6 := tkM 1 9 M5
  if M6 42 6 ≠ 0 then M6 else sm (sm (sm (sm M6 (t + 7) (M6 t 10) (hoT t M2 (tnV M1))) (t + 8) (M6 t 10) (lnV 0 99 M2)) (t + 9) (M6 t 10) (lnV 1 9 M5)) t 10 (M6 t 10 + 1)
def reM (t : Nat) (k lo hi : Int) (M : zM) : zM :=
  if M (t + 11) k ≠ 0 then flM M 3 else
  let M1 := stT M
  let M2 := tkM lo hi M1
  if M2 42 6 ≠ 0 then M2 else sm (sm M2 (t + 11) k 1) (t + 10) k (lnV lo hi M1)
/-- the rank of a sign; of the last one aside -/
def rnkL : List Int := [1, 2, 3, 4, 4, 4, 4, 4, 4, 5, 5, 6, 6, 0]
def rnk (s : Int) : Int := rnkL.getD s.toNat 0
def rkA (M : zM) : Int := if 0 < M 42 4 then rnk (M 49 (M 42 4 - 1)) else 0
def paM (s : Int) (M : zM) : zM := if M 42 4 < 72 then sm (sm M 49 (M 42 4) s) 42 4 (M 42 4 + 1) else M
def tcM (t : Nat) (M : zM) : zM := if M t 1 < 64 then stT (sm M t 1 (M t 1 + 1)) else flM M 2
def toM (M : zM) : zM := if M 42 5 < 8 then stT (paM 13 (sm M 42 5 (M 42 5 + 1))) else flM M 2
def laM (w : Nat) (x : Int) (M : zM) : zM := if M w 1 < 64 then sm (sm M (w + 1) (M w 1) x) w 1 (M w 1 + 1) else M
def lyA (w : Nat) (r : Int) : Nat → zM → zM
  | 0, M => M
  | n + 1, M => if 0 < M 42 4 ∧ r ≤ rkA M then lyA w r n (laM w (20000 + M 49 (M 42 4 - 1)) (sm M 42 4 (M 42 4 - 1))) else M
def iaV (M : zM) : Int := if (M 43 9 = 5 ∧ M 43 11 = 13) ∨ (M 43 9 = 3 ∧ M 43 11 = 13 ∧ rkA M ≤ 3) then 1 else 0
def rpB (t : Nat) (M : zM) : zM := if M 43 9 = 5 ∧ M 43 11 = 13 then toM M else paM 2 (tcM t M)
def rpL (t : Nat) : Nat → zM → zM
  | 0, M => M
  | n + 1, M => if M 42 6 = 0 ∧ iaV M ≠ 0 then rpL t n (rpB t M) else M
def lfM (t w : Nat) (M : zM) : zM := if M 42 6 ≠ 0 then M else if M 43 9 = 3 ∧ 14 ≤ M 43 11 then laM w (10000 + M 43 11 - 14) (tcM t M) else if lnM 0 9999 M 42 6 = 0 then laM w (lnV 0 9999 M) (tcM t (lnM 0 9999 M)) else lnM 0 9999 M
def rpM (t w : Nat) (M : zM) : zM := lfM t w (rpL t 701 M)
def sgH (M : zM) : Int := if M 43 9 = 3 ∧ M 43 11 = 11 then 0 else if M 43 9 = 3 ∧ M 43 11 = 12 then 1 else if M 43 9 = 5 ∧ 3 ≤ M 43 11 ∧ M 43 11 ≤ 12 then M 43 11 else -1
def clM (w : Nat) (M : zM) : zM :=
  let M1 := lyA w 1 (M 42 4).toNat M
  stT (sm (sm M1 42 4 (M1 42 4 - 1)) 42 5 (M1 42 5 - 1))
def rbL (w : Nat) : Nat → zM → zM
  | 0, M => M
  | n + 1, M => if 0 < M 42 5 ∧ M 43 9 = 5 ∧ M 43 11 = 14 then rbL w n (clM w M) else M
def sgM9 (t w : Nat) (M : zM) : zM :=
  let r := rnk (sgH M)
  let M1 := lyA w (if r = 4 then r + 1 else r) (M 42 4).toNat M
  if r = 4 ∧ rkA M1 = 4 then flM M1 1 else paM (sgH M) (tcM t M1)
/-- what stands behind a part: the memory, and whether the law goes on -/
def rbM (t w : Nat) (M : zM) : zM × Int :=
  let M1 := rbL w 9 M
  if sgH M1 = -1 then (if 0 < M1 42 5 then flM M1 1 else M1, 0) else (sgM9 t w M1, if rnk (sgH M1) = 4 ∧ rkA (lyA w (if rnk (sgH M1) = 4 then rnk (sgH M1) + 1 else rnk (sgH M1)) (M1 42 4).toNat M1) = 4 then 0 else if sgM9 t w M1 42 6 = 0 then 1 else 0)
def lwL (t w : Nat) : Nat → Int → zM → zM
  | 0, _, M => M
  | n + 1, g, M => if g = 0 then M else
    let M1 := rpM t w M
    if M1 42 6 ≠ 0 then lwL t w n 0 M1 else lwL t w n (rbM t w M1).2 (rbM t w M1).1
/-- the signs aside: ranges, and as many open brackets as are counted -/
def cn13 (f : Int → Int) : Nat → Int
  | 0 => 0
  | n + 1 => cn13 f n + if f n = 13 then 1 else 0
def AsI (M : zM) : Prop := (0 ≤ M 42 4 ∧ M 42 4 ≤ 72) ∧ (∀ j : Int, 0 ≤ j → j < M 42 4 → 0 ≤ M 49 j ∧ M 49 j ≤ 13) ∧ (0 ≤ M 42 5 ∧ M 42 5 ≤ 8)
end ZRDP
