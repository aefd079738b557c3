section ZRLX
/-- the reference's code of a class's sign -/
def kc (c : Int) : Int := if c = 13 then 0 else if c = 2 then 2 else if c = 1 then 3 else if c = 0 then 4 else c + 2
theorem kc_r : ∀ c : Int, 0 ≤ c → c ≤ 13 → rRk (kc c) = rnk c ∧ (kc c = 0 ↔ c = 13) ∧ (kc c = 2 ↔ c = 2) ∧ 0 ≤ kc c ∧ kc c ≤ 14 := by
  have h : ∀ j : Fin 14, rRk (kc (j.val : Int)) = rnk (j.val : Int) ∧ (kc (j.val : Int) = 0 ↔ (j.val : Int) = 13) ∧ (kc (j.val : Int) = 2 ↔ (j.val : Int) = 2) ∧ 0 ≤ kc (j.val : Int) ∧ kc (j.val : Int) ≤ 14 := by decide +kernel
  intro c c0 c1
  have z := h ⟨c.toNat, by omega⟩
  rw [show ((c.toNat : Nat) : Int) = c by omega] at z
  exact z
/-- a stack of numbers in a row, its top first -/
def HS (f : Int → Int) : List Int → Int → Prop
  | [], h => h = 0
  | a :: r, h => f (h - 1) = a ∧ HS f r (h - 1)
theorem HS.len {f : Int → Int} : ∀ {l : List Int} {h : Int}, HS f l h → h = l.length
  | [], h, a => by simp only [HS] at a; rw [a]; rfl
  | x :: r, h, a => by
    simp only [HS] at a
    have z := HS.len a.2
    rw [List.length_cons]; omega
theorem HS.us {f : Int → Int} {i v : Int} : ∀ {l : List Int} {h : Int}, HS f l h → h ≤ i → HS (us f i v) l h
  | [], h, a, b => a
  | x :: r, h, a, b => by
    simp only [HS] at a ⊢
    exact ⟨by rw [us_n (by omega)]; exact a.1, HS.us a.2 (by omega)⟩
theorem HS.push {f : Int → Int} {l : List Int} {h : Int} (v : Int) (a : HS f l h) : HS (_root_.Jvm.Pilot.@@N@@.us f h v) (v :: l) (h + 1) := by
  simp only [HS]
  rw [show h + 1 - 1 = h by omega]
  exact ⟨us_s _ _ _, HS.us a (by omega)⟩
theorem HS.pop {f : Int → Int} {l : List Int} {h : Int} (a : HS f l h) (p : 0 < h) : f (h - 1) = l.headD 0 ∧ HS f (l.drop 1) (h - 1) := by
  cases l with
  | nil => simp only [HS] at a; omega
  | cons x r => simp only [HS] at a; exact a
/-- the stack of knots behind the first j of a law's text -/
def pst (g : Int → Int) (F : Int) : Nat → List Int
  | 0 => []
  | j + 1 => if g j < 20000 then (F + j) :: pst g F j else if g j = 20002 then (F + j) :: (pst g F j).drop 1 else (F + j) :: ((pst g F j).drop 1).drop 1
theorem pst_c {g g' : Int → Int} (F : Int) : ∀ n : Nat, (∀ j : Int, 0 ≤ j → j < n → g' j = g j) → pst g' F n = pst g F n
  | 0, _ => rfl
  | n + 1, h => by simp only [pst]; rw [pst_c F n (fun j a b => h j a (by omega)), h n (by omega) (by omega)]
def KnA (g : Int → Int) (F : Int) (j : Nat) (k p q : Int → Int) : Prop := if g j < 10000 then k (64 + F + j) = 0 ∧ p (64 + F + j) = g j else if g j < 20000 then k (64 + F + j) = 1 ∧ p (64 + F + j) = g j - 10000 else if g j = 20002 then k (64 + F + j) = 2 ∧ p (64 + F + j) = (pst g F j).headD 0 ∧ 1 ≤ (pst g F j).length else k (64 + F + j) = kc (g j - 20000) ∧ p (64 + F + j) = ((pst g F j).drop 1).headD 0 ∧ q (64 + F + j) = (pst g F j).headD 0 ∧ 2 ≤ (pst g F j).length
def KN (g : Int → Int) (F : Int) (o : Nat) (Mr : zM) : Prop := ∀ j : Nat, j < o → KnA g F j (Mr 226) (Mr 227) (Mr 228)
theorem KnA_c {g g' : Int → Int} {F : Int} {j : Nat} {k p q k' p' q' : Int → Int} (hg : ∀ i : Int, 0 ≤ i → i ≤ j → g' i = g i) (hk : k' (64 + F + j) = k (64 + F + j)) (hp : p' (64 + F + j) = p (64 + F + j)) (hq : q' (64 + F + j) = q (64 + F + j)) (h : KnA g F j k p q) : KnA g' F j k' p' q' := by
  unfold KnA at h ⊢
  rw [pst_c F j (fun i a b => hg i a (by omega)), hg j (by omega) (by omega), hk, hp, hq]
  exact h
/-- a law being read, class against reference -/
def LX (t w : Nat) (F : Int) (Mc Mr : zM) : Prop := (Mr 209 39 = Mc 42 4 ∧ ∀ j : Int, 0 ≤ j → j < Mc 42 4 → Mr 229 j = kc (Mc 49 j)) ∧ Mr 209 41 = Mc 42 5 ∧ Mr 209 42 = Mc t 1 ∧ Mr 209 19 = F + Mc w 1 ∧ KN (Mc (w + 1)) F (Mc w 1).toNat Mr ∧ HS (Mr 230) (pst (Mc (w + 1)) F (Mc w 1).toNat) (Mr 209 40)
/-- one more knot -/
theorem KN.gw {g : Int → Int} {F x k a b : Int} {o : Nat} {Mr : zM} (h : KN g F o Mr) (h19 : Mr 209 19 = F + o) (hx : KnA (us g o x) F o (us (Mr 226) (64 + F + o) k) (us (Mr 227) (64 + F + o) a) (us (Mr 228) (64 + F + o) b)) : KN (us g o x) F (o + 1) (gwM k a b Mr) := by
  intro j hj
  have e6 : gwM k a b Mr 226 = us (Mr 226) (64 + F + o) k := by unfold gwM; simp (disch := decide) only [sm_n, sm_k]; rw [h19]; rw [show 64 + (F + (o : Int)) = 64 + F + o by omega]
  have e7 : gwM k a b Mr 227 = us (Mr 227) (64 + F + o) a := by unfold gwM; simp (disch := decide) only [sm_n, sm_k]; rw [h19]; rw [show 64 + (F + (o : Int)) = 64 + F + o by omega]
  have e8 : gwM k a b Mr 228 = us (Mr 228) (64 + F + o) b := by unfold gwM; simp (disch := decide) only [sm_n, sm_k]; rw [h19]; rw [show 64 + (F + (o : Int)) = 64 + F + o by omega]
  rw [e6, e7, e8]
  by_cases ej : j = o
  · rw [ej]; exact hx
  · exact KnA_c (fun i a b => by rw [us_n (by omega)]) (by rw [us_n (by omega)]) (by rw [us_n (by omega)]) (by rw [us_n (by omega)]) (h j (by omega))
theorem gw_230 (k a b : Int) (M : zM) : gwM k a b M 230 = us (M 230) (M 209 40) (M 209 19) ∧ gwM k a b M 209 41 = M 209 41 ∧ gwM k a b M 209 42 = M 209 42 := by
  unfold gwM
  refine ⟨?_, ?_, ?_⟩ <;> simp (disch := decide) only [sm_n, sm_k, us_n]
/-- a sign that is bound -/
theorem LX.bd {t w : Nat} {F : Int} {Mc Mr : zM} (h : LX t w F Mc Mr) (tw : t < 41 ∧ w + 1 < 42 ∧ w ≠ t ∧ w + 1 ≠ t) (hw : 0 ≤ Mc w 1 ∧ Mc w 1 < 64) (h4 : 0 < Mc 42 4) (hc : 0 ≤ Mc 49 (Mc 42 4 - 1) ∧ Mc 49 (Mc 42 4 - 1) ≤ 12) (hb : Mc 49 (Mc 42 4 - 1) = 2 ∧ 1 ≤ Mr 209 40 ∨ 2 ≤ Mr 209 40) : LX t w F (laM w (20000 + Mc 49 (Mc 42 4 - 1)) (sm Mc 42 4 (Mc 42 4 - 1))) (bd1 Mr) := by
  obtain ⟨⟨a1, a2⟩, a3, a4, a5, a6, a7⟩ := h
  have ec : Mr 229 (Mr 209 39 - 1) = kc (Mc 49 (Mc 42 4 - 1)) := by rw [a1]; exact a2 _ (by omega) (by omega)
  obtain ⟨c, hcc⟩ : ∃ c, c = Mc 49 (Mc 42 4 - 1) := ⟨_, rfl⟩
  rw [← hcc] at hc hb ec ⊢
  have kr := kc_r c hc.1 (by omega)
  obtain ⟨o, ho⟩ : ∃ o : Nat, Mc w 1 = o := ⟨(Mc w 1).toNat, by omega⟩
  have eo : (Mc w 1).toNat = o := by omega
  rw [eo] at a6 a7
  rw [ho] at a5
  have eL : laM w (20000 + c) (sm Mc 42 4 (Mc 42 4 - 1)) = sm (sm (sm Mc 42 4 (Mc 42 4 - 1)) (w + 1) o (20000 + c)) w 1 ((o : Int) + 1) := by
    unfold laM
    rw [sm_n (show w ≠ 42 by omega), ho, if_pos (by omega)]
  rw [eL]
  have l1 : sm (sm (sm Mc 42 4 (Mc 42 4 - 1)) (w + 1) o (20000 + c)) w 1 ((o : Int) + 1) w 1 = (o : Int) + 1 := by rw [sm_k, us_s]
  have l2 : sm (sm (sm Mc 42 4 (Mc 42 4 - 1)) (w + 1) o (20000 + c)) w 1 ((o : Int) + 1) (w + 1) = us (Mc (w + 1)) o (20000 + c) := by rw [sm_n (by omega), sm_k, sm_n (by omega)]
  have l3 : sm (sm (sm Mc 42 4 (Mc 42 4 - 1)) (w + 1) o (20000 + c)) w 1 ((o : Int) + 1) 42 4 = Mc 42 4 - 1 := by rw [sm_n (by omega), sm_n (by omega), sm_k, us_s]
  have l4 : sm (sm (sm Mc 42 4 (Mc 42 4 - 1)) (w + 1) o (20000 + c)) w 1 ((o : Int) + 1) 42 5 = Mc 42 5 := by rw [sm_n (by omega), sm_n (by omega), sm_k, us_n (by decide)]
  have l5 : sm (sm (sm Mc 42 4 (Mc 42 4 - 1)) (w + 1) o (20000 + c)) w 1 ((o : Int) + 1) t 1 = Mc t 1 := by rw [sm_n (by omega), sm_n (by omega), sm_n (by omega)]
  have l6 : sm (sm (sm Mc 42 4 (Mc 42 4 - 1)) (w + 1) o (20000 + c)) w 1 ((o : Int) + 1) 49 = Mc 49 := by rw [sm_n (by omega), sm_n (by omega), sm_n (by omega)]
  have pc0 : pst (us (Mc (w + 1)) o (20000 + c)) F o = pst (Mc (w + 1)) F o := pst_c F o (fun j a b => by rw [us_n (by omega)])
  unfold LX
  rw [l1, l2, l3, l4, l5, l6, show ((o : Int) + 1).toNat = o + 1 by omega]
  have sx : ¬ (20000 + c < 20000) := by omega
  unfold bd1
  by_cases e2 : c = 2
  · have ek : Mr 229 (Mr 209 39 - 1) = 2 := by rw [ec]; exact kr.2.2.1.2 e2
    rw [if_pos ek]
    obtain ⟨N, eN⟩ : ∃ N, N = dhM (sm Mr 209 39 (Mr 209 39 - 1)) := ⟨_, rfl⟩
    have nr : ∀ k : Nat, k ≠ 209 → N k = Mr k := fun k hk => by rw [eN]; unfold dhM; rw [sm_n hk, sm_n hk]
    have n9 : N 209 39 = Mr 209 39 - 1 ∧ N 209 40 = Mr 209 40 - 1 ∧ N 209 19 = Mr 209 19 ∧ N 209 41 = Mr 209 41 ∧ N 209 42 = Mr 209 42 := by
      rw [eN]; unfold dhM
      refine ⟨?_, ?_, ?_, ?_, ?_⟩ <;> simp (disch := decide) only [sm_k, us_s, us_n]
    have ev : dhV (sm Mr 209 39 (Mr 209 39 - 1)) = (pst (Mc (w + 1)) F o).headD 0 := by
      unfold dhV
      rw [sm_n (by decide), sm_k, us_n (by decide)]
      exact (a7.pop (by omega)).1
    rw [← eN, ev, ek]
    obtain ⟨g1, g2, g3, g4⟩ := gw_r 2 ((pst (Mc (w + 1)) F o).headD 0) (-1) N
    obtain ⟨g5, g6, g7⟩ := gw_230 2 ((pst (Mc (w + 1)) F o).headD 0) (-1) N
    refine ⟨⟨by rw [g2, n9.1, a1], fun j j0 j1 => ?_⟩, by rw [g6, n9.2.2.2.1]; exact a3, by rw [g7, n9.2.2.2.2]; exact a4, by rw [g4, n9.2.2.1, a5]; omega, ?_, ?_⟩
    · rw [g1, nr 229 (by decide)]; exact a2 j j0 (by omega)
    · have kn : KN (Mc (w + 1)) F o N := fun j hj => by rw [nr 226 (by decide), nr 227 (by decide), nr 228 (by decide)]; exact a6 j hj
      refine kn.gw (by rw [n9.2.2.1]; exact a5) ?_
      unfold KnA
      rw [us_s, if_neg (by omega), if_neg sx, if_pos (by omega), us_s, us_s, pc0]; exact ⟨rfl, rfl, by have := a7.len; omega⟩
    · rw [g5, g3, n9.2.1, n9.2.2.1, nr 230 (by decide), a5]
      simp only [pst]
      rw [us_s, if_neg sx, if_pos (by omega), pc0]
      exact ((a7.pop (by omega)).2).push _
  · have ek : Mr 229 (Mr 209 39 - 1) ≠ 2 := by rw [ec]; exact fun z => e2 (kr.2.2.1.1 z)
    rw [if_neg ek]
    obtain ⟨N, eN⟩ : ∃ N, N = dhM (dhM (sm Mr 209 39 (Mr 209 39 - 1))) := ⟨_, rfl⟩
    have nr : ∀ k : Nat, k ≠ 209 → N k = Mr k := fun k hk => by rw [eN]; unfold dhM; rw [sm_n hk, sm_n hk, sm_n hk]
    have n9 : N 209 39 = Mr 209 39 - 1 ∧ N 209 40 = Mr 209 40 - 1 - 1 ∧ N 209 19 = Mr 209 19 ∧ N 209 41 = Mr 209 41 ∧ N 209 42 = Mr 209 42 := by
      rw [eN]; unfold dhM
      refine ⟨?_, ?_, ?_, ?_, ?_⟩ <;> simp (disch := decide) only [sm_k, us_s, us_n]
    have p1 := a7.pop (by omega)
    have p2 := p1.2.pop (by omega)
    have ev : dhV (sm Mr 209 39 (Mr 209 39 - 1)) = (pst (Mc (w + 1)) F o).headD 0 := by
      unfold dhV
      rw [sm_n (by decide), sm_k, us_n (by decide)]
      exact p1.1
    have ew : dhV (dhM (sm Mr 209 39 (Mr 209 39 - 1))) = ((pst (Mc (w + 1)) F o).drop 1).headD 0 := by
      unfold dhV dhM
      rw [sm_n (by decide), sm_n (by decide), sm_k, us_s, sm_k, us_n (by decide)]
      exact p2.1
    rw [← eN, ev, ew, ec]
    obtain ⟨g1, g2, g3, g4⟩ := gw_r (kc c) (((pst (Mc (w + 1)) F o).drop 1).headD 0) ((pst (Mc (w + 1)) F o).headD 0) N
    obtain ⟨g5, g6, g7⟩ := gw_230 (kc c) (((pst (Mc (w + 1)) F o).drop 1).headD 0) ((pst (Mc (w + 1)) F o).headD 0) N
    refine ⟨⟨by rw [g2, n9.1, a1], fun j j0 j1 => ?_⟩, by rw [g6, n9.2.2.2.1]; exact a3, by rw [g7, n9.2.2.2.2]; exact a4, by rw [g4, n9.2.2.1, a5]; omega, ?_, ?_⟩
    · rw [g1, nr 229 (by decide)]; exact a2 j j0 (by omega)
    · have kn : KN (Mc (w + 1)) F o N := fun j hj => by rw [nr 226 (by decide), nr 227 (by decide), nr 228 (by decide)]; exact a6 j hj
      refine kn.gw (by rw [n9.2.2.1]; exact a5) ?_
      unfold KnA
      rw [us_s, if_neg (by omega), if_neg sx, if_neg (by omega), us_s, us_s, us_s, pc0, show 20000 + c - 20000 = c by omega]; exact ⟨rfl, rfl, rfl, by have := a7.len; omega⟩
    · rw [g5, g3, n9.2.1, n9.2.2.1, nr 230 (by decide), a5]
      simp only [pst]
      rw [us_s, if_neg sx, if_neg (by omega), pc0]
      exact p2.2.push _
end ZRLX
