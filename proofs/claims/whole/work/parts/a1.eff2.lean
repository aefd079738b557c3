section ZEFF2
theorem SmI.of9 {R R' : zM} (h : SmI R 0) (e : ∀ (k : Nat) (i : Int), (233 ≤ k ∧ k ≤ 236) ∨ k = 238 → R' k i = R k i) : SmI R' 0 := by
  obtain ⟨a, b, c, d⟩ := h
  refine ⟨fun i x y => ?_, fun i x y => ?_, fun i x y => ?_, ?_⟩
  · rw [e 233 _ (by omega)]; exact a i x y
  · rw [e 234 _ (by omega)]; exact b i x y
  · rw [e 236 _ (by omega)]; exact c i x y
  · rw [e 238 _ (by omega)]; exact d
theorem RN.n6 {t : Nat} {C R : zM} (h : RN t C R) : 0 ≤ C t 2 ∧ C t 2 ≤ 6 := h.2.2.2.1.1.1
/-- what is now is remembered; what was tried before doesn't matter -/
theorem e_push {t : Nat} {C C1 R R2 R1 : zM} (rn : RN t C R) (un : UN t C R) (im : IM t C R) (sm9 : SmI R 0) (e2 : ∀ (k : Nat) (i : Int), ¬ (k = 209 ∧ (i = 2 ∨ (55 ≤ i ∧ i ≤ 60))) → R2 k i = R k i) (hp : PsR C C1) (hm : RmR R2 R1) : RN t C1 R1 ∧ UN t C1 R1 ∧ IM t C1 R1 ∧ SmI R1 0 ∧ (∀ k : Nat, k ≤ 78 ∨ 201 ≤ k → C1 k = C k) ∧ (∀ (k : Nat) (i : Int), k ≠ 241 → ¬ (k = 209 ∧ i = 65) → R1 k i = R2 k i) := by
  have n6 := rn.n6
  have er : ∀ k : Nat, k ≠ 209 → R2 k = R k := fun k hk => funext fun i => e2 k i (by omega)
  have rn2 : RN t C R2 := rn.of (fun _ _ => rfl) rfl (fun k hk => er k (by omega)) (fun i hi => e2 209 i (by omega))
  have un2 : UN t C R2 := un.of n6.2 rfl (fun _ _ => rfl) rfl rfl (er 241 (by decide)) (e2 209 65 (by omega))
  have im2 : IM t C R2 := im.of n6.2 rfl (fun _ _ => rfl) rfl (er 242 (by decide)) (fun i hi => e2 209 i (by omega))
  have s2 : SmI R2 0 := sm9.of9 (fun k i hk => e2 k i (by omega))
  obtain ⟨u, c, r⟩ := un2.push rn2 s2 hp hm
  have ht := rn.2.2.2.2.1
  refine ⟨rn2.of (fun k hk => c k (by omega)) (by rw [c 50 (by omega)]) (fun k hk => funext fun i => r k i (by omega) (by omega)) (fun i hi => r 209 i (by decide) (by omega)), u, im2.of n6.2 (by rw [c t (by omega)]) (fun k hk => c k (by omega)) (by rw [c 2 (by omega)]) (funext fun i => r 242 i (by decide) (by omega)) (fun i hi => r 209 i (by decide) (by omega)), s2.of9 (fun k i hk => r k i (by omega) (by omega)), c, r⟩
/-- a change of the state alone -/
theorem e_state {t : Nat} {C1 C' R1 R' : zM} (rn : RN t C1 R1) (un : UN t C1 R1) (im : IM t C1 R1) (fa : Fa 61 C1 C') (f5 : C' 61 5 = C1 61 5) (f6 : C' 61 6 = C1 61 6) (fb : Fb 0 R1 R') (g54 : R' 209 54 = R1 209 54) (s : SRl t 61 0 C' R') (i : StI C' 61) : RN t C' R' ∧ UN t C' R' ∧ IM t C' R' := by
  have n6 := rn.n6
  obtain ⟨k, _, n, ⟨i1, i2⟩, ht, h5⟩ := id rn
  have ec : ∀ q : Nat, ¬ (61 ≤ q ∧ q ≤ 66) → C' q = C1 q := fun q hq => fa q (by omega)
  refine ⟨⟨k.of (fun q x y => ec q (by omega)) (fun q x y => fb.row (by omega)) (fun i x y => fb.c (by omega)), s, by rw [g54, f6]; exact n, ⟨i1.eq (fun q x y => ec q (by omega)), i⟩, ht, by rw [ec 50 (by omega), ec (t + 10) (by omega)]; exact h5⟩, un.of n6.2 (by rw [ec t (by omega)]) (fun q hq => ec q (by omega)) f5 f6 (fb.row (by omega)) (fb.c (by decide)), im.of n6.2 (by rw [ec t (by omega)]) (fun q hq => ec q (by omega)) (by rw [ec 2 (by omega)]) (fb.row (by omega)) (fun i hi => fb.c (by omega))⟩
theorem e_turn {t : Nat} {h d : Int} {C1 R1 : zM} (rn : RN t C1 R1) (un : UN t C1 R1) (im : IM t C1 R1) (sm9 : SmI R1 0) (hh : 0 ≤ h ∧ h < C1 t 2) (hd : 0 ≤ d ∧ d ≤ 99) : (RN t (sm C1 62 h d) (sm R1 233 h d) ∧ UN t (sm C1 62 h d) (sm R1 233 h d) ∧ IM t (sm C1 62 h d) (sm R1 233 h d)) ∧ SmI (sm R1 233 h d) 0 := by
  have n6 := rn.n6
  obtain ⟨k, s, n, ⟨i1, i2⟩, ht, h5⟩ := id rn
  have s2 := s.d (i := h) (v := d) ⟨by omega, by decide⟩ ⟨hh.1, by omega⟩
  rw [show 6 * (0 : Int) + h = h by omega] at s2
  refine ⟨e_state rn un im ((Fa.rf 61 _).sm (by decide) _ _) (by rw [sm_n (by decide)]) (by rw [sm_n (by decide)]) ((Fb.rf 0 _).sm _ (by omega)) (by rw [sm_n (by decide)]) s2 (i2.d rfl hd), ?_⟩
  obtain ⟨a, b, c, e⟩ := sm9
  refine ⟨fun i x y => ?_, fun i x y => by rw [sm_n (by decide)]; exact b i x y, fun i x y => by rw [sm_n (by decide)]; exact c i x y, by rw [sm_n (by decide)]; exact e⟩
  rw [sm_k]
  exact us_r hd (a i x y)
theorem e_valve {t : Nat} {h d : Int} {C1 R1 : zM} (rn : RN t C1 R1) (un : UN t C1 R1) (im : IM t C1 R1) (sm9 : SmI R1 0) (hh : 0 ≤ h ∧ h < C1 t 2) (hd : 0 ≤ d ∧ d ≤ 9) : (RN t (sm C1 63 h d) (sm R1 234 h d) ∧ UN t (sm C1 63 h d) (sm R1 234 h d) ∧ IM t (sm C1 63 h d) (sm R1 234 h d)) ∧ SmI (sm R1 234 h d) 0 := by
  have n6 := rn.n6
  obtain ⟨k, s, n, ⟨i1, i2⟩, ht, h5⟩ := id rn
  have s2 := s.g (i := h) (v := d) ⟨by omega, by decide⟩ hh
  rw [show 6 * (0 : Int) + h = h by omega] at s2
  refine ⟨e_state rn un im ((Fa.rf 61 _).sm (by decide) _ _) (by rw [sm_n (by decide)]) (by rw [sm_n (by decide)]) ((Fb.rf 0 _).sm _ (by omega)) (by rw [sm_n (by decide)]) s2 (i2.g rfl hd), ?_⟩
  obtain ⟨a, b, c, e⟩ := sm9
  refine ⟨fun i x y => by rw [sm_n (by decide)]; exact a i x y, fun i x y => ?_, fun i x y => by rw [sm_n (by decide)]; exact c i x y, by rw [sm_n (by decide)]; exact e⟩
  rw [sm_k]
  exact us_r hd (b i x y)
/-- a sound made -/
theorem learn_a (C : zM) (t a : Nat) (x y kd : Int) : learnM C t a x y kd a = C a := by
  have e : hearM C a x y kd a = C a := by unfold hearM; rw [sm_n (by omega), sm_n (by omega)]
  unfold learnM
  split
  · rw [sm_n (by omega), e]
  · exact e
theorem sd_a (t a : Nat) (y kd : Int) : ∀ (n : Nat) (i : Int) (C : zM) (acc : Int), (sdM t a y kd n i C acc).1 a = C a
  | 0, i, C, acc => rfl
  | n + 1, i, C, acc => by
    unfold sdM
    split
    · exact sd_a t a y kd n _ C acc
    · rw [sd_a t a y kd n _ _ _, learn_a]
theorem learn_9 (R : zM) (b x y kd : Int) {k : Nat} (hk : k ≠ 235) (hk2 : k ≠ 236) (hk3 : k ≠ 237) : learnR R b x y kd k = R k := by
  have e : hearR R b x y kd k = R k := by unfold hearR; rw [sm_n hk, sm_n hk2]
  unfold learnR
  split
  · rw [sm_n hk3, e]
  · exact e
theorem sd_9 (b y kd : Int) {k : Nat} (hk : k ≠ 235) (hk2 : k ≠ 236) (hk3 : k ≠ 237) : ∀ (n : Nat) (i : Int) (R : zM) (acc : Int), (sdR b y kd n i R acc).1 k = R k
  | 0, i, R, acc => rfl
  | n + 1, i, R, acc => by
    unfold sdR
    split
    · exact sd_9 b y kd hk hk2 hk3 n _ R acc
    · rw [sd_9 b y kd hk hk2 hk3 n _ _ _, learn_9 _ _ _ _ _ hk hk2 hk3]
theorem RH.sda {t a : Nat} {b y kd : Int} (hb : b = 0 ∨ b = 1) (hk : 0 ≤ kd ∧ kd ≤ 9) : ∀ (n : Nat) (i : Int) (C R : zM) (acc : Int), RH t a b C R → 0 ≤ i → i + n ≤ C t 2 → 0 ≤ y ∧ y < C t 2 → (sdR b y kd n i R acc).2 = (sdM t a y kd n i C acc).2
  | 0, i, C, R, acc, _, _, _, _ => rfl
  | n + 1, i, C, R, acc, h, i0, i1, hy => by
    have hr := h.hr (x := i) (y := y) ⟨i0, by omega⟩ hy
    unfold sdM sdR
    rw [hr]
    by_cases e : i = y
    · rw [if_pos (Or.inl e), if_pos e, if_pos rfl]
      exact RH.sda hb hk n (i + 1) C R acc h (by omega) (by omega) hy
    · rw [if_neg e]
      by_cases z : hrM C t a i y = 0
      · rw [if_pos (Or.inr z), if_pos z]
        exact RH.sda hb hk n (i + 1) C R acc h (by omega) (by omega) hy
      · rw [if_neg z, if_neg (show ¬ (i = y ∨ hrM C t a i y = 0) from fun q => q.elim e z)]
        have g := h.learn (x := i) (y := y) (kd := kd) hb ⟨i0, by omega⟩ hy hk
        have et : learnM C t a i y kd t 2 = C t 2 := by rw [learnM_Fa C t a i y kd t (by have := h.2.2.2.2; omega)]
        exact RH.sda hb hk n (i + 1) _ _ _ g (by omega) (by rw [et]; omega) (by rw [et]; exact hy)
theorem e_make {t : Nat} {h d : Int} {C1 C' R1 R' : zM} (rn : RN t C1 R1) (un : UN t C1 R1) (im : IM t C1 R1) (h60 : R1 209 60 = R1 213 0) (hh : 0 ≤ h ∧ h < C1 t 2) (hd : 1 ≤ d ∧ d ≤ 9) (ec : Ec (sdM t 61 h d (C1 t 2).toNat 0 C1 0).1 C') (es : Es (sdR 0 h d (R1 209 12).toNat 0 R1 0).1 R') : (RN t C' R' ∧ UN t C' R' ∧ IM t C' R') ∧ (sdR 0 h d (R1 209 12).toNat 0 R1 0).2 = (sdM t 61 h d (C1 t 2).toNat 0 C1 0).2 := by
  have n6 := rn.n6
  obtain ⟨k, s, n, ⟨i1, i2⟩, ht, h5⟩ := id rn
  have rh : RH t 61 0 C1 R1 := ⟨k, s, by rw [h60, h5]; exact k.2.2.2.2.1 0 (by decide) (by decide), ⟨i1, i2⟩, ht, by decide⟩
  have e12 : R1 209 12 = C1 t 2 := k.1.1
  rw [e12] at es ⊢
  have sd := RH.sd (t := t) (a := 61) (b := 0) (y := h) (kd := d) (Or.inl rfl) (by omega) (C1 t 2).toNat 0 C1 R1 0 rh (by omega) (by omega) hh
  have ac := RH.sda (t := t) (a := 61) (b := 0) (y := h) (kd := d) (Or.inl rfl) (by omega) (C1 t 2).toNat 0 C1 R1 0 rh (by omega) (by omega) hh
  obtain ⟨D, eD⟩ : ∃ D, D = (sdM t 61 h d (C1 t 2).toNat 0 C1 0).1 := ⟨_, rfl⟩
  obtain ⟨S, eS⟩ : ∃ S, S = (sdR 0 h d (C1 t 2).toNat 0 R1 0).1 := ⟨_, rfl⟩
  have fa : Fa 61 C1 D := by rw [eD]; exact sdM_Fa t 61 _ _ _ _ C1 0
  have da : D 61 = C1 61 := by rw [eD]; exact sd_a t 61 h d _ _ C1 0
  have s9 : ∀ q : Nat, q ≠ 235 → q ≠ 236 → q ≠ 237 → S q = R1 q := fun q a b c => by rw [eS]; exact sd_9 0 h d a b c _ _ R1 0
  have fb : Fb 0 R1 S := by rw [eS]; exact sdR_Fb d ⟨hh.1, by omega⟩ _ _ _ _ (by omega) (by omega)
  rw [← eD] at sd ec
  rw [← eS] at sd es
  have st := e_state rn un im fa (by rw [da]) (by rw [da]) fb (by rw [s9 209 (by decide) (by decide) (by decide)]) sd.2.1 sd.2.2.2.1.2
  have n62 := st.1.n6
  refine ⟨⟨st.1.of (fun q hq => ec.row (by omega) (by omega) (by omega)) (ec 50 1 (by decide) (by decide) (by omega)) (fun q hq => es.row (by omega) (by omega) (by omega)) (fun i hi => es 209 i (by decide) (by decide) (by omega)), st.2.1.of n62.2 (by rw [ec.row (by omega) (by omega) (by omega)]) (fun q hq => ec.row (by omega) (by omega) (by omega)) (by rw [ec.row (by decide) (by decide) (by decide)]) (by rw [ec.row (by decide) (by decide) (by decide)]) (es.row (by decide) (by decide) (by decide)) (es 209 65 (by decide) (by decide) (by omega)), st.2.2.of n62.2 (by rw [ec.row (by omega) (by omega) (by omega)]) (fun q hq => ec.row (by omega) (by omega) (by omega)) (by rw [ec.row (by decide) (by decide) (by decide)]) (es.row (by decide) (by decide) (by decide)) (fun i hi => es 209 i (by decide) (by decide) (by omega))⟩, ac⟩
end ZEFF2
