set_option maxRecDepth 100000 in
set_option maxHeartbeats 4000000 in
theorem m_X11_bounded {G : zG} {l : Launch} {L : Nat} {P : zP} {M : zM} {x : Int} (hx : -3000000000000 ≤ x ∧ x ≤ 3000000000000) : AM G l yX11_bounded mdX11_bounded [aR 209, aL x] (LAY L) P M (zdet (some (aL (if M 209 47 ≠ 0 ∨ 1000000000000 < x ∨ x < -1000000000000 then 0 else x))) (LAY L) P (sm M 209 47 (if M 209 47 ≠ 0 ∨ 1000000000000 < x ∨ x < -1000000000000 then 1 else 0))) := by
  refine AM.go [some (aR 209), some (aL x), none] rfl (Nat.le_of_ble_eq_true rfl) ?_ (by decide) rfl rfl
  refine a_aloadn dX11_bounded_0 rfl ?_
  refine a_aloadn dX11_bounded_1 rfl ?_
  refine b_getZ (j' := 47) dX11_bounded_2 flX11_296 rfl rfl (L209 L) (fun hr2 => ?_)
  refine a_if_ne (tgt := 24) dX11_bounded_5 (by decide) (by rcases hr2 with z | z <;> exact ⟨by omega, by omega⟩) (fun hb5 => ?_) (fun hb5 => ?_)
  · refine a_iconst dX11_bounded_24 ?_
    refine a_goto (tgt := 29) dX11_bounded_25 (by decide) ?_
    refine a_putZ (j' := 47) dX11_bounded_29 flX11_296 rfl rfl (L209 L) (by decide) rfl (by omega) ?_
    refine a_aloadn dX11_bounded_32 rfl ?_
    refine b_getZ (j' := 47) dX11_bounded_33 flX11_296 rfl rfl (L209 L) (fun hr33 => ?_)
    rw [sm_s] at hr33
    rw [sm_s]
    refine a_if_eq (tgt := 43) dX11_bounded_36 (by decide) ⟨by omega, by omega⟩ (fun hb36 => ?_) (fun hb36 => ?_)
    · refine a_lloadn dX11_bounded_43 rfl ?_
      exact a_lreturn dX11_bounded_44 rfl rfl rfl (zdet_L (by first | (exfalso; omega) | (rw [if_pos (by omega)]; done) | (rw [if_neg (by omega)]; done)) (by first | (exfalso; omega) | (rw [if_pos (by omega)]; done) | (rw [if_neg (by omega)]; done)))
    · refine a_lconst (w := 0) dX11_bounded_39 (by decide) ?_
      refine a_goto (tgt := 44) dX11_bounded_40 (by decide) ?_
      exact a_lreturn dX11_bounded_44 rfl rfl rfl (zdet_L (by first | (exfalso; omega) | (rw [if_pos (by omega)]; done) | (rw [if_neg (by omega)]; done)) (by first | (exfalso; omega) | (rw [if_pos (by omega)]; done) | (rw [if_neg (by omega)]; done)))
  · refine a_lloadn dX11_bounded_8 rfl ?_
    refine a_ldc2 (w := 1000000000000) dX11_bounded_9 knX11_299 (by decide) ?_
    refine c_lcmp dX11_bounded_12 ⟨by omega, by omega⟩ ⟨by omega, by omega⟩ (fun r12 hq12 => ?_)
    refine a_if_gt (tgt := 24) dX11_bounded_13 (by decide) ⟨by omega, by omega⟩ (fun hb13 => ?_) (fun hb13 => ?_)
    · refine a_iconst dX11_bounded_24 ?_
      refine a_goto (tgt := 29) dX11_bounded_25 (by decide) ?_
      refine a_putZ (j' := 47) dX11_bounded_29 flX11_296 rfl rfl (L209 L) (by decide) rfl (by omega) ?_
      refine a_aloadn dX11_bounded_32 rfl ?_
      refine b_getZ (j' := 47) dX11_bounded_33 flX11_296 rfl rfl (L209 L) (fun hr33 => ?_)
      rw [sm_s] at hr33
      rw [sm_s]
      refine a_if_eq (tgt := 43) dX11_bounded_36 (by decide) ⟨by omega, by omega⟩ (fun hb36 => ?_) (fun hb36 => ?_)
      · refine a_lloadn dX11_bounded_43 rfl ?_
        exact a_lreturn dX11_bounded_44 rfl rfl rfl (zdet_L (by first | (exfalso; omega) | (rw [if_pos (by omega)]; done) | (rw [if_neg (by omega)]; done)) (by first | (exfalso; omega) | (rw [if_pos (by omega)]; done) | (rw [if_neg (by omega)]; done)))
      · refine a_lconst (w := 0) dX11_bounded_39 (by decide) ?_
        refine a_goto (tgt := 44) dX11_bounded_40 (by decide) ?_
        exact a_lreturn dX11_bounded_44 rfl rfl rfl (zdet_L (by first | (exfalso; omega) | (rw [if_pos (by omega)]; done) | (rw [if_neg (by omega)]; done)) (by first | (exfalso; omega) | (rw [if_pos (by omega)]; done) | (rw [if_neg (by omega)]; done)))
    · refine a_lloadn dX11_bounded_16 rfl ?_
      refine a_ldc2 (w := -1000000000000) dX11_bounded_17 knX11_301 (by decide) ?_
      refine c_lcmp dX11_bounded_20 ⟨by omega, by omega⟩ ⟨by omega, by omega⟩ (fun r20 hq20 => ?_)
      refine a_if_ge (tgt := 28) dX11_bounded_21 (by decide) ⟨by omega, by omega⟩ (fun hb21 => ?_) (fun hb21 => ?_)
      · refine a_iconst dX11_bounded_28 ?_
        refine a_putZ (j' := 47) dX11_bounded_29 flX11_296 rfl rfl (L209 L) (by decide) rfl (by omega) ?_
        refine a_aloadn dX11_bounded_32 rfl ?_
        refine b_getZ (j' := 47) dX11_bounded_33 flX11_296 rfl rfl (L209 L) (fun hr33 => ?_)
        rw [sm_s] at hr33
        rw [sm_s]
        refine a_if_eq (tgt := 43) dX11_bounded_36 (by decide) ⟨by omega, by omega⟩ (fun hb36 => ?_) (fun hb36 => ?_)
        · refine a_lloadn dX11_bounded_43 rfl ?_
          exact a_lreturn dX11_bounded_44 rfl rfl rfl (zdet_L (by first | (exfalso; omega) | (rw [if_pos (by omega)]; done) | (rw [if_neg (by omega)]; done)) (by first | (exfalso; omega) | (rw [if_pos (by omega)]; done) | (rw [if_neg (by omega)]; done)))
        · refine a_lconst (w := 0) dX11_bounded_39 (by decide) ?_
          refine a_goto (tgt := 44) dX11_bounded_40 (by decide) ?_
          exact a_lreturn dX11_bounded_44 rfl rfl rfl (zdet_L (by first | (exfalso; omega) | (rw [if_pos (by omega)]; done) | (rw [if_neg (by omega)]; done)) (by first | (exfalso; omega) | (rw [if_pos (by omega)]; done) | (rw [if_neg (by omega)]; done)))
      · refine a_iconst dX11_bounded_24 ?_
        refine a_goto (tgt := 29) dX11_bounded_25 (by decide) ?_
        refine a_putZ (j' := 47) dX11_bounded_29 flX11_296 rfl rfl (L209 L) (by decide) rfl (by omega) ?_
        refine a_aloadn dX11_bounded_32 rfl ?_
        refine b_getZ (j' := 47) dX11_bounded_33 flX11_296 rfl rfl (L209 L) (fun hr33 => ?_)
        rw [sm_s] at hr33
        rw [sm_s]
        refine a_if_eq (tgt := 43) dX11_bounded_36 (by decide) ⟨by omega, by omega⟩ (fun hb36 => ?_) (fun hb36 => ?_)
        · refine a_lloadn dX11_bounded_43 rfl ?_
          exact a_lreturn dX11_bounded_44 rfl rfl rfl (zdet_L (by first | (exfalso; omega) | (rw [if_pos (by omega)]; done) | (rw [if_neg (by omega)]; done)) (by first | (exfalso; omega) | (rw [if_pos (by omega)]; done) | (rw [if_neg (by omega)]; done)))
        · refine a_lconst (w := 0) dX11_bounded_39 (by decide) ?_
          refine a_goto (tgt := 44) dX11_bounded_40 (by decide) ?_
          exact a_lreturn dX11_bounded_44 rfl rfl rfl (zdet_L (by first | (exfalso; omega) | (rw [if_pos (by omega)]; done) | (rw [if_neg (by omega)]; done)) (by first | (exfalso; omega) | (rw [if_pos (by omega)]; done) | (rw [if_neg (by omega)]; done)))

set_option maxRecDepth 100000 in
set_option maxHeartbeats 4000000 in
theorem m_X11_compares {G : zG} {l : Launch} {L : Nat} {P : zP} {M : zM} {s a b : Int} (hs : 5 ≤ s ∧ s ≤ 10) (ha : lim a) (hb : lim b) : AM G l yX11_compares mdX11_compares [aI s, aL a, aL b] (LAY L) P M (zdet (some (aI (jn (s - 2) a b))) (LAY L) P M) := by
  refine AM.go [some (aI s), some (aL a), none, some (aL b), none] rfl (Nat.le_of_ble_eq_true rfl) ?_ (by decide) rfl rfl
  refine a_iloadn dX11_compares_0 rfl ?_
  rcases (show s = 5 ∨ s = 6 ∨ s = 7 ∨ s = 8 ∨ s = 9 ∨ s = 10 by omega) with rfl | rfl | rfl | rfl | rfl | rfl
  · refine a_tabIn (tgt := 36) (off := 35) dX11_compares_1 ⟨by decide, by decide⟩ (by decide) (by decide) rfl (by decide) ?_
    refine a_lloadn dX11_compares_36 rfl ?_
    refine a_lloadn dX11_compares_37 rfl ?_
    refine c_lcmp dX11_compares_38 ⟨by omega, by omega⟩ ⟨by omega, by omega⟩ (fun r38 hq38 => ?_)
    refine a_if_ge (tgt := 46) dX11_compares_39 (by decide) ⟨by omega, by omega⟩ (fun hb39 => ?_) (fun hb39 => ?_)
    · refine a_iconst dX11_compares_46 ?_
      exact a_zreturn dX11_compares_47 rfl rfl rfl (by omega) (zdet_I (show _ = (if a < b then (1 : Int) else 0) from by first | (rw [if_pos (by omega)]; done) | (rw [if_neg (by omega)]; done)) rfl)
    · refine a_iconst dX11_compares_42 ?_
      refine a_goto (tgt := 47) dX11_compares_43 (by decide) ?_
      exact a_zreturn dX11_compares_47 rfl rfl rfl (by omega) (zdet_I (show _ = (if a < b then (1 : Int) else 0) from by first | (rw [if_pos (by omega)]; done) | (rw [if_neg (by omega)]; done)) rfl)
  · refine a_tabIn (tgt := 48) (off := 47) dX11_compares_1 ⟨by decide, by decide⟩ (by decide) (by decide) rfl (by decide) ?_
    refine a_lloadn dX11_compares_48 rfl ?_
    refine a_lloadn dX11_compares_49 rfl ?_
    refine c_lcmp dX11_compares_50 ⟨by omega, by omega⟩ ⟨by omega, by omega⟩ (fun r50 hq50 => ?_)
    refine a_if_gt (tgt := 58) dX11_compares_51 (by decide) ⟨by omega, by omega⟩ (fun hb51 => ?_) (fun hb51 => ?_)
    · refine a_iconst dX11_compares_58 ?_
      exact a_zreturn dX11_compares_59 rfl rfl rfl (by omega) (zdet_I (show _ = (if a ≤ b then (1 : Int) else 0) from by first | (rw [if_pos (by omega)]; done) | (rw [if_neg (by omega)]; done)) rfl)
    · refine a_iconst dX11_compares_54 ?_
      refine a_goto (tgt := 59) dX11_compares_55 (by decide) ?_
      exact a_zreturn dX11_compares_59 rfl rfl rfl (by omega) (zdet_I (show _ = (if a ≤ b then (1 : Int) else 0) from by first | (rw [if_pos (by omega)]; done) | (rw [if_neg (by omega)]; done)) rfl)
  · refine a_tabIn (tgt := 60) (off := 59) dX11_compares_1 ⟨by decide, by decide⟩ (by decide) (by decide) rfl (by decide) ?_
    refine a_lloadn dX11_compares_60 rfl ?_
    refine a_lloadn dX11_compares_61 rfl ?_
    refine c_lcmp dX11_compares_62 ⟨by omega, by omega⟩ ⟨by omega, by omega⟩ (fun r62 hq62 => ?_)
    refine a_if_ne (tgt := 70) dX11_compares_63 (by decide) ⟨by omega, by omega⟩ (fun hb63 => ?_) (fun hb63 => ?_)
    · refine a_iconst dX11_compares_70 ?_
      exact a_zreturn dX11_compares_71 rfl rfl rfl (by omega) (zdet_I (show _ = (if a = b then (1 : Int) else 0) from by first | (rw [if_pos (by omega)]; done) | (rw [if_neg (by omega)]; done)) rfl)
    · refine a_iconst dX11_compares_66 ?_
      refine a_goto (tgt := 71) dX11_compares_67 (by decide) ?_
      exact a_zreturn dX11_compares_71 rfl rfl rfl (by omega) (zdet_I (show _ = (if a = b then (1 : Int) else 0) from by first | (rw [if_pos (by omega)]; done) | (rw [if_neg (by omega)]; done)) rfl)
  · refine a_tabIn (tgt := 72) (off := 71) dX11_compares_1 ⟨by decide, by decide⟩ (by decide) (by decide) rfl (by decide) ?_
    refine a_lloadn dX11_compares_72 rfl ?_
    refine a_lloadn dX11_compares_73 rfl ?_
    refine c_lcmp dX11_compares_74 ⟨by omega, by omega⟩ ⟨by omega, by omega⟩ (fun r74 hq74 => ?_)
    refine a_if_eq (tgt := 82) dX11_compares_75 (by decide) ⟨by omega, by omega⟩ (fun hb75 => ?_) (fun hb75 => ?_)
    · refine a_iconst dX11_compares_82 ?_
      exact a_zreturn dX11_compares_83 rfl rfl rfl (by omega) (zdet_I (show _ = (if a ≠ b then (1 : Int) else 0) from by first | (rw [if_pos (by omega)]; done) | (rw [if_neg (by omega)]; done)) rfl)
    · refine a_iconst dX11_compares_78 ?_
      refine a_goto (tgt := 83) dX11_compares_79 (by decide) ?_
      exact a_zreturn dX11_compares_83 rfl rfl rfl (by omega) (zdet_I (show _ = (if a ≠ b then (1 : Int) else 0) from by first | (rw [if_pos (by omega)]; done) | (rw [if_neg (by omega)]; done)) rfl)
  · refine a_tabIn (tgt := 84) (off := 83) dX11_compares_1 ⟨by decide, by decide⟩ (by decide) (by decide) rfl (by decide) ?_
    refine a_lloadn dX11_compares_84 rfl ?_
    refine a_lloadn dX11_compares_85 rfl ?_
    refine c_lcmp dX11_compares_86 ⟨by omega, by omega⟩ ⟨by omega, by omega⟩ (fun r86 hq86 => ?_)
    refine a_if_lt (tgt := 94) dX11_compares_87 (by decide) ⟨by omega, by omega⟩ (fun hb87 => ?_) (fun hb87 => ?_)
    · refine a_iconst dX11_compares_94 ?_
      exact a_zreturn dX11_compares_95 rfl rfl rfl (by omega) (zdet_I (show _ = (if b ≤ a then (1 : Int) else 0) from by first | (rw [if_pos (by omega)]; done) | (rw [if_neg (by omega)]; done)) rfl)
    · refine a_iconst dX11_compares_90 ?_
      refine a_goto (tgt := 95) dX11_compares_91 (by decide) ?_
      exact a_zreturn dX11_compares_95 rfl rfl rfl (by omega) (zdet_I (show _ = (if b ≤ a then (1 : Int) else 0) from by first | (rw [if_pos (by omega)]; done) | (rw [if_neg (by omega)]; done)) rfl)
  · refine a_tabOut (tgt := 96) dX11_compares_1 ⟨by decide, by decide⟩ (by decide) (by decide) ?_
    refine a_lloadn dX11_compares_96 rfl ?_
    refine a_lloadn dX11_compares_97 rfl ?_
    refine c_lcmp dX11_compares_98 ⟨by omega, by omega⟩ ⟨by omega, by omega⟩ (fun r98 hq98 => ?_)
    refine a_if_le (tgt := 106) dX11_compares_99 (by decide) ⟨by omega, by omega⟩ (fun hb99 => ?_) (fun hb99 => ?_)
    · refine a_iconst dX11_compares_106 ?_
      exact a_zreturn dX11_compares_107 rfl rfl rfl (by omega) (zdet_I (show _ = (if b < a then (1 : Int) else 0) from by first | (rw [if_pos (by omega)]; done) | (rw [if_neg (by omega)]; done)) rfl)
    · refine a_iconst dX11_compares_102 ?_
      refine a_goto (tgt := 107) dX11_compares_103 (by decide) ?_
      exact a_zreturn dX11_compares_107 rfl rfl rfl (by omega) (zdet_I (show _ = (if b < a then (1 : Int) else 0) from by first | (rw [if_pos (by omega)]; done) | (rw [if_neg (by omega)]; done)) rfl)

set_option maxRecDepth 100000 in
set_option maxHeartbeats 4000000 in
theorem m_X11_times {G : zG} {l : Launch} {L : Nat} {P : zP} {M : zM} {a b : Int} (ha : lim a) (hb : lim b) : AM G l yX11_times mdX11_times [aR 209, aL a, aL b] (LAY L) P M (zdet (some (aL (if M 209 47 ≠ 0 ∨ (a ≠ 0 ∧ b ≠ 0 ∧ (1000000000000 : Int).tdiv (labs a) < labs b) then 0 else a * b))) (LAY L) P (sm M 209 47 (if M 209 47 ≠ 0 ∨ (a ≠ 0 ∧ b ≠ 0 ∧ (1000000000000 : Int).tdiv (labs a) < labs b) then 1 else 0))) := by
  refine AM.go [some (aR 209), some (aL a), none, some (aL b), none, none] rfl (Nat.le_of_ble_eq_true rfl) ?_ (by decide) rfl rfl
  refine a_lloadn dX11_times_0 rfl ?_
  refine a_lconst (w := 0) dX11_times_1 (by decide) ?_
  refine c_lcmp dX11_times_2 ⟨by omega, by omega⟩ ⟨by omega, by omega⟩ (fun r2 hq2 => ?_)
  refine a_if_eq (tgt := 48) dX11_times_3 (by decide) ⟨by omega, by omega⟩ (fun hb3 => ?_) (fun hb3 => ?_)
  · refine a_iconst dX11_times_48 ?_
    first
    | (have hm : a ≠ 0 ∧ b ≠ 0 ∧ (1000000000000 : Int).tdiv (labs a) < labs b := ⟨by omega, by omega, by (first | (rw [show labs a = -a from by unfold labs; rw [if_pos (by omega)]]) | (rw [show labs a = a from by unfold labs; rw [if_neg (by omega)]])); (first | (rw [show labs b = -b from by unfold labs; rw [if_pos (by omega)]]) | (rw [show labs b = b from by unfold labs; rw [if_neg (by omega)]])); omega⟩)
    | (have hm : ¬ (a ≠ 0 ∧ b ≠ 0 ∧ (1000000000000 : Int).tdiv (labs a) < labs b) := fun z => z.1 (by omega))
    | (have hm : ¬ (a ≠ 0 ∧ b ≠ 0 ∧ (1000000000000 : Int).tdiv (labs a) < labs b) := fun z => z.2.1 (by omega))
    | (have hm : ¬ (a ≠ 0 ∧ b ≠ 0 ∧ (1000000000000 : Int).tdiv (labs a) < labs b) := fun z => absurd z.2.2 (by (first | (rw [show labs a = -a from by unfold labs; rw [if_pos (by omega)]]) | (rw [show labs a = a from by unfold labs; rw [if_neg (by omega)]])); (first | (rw [show labs b = -b from by unfold labs; rw [if_pos (by omega)]]) | (rw [show labs b = b from by unfold labs; rw [if_neg (by omega)]])); omega))
    refine c_istore (ls' := [_, _, _, _, _, _]) dX11_times_49 (by decide) rfl rfl ?_
    refine a_aloadn dX11_times_51 rfl ?_
    refine a_aloadn dX11_times_52 rfl ?_
    refine b_getZ (j' := 47) dX11_times_53 flX11_296 rfl rfl (L209 L) (fun hr53 => ?_)
    refine a_if_ne (tgt := 64) dX11_times_56 (by decide) (by rcases hr53 with z | z <;> exact ⟨by omega, by omega⟩) (fun hb56 => ?_) (fun hb56 => ?_)
    · refine a_iconst dX11_times_64 ?_
      refine a_goto (tgt := 69) dX11_times_65 (by decide) ?_
      refine a_putZ (j' := 47) dX11_times_69 flX11_296 rfl rfl (L209 L) (by decide) rfl (by omega) ?_
      refine a_aloadn dX11_times_72 rfl ?_
      refine b_getZ (j' := 47) dX11_times_73 flX11_296 rfl rfl (L209 L) (fun hr73 => ?_)
      rw [sm_s] at hr73
      rw [sm_s]
      refine a_if_eq (tgt := 83) dX11_times_76 (by decide) ⟨by omega, by omega⟩ (fun hb76 => ?_) (fun hb76 => ?_)
      · refine a_lloadn dX11_times_83 rfl ?_
        refine a_lloadn dX11_times_84 rfl ?_
        refine a_lmul dX11_times_85 ?_
        exact a_lreturn dX11_times_86 rfl rfl rfl (zdet_L (by first | (exfalso; omega) | (rw [if_pos (Or.inr hm)]; done) | (rw [if_pos (Or.inl (by omega))]; done) | (rw [if_neg (fun z => by rcases z with z | z; (omega); exact hm z)]; done)) (by first | (exfalso; omega) | (rw [if_pos (Or.inr hm)]; done) | (rw [if_pos (Or.inl (by omega))]; done) | (rw [if_neg (fun z => by rcases z with z | z; (omega); exact hm z)]; done)))
      · refine a_lconst (w := 0) dX11_times_79 (by decide) ?_
        refine a_goto (tgt := 86) dX11_times_80 (by decide) ?_
        exact a_lreturn dX11_times_86 rfl rfl rfl (zdet_L (by first | (exfalso; omega) | (rw [if_pos (Or.inr hm)]; done) | (rw [if_pos (Or.inl (by omega))]; done) | (rw [if_neg (fun z => by rcases z with z | z; (omega); exact hm z)]; done)) (by first | (exfalso; omega) | (rw [if_pos (Or.inr hm)]; done) | (rw [if_pos (Or.inl (by omega))]; done) | (rw [if_neg (fun z => by rcases z with z | z; (omega); exact hm z)]; done)))
    · refine a_iload dX11_times_59 rfl ?_
      refine a_if_eq (tgt := 68) dX11_times_61 (by decide) ⟨by omega, by omega⟩ (fun hb61 => ?_) (fun hb61 => ?_)
      · refine a_iconst dX11_times_68 ?_
        refine a_putZ (j' := 47) dX11_times_69 flX11_296 rfl rfl (L209 L) (by decide) rfl (by omega) ?_
        refine a_aloadn dX11_times_72 rfl ?_
        refine b_getZ (j' := 47) dX11_times_73 flX11_296 rfl rfl (L209 L) (fun hr73 => ?_)
        rw [sm_s] at hr73
        rw [sm_s]
        refine a_if_eq (tgt := 83) dX11_times_76 (by decide) ⟨by omega, by omega⟩ (fun hb76 => ?_) (fun hb76 => ?_)
        · refine a_lloadn dX11_times_83 rfl ?_
          refine a_lloadn dX11_times_84 rfl ?_
          refine a_lmul dX11_times_85 ?_
          exact a_lreturn dX11_times_86 rfl rfl rfl (zdet_L (by first | (exfalso; omega) | (rw [if_pos (Or.inr hm)]; done) | (rw [if_pos (Or.inl (by omega))]; done) | (rw [if_neg (fun z => by rcases z with z | z; (omega); exact hm z)]; done)) (by first | (exfalso; omega) | (rw [if_pos (Or.inr hm)]; done) | (rw [if_pos (Or.inl (by omega))]; done) | (rw [if_neg (fun z => by rcases z with z | z; (omega); exact hm z)]; done)))
        · refine a_lconst (w := 0) dX11_times_79 (by decide) ?_
          refine a_goto (tgt := 86) dX11_times_80 (by decide) ?_
          exact a_lreturn dX11_times_86 rfl rfl rfl (zdet_L (by first | (exfalso; omega) | (rw [if_pos (Or.inr hm)]; done) | (rw [if_pos (Or.inl (by omega))]; done) | (rw [if_neg (fun z => by rcases z with z | z; (omega); exact hm z)]; done)) (by first | (exfalso; omega) | (rw [if_pos (Or.inr hm)]; done) | (rw [if_pos (Or.inl (by omega))]; done) | (rw [if_neg (fun z => by rcases z with z | z; (omega); exact hm z)]; done)))
      · refine a_iconst dX11_times_64 ?_
        refine a_goto (tgt := 69) dX11_times_65 (by decide) ?_
        refine a_putZ (j' := 47) dX11_times_69 flX11_296 rfl rfl (L209 L) (by decide) rfl (by omega) ?_
        refine a_aloadn dX11_times_72 rfl ?_
        refine b_getZ (j' := 47) dX11_times_73 flX11_296 rfl rfl (L209 L) (fun hr73 => ?_)
        rw [sm_s] at hr73
        rw [sm_s]
        refine a_if_eq (tgt := 83) dX11_times_76 (by decide) ⟨by omega, by omega⟩ (fun hb76 => ?_) (fun hb76 => ?_)
        · refine a_lloadn dX11_times_83 rfl ?_
          refine a_lloadn dX11_times_84 rfl ?_
          refine a_lmul dX11_times_85 ?_
          exact a_lreturn dX11_times_86 rfl rfl rfl (zdet_L (by first | (exfalso; omega) | (rw [if_pos (Or.inr hm)]; done) | (rw [if_pos (Or.inl (by omega))]; done) | (rw [if_neg (fun z => by rcases z with z | z; (omega); exact hm z)]; done)) (by first | (exfalso; omega) | (rw [if_pos (Or.inr hm)]; done) | (rw [if_pos (Or.inl (by omega))]; done) | (rw [if_neg (fun z => by rcases z with z | z; (omega); exact hm z)]; done)))
        · refine a_lconst (w := 0) dX11_times_79 (by decide) ?_
          refine a_goto (tgt := 86) dX11_times_80 (by decide) ?_
          exact a_lreturn dX11_times_86 rfl rfl rfl (zdet_L (by first | (exfalso; omega) | (rw [if_pos (Or.inr hm)]; done) | (rw [if_pos (Or.inl (by omega))]; done) | (rw [if_neg (fun z => by rcases z with z | z; (omega); exact hm z)]; done)) (by first | (exfalso; omega) | (rw [if_pos (Or.inr hm)]; done) | (rw [if_pos (Or.inl (by omega))]; done) | (rw [if_neg (fun z => by rcases z with z | z; (omega); exact hm z)]; done)))
  · refine a_lloadn dX11_times_6 rfl ?_
    refine a_lconst (w := 0) dX11_times_7 (by decide) ?_
    refine c_lcmp dX11_times_8 ⟨by omega, by omega⟩ ⟨by omega, by omega⟩ (fun r8 hq8 => ?_)
    refine a_if_eq (tgt := 48) dX11_times_9 (by decide) ⟨by omega, by omega⟩ (fun hb9 => ?_) (fun hb9 => ?_)
    · refine a_iconst dX11_times_48 ?_
      first
      | (have hm : a ≠ 0 ∧ b ≠ 0 ∧ (1000000000000 : Int).tdiv (labs a) < labs b := ⟨by omega, by omega, by (first | (rw [show labs a = -a from by unfold labs; rw [if_pos (by omega)]]) | (rw [show labs a = a from by unfold labs; rw [if_neg (by omega)]])); (first | (rw [show labs b = -b from by unfold labs; rw [if_pos (by omega)]]) | (rw [show labs b = b from by unfold labs; rw [if_neg (by omega)]])); omega⟩)
      | (have hm : ¬ (a ≠ 0 ∧ b ≠ 0 ∧ (1000000000000 : Int).tdiv (labs a) < labs b) := fun z => z.1 (by omega))
      | (have hm : ¬ (a ≠ 0 ∧ b ≠ 0 ∧ (1000000000000 : Int).tdiv (labs a) < labs b) := fun z => z.2.1 (by omega))
      | (have hm : ¬ (a ≠ 0 ∧ b ≠ 0 ∧ (1000000000000 : Int).tdiv (labs a) < labs b) := fun z => absurd z.2.2 (by (first | (rw [show labs a = -a from by unfold labs; rw [if_pos (by omega)]]) | (rw [show labs a = a from by unfold labs; rw [if_neg (by omega)]])); (first | (rw [show labs b = -b from by unfold labs; rw [if_pos (by omega)]]) | (rw [show labs b = b from by unfold labs; rw [if_neg (by omega)]])); omega))
      refine c_istore (ls' := [_, _, _, _, _, _]) dX11_times_49 (by decide) rfl rfl ?_
      refine a_aloadn dX11_times_51 rfl ?_
      refine a_aloadn dX11_times_52 rfl ?_
      refine b_getZ (j' := 47) dX11_times_53 flX11_296 rfl rfl (L209 L) (fun hr53 => ?_)
      refine a_if_ne (tgt := 64) dX11_times_56 (by decide) (by rcases hr53 with z | z <;> exact ⟨by omega, by omega⟩) (fun hb56 => ?_) (fun hb56 => ?_)
      · refine a_iconst dX11_times_64 ?_
        refine a_goto (tgt := 69) dX11_times_65 (by decide) ?_
        refine a_putZ (j' := 47) dX11_times_69 flX11_296 rfl rfl (L209 L) (by decide) rfl (by omega) ?_
        refine a_aloadn dX11_times_72 rfl ?_
        refine b_getZ (j' := 47) dX11_times_73 flX11_296 rfl rfl (L209 L) (fun hr73 => ?_)
        rw [sm_s] at hr73
        rw [sm_s]
        refine a_if_eq (tgt := 83) dX11_times_76 (by decide) ⟨by omega, by omega⟩ (fun hb76 => ?_) (fun hb76 => ?_)
        · refine a_lloadn dX11_times_83 rfl ?_
          refine a_lloadn dX11_times_84 rfl ?_
          refine a_lmul dX11_times_85 ?_
          exact a_lreturn dX11_times_86 rfl rfl rfl (zdet_L (by first | (exfalso; omega) | (rw [if_pos (Or.inr hm)]; done) | (rw [if_pos (Or.inl (by omega))]; done) | (rw [if_neg (fun z => by rcases z with z | z; (omega); exact hm z)]; done)) (by first | (exfalso; omega) | (rw [if_pos (Or.inr hm)]; done) | (rw [if_pos (Or.inl (by omega))]; done) | (rw [if_neg (fun z => by rcases z with z | z; (omega); exact hm z)]; done)))
        · refine a_lconst (w := 0) dX11_times_79 (by decide) ?_
          refine a_goto (tgt := 86) dX11_times_80 (by decide) ?_
          exact a_lreturn dX11_times_86 rfl rfl rfl (zdet_L (by first | (exfalso; omega) | (rw [if_pos (Or.inr hm)]; done) | (rw [if_pos (Or.inl (by omega))]; done) | (rw [if_neg (fun z => by rcases z with z | z; (omega); exact hm z)]; done)) (by first | (exfalso; omega) | (rw [if_pos (Or.inr hm)]; done) | (rw [if_pos (Or.inl (by omega))]; done) | (rw [if_neg (fun z => by rcases z with z | z; (omega); exact hm z)]; done)))
      · refine a_iload dX11_times_59 rfl ?_
        refine a_if_eq (tgt := 68) dX11_times_61 (by decide) ⟨by omega, by omega⟩ (fun hb61 => ?_) (fun hb61 => ?_)
        · refine a_iconst dX11_times_68 ?_
          refine a_putZ (j' := 47) dX11_times_69 flX11_296 rfl rfl (L209 L) (by decide) rfl (by omega) ?_
          refine a_aloadn dX11_times_72 rfl ?_
          refine b_getZ (j' := 47) dX11_times_73 flX11_296 rfl rfl (L209 L) (fun hr73 => ?_)
          rw [sm_s] at hr73
          rw [sm_s]
          refine a_if_eq (tgt := 83) dX11_times_76 (by decide) ⟨by omega, by omega⟩ (fun hb76 => ?_) (fun hb76 => ?_)
          · refine a_lloadn dX11_times_83 rfl ?_
            refine a_lloadn dX11_times_84 rfl ?_
            refine a_lmul dX11_times_85 ?_
            exact a_lreturn dX11_times_86 rfl rfl rfl (zdet_L (by first | (exfalso; omega) | (rw [if_pos (Or.inr hm)]; done) | (rw [if_pos (Or.inl (by omega))]; done) | (rw [if_neg (fun z => by rcases z with z | z; (omega); exact hm z)]; done)) (by first | (exfalso; omega) | (rw [if_pos (Or.inr hm)]; done) | (rw [if_pos (Or.inl (by omega))]; done) | (rw [if_neg (fun z => by rcases z with z | z; (omega); exact hm z)]; done)))
          · refine a_lconst (w := 0) dX11_times_79 (by decide) ?_
            refine a_goto (tgt := 86) dX11_times_80 (by decide) ?_
            exact a_lreturn dX11_times_86 rfl rfl rfl (zdet_L (by first | (exfalso; omega) | (rw [if_pos (Or.inr hm)]; done) | (rw [if_pos (Or.inl (by omega))]; done) | (rw [if_neg (fun z => by rcases z with z | z; (omega); exact hm z)]; done)) (by first | (exfalso; omega) | (rw [if_pos (Or.inr hm)]; done) | (rw [if_pos (Or.inl (by omega))]; done) | (rw [if_neg (fun z => by rcases z with z | z; (omega); exact hm z)]; done)))
        · refine a_iconst dX11_times_64 ?_
          refine a_goto (tgt := 69) dX11_times_65 (by decide) ?_
          refine a_putZ (j' := 47) dX11_times_69 flX11_296 rfl rfl (L209 L) (by decide) rfl (by omega) ?_
          refine a_aloadn dX11_times_72 rfl ?_
          refine b_getZ (j' := 47) dX11_times_73 flX11_296 rfl rfl (L209 L) (fun hr73 => ?_)
          rw [sm_s] at hr73
          rw [sm_s]
          refine a_if_eq (tgt := 83) dX11_times_76 (by decide) ⟨by omega, by omega⟩ (fun hb76 => ?_) (fun hb76 => ?_)
          · refine a_lloadn dX11_times_83 rfl ?_
            refine a_lloadn dX11_times_84 rfl ?_
            refine a_lmul dX11_times_85 ?_
            exact a_lreturn dX11_times_86 rfl rfl rfl (zdet_L (by first | (exfalso; omega) | (rw [if_pos (Or.inr hm)]; done) | (rw [if_pos (Or.inl (by omega))]; done) | (rw [if_neg (fun z => by rcases z with z | z; (omega); exact hm z)]; done)) (by first | (exfalso; omega) | (rw [if_pos (Or.inr hm)]; done) | (rw [if_pos (Or.inl (by omega))]; done) | (rw [if_neg (fun z => by rcases z with z | z; (omega); exact hm z)]; done)))
          · refine a_lconst (w := 0) dX11_times_79 (by decide) ?_
            refine a_goto (tgt := 86) dX11_times_80 (by decide) ?_
            exact a_lreturn dX11_times_86 rfl rfl rfl (zdet_L (by first | (exfalso; omega) | (rw [if_pos (Or.inr hm)]; done) | (rw [if_pos (Or.inl (by omega))]; done) | (rw [if_neg (fun z => by rcases z with z | z; (omega); exact hm z)]; done)) (by first | (exfalso; omega) | (rw [if_pos (Or.inr hm)]; done) | (rw [if_pos (Or.inl (by omega))]; done) | (rw [if_neg (fun z => by rcases z with z | z; (omega); exact hm z)]; done)))
    · refine a_lloadn dX11_times_12 rfl ?_
      refine a_lconst (w := 0) dX11_times_13 (by decide) ?_
      refine c_lcmp dX11_times_14 ⟨by omega, by omega⟩ ⟨by omega, by omega⟩ (fun r14 hq14 => ?_)
      refine a_if_ge (tgt := 23) dX11_times_15 (by decide) ⟨by omega, by omega⟩ (fun hb15 => ?_) (fun hb15 => ?_)
      · refine a_lloadn dX11_times_23 rfl ?_
        refine a_ldc2 (w := 1000000000000) dX11_times_24 knX11_299 (by decide) ?_
        refine a_lloadn dX11_times_27 rfl ?_
        refine a_lconst (w := 0) dX11_times_28 (by decide) ?_
        refine c_lcmp dX11_times_29 ⟨by omega, by omega⟩ ⟨by omega, by omega⟩ (fun r29 hq29 => ?_)
        refine a_if_ge (tgt := 38) dX11_times_30 (by decide) ⟨by omega, by omega⟩ (fun hb30 => ?_) (fun hb30 => ?_)
        · refine a_lloadn dX11_times_38 rfl ?_
          refine a_ldiv dX11_times_39 ⟨by omega, by omega⟩ ⟨by omega, by omega⟩ (by omega) (by omega) ?_
          refine c_lcmp dX11_times_40 ⟨by omega, by omega⟩ ⟨by have := tdiv_lim (a := 1000000000000) (b := a) ⟨by decide, by decide⟩; have := tdiv_lim (a := 1000000000000) (b := -a) ⟨by decide, by decide⟩; omega, by have := tdiv_lim (a := 1000000000000) (b := a) ⟨by decide, by decide⟩; have := tdiv_lim (a := 1000000000000) (b := -a) ⟨by decide, by decide⟩; omega⟩ (fun r40 hq40 => ?_)
          refine a_if_le (tgt := 48) dX11_times_41 (by decide) ⟨by omega, by omega⟩ (fun hb41 => ?_) (fun hb41 => ?_)
          · refine a_iconst dX11_times_48 ?_
            first
            | (have hm : a ≠ 0 ∧ b ≠ 0 ∧ (1000000000000 : Int).tdiv (labs a) < labs b := ⟨by omega, by omega, by (first | (rw [show labs a = -a from by unfold labs; rw [if_pos (by omega)]]) | (rw [show labs a = a from by unfold labs; rw [if_neg (by omega)]])); (first | (rw [show labs b = -b from by unfold labs; rw [if_pos (by omega)]]) | (rw [show labs b = b from by unfold labs; rw [if_neg (by omega)]])); omega⟩)
            | (have hm : ¬ (a ≠ 0 ∧ b ≠ 0 ∧ (1000000000000 : Int).tdiv (labs a) < labs b) := fun z => z.1 (by omega))
            | (have hm : ¬ (a ≠ 0 ∧ b ≠ 0 ∧ (1000000000000 : Int).tdiv (labs a) < labs b) := fun z => z.2.1 (by omega))
            | (have hm : ¬ (a ≠ 0 ∧ b ≠ 0 ∧ (1000000000000 : Int).tdiv (labs a) < labs b) := fun z => absurd z.2.2 (by (first | (rw [show labs a = -a from by unfold labs; rw [if_pos (by omega)]]) | (rw [show labs a = a from by unfold labs; rw [if_neg (by omega)]])); (first | (rw [show labs b = -b from by unfold labs; rw [if_pos (by omega)]]) | (rw [show labs b = b from by unfold labs; rw [if_neg (by omega)]])); omega))
            refine c_istore (ls' := [_, _, _, _, _, _]) dX11_times_49 (by decide) rfl rfl ?_
            refine a_aloadn dX11_times_51 rfl ?_
            refine a_aloadn dX11_times_52 rfl ?_
            refine b_getZ (j' := 47) dX11_times_53 flX11_296 rfl rfl (L209 L) (fun hr53 => ?_)
            refine a_if_ne (tgt := 64) dX11_times_56 (by decide) (by rcases hr53 with z | z <;> exact ⟨by omega, by omega⟩) (fun hb56 => ?_) (fun hb56 => ?_)
            · refine a_iconst dX11_times_64 ?_
              refine a_goto (tgt := 69) dX11_times_65 (by decide) ?_
              refine a_putZ (j' := 47) dX11_times_69 flX11_296 rfl rfl (L209 L) (by decide) rfl (by omega) ?_
              refine a_aloadn dX11_times_72 rfl ?_
              refine b_getZ (j' := 47) dX11_times_73 flX11_296 rfl rfl (L209 L) (fun hr73 => ?_)
              rw [sm_s] at hr73
              rw [sm_s]
              refine a_if_eq (tgt := 83) dX11_times_76 (by decide) ⟨by omega, by omega⟩ (fun hb76 => ?_) (fun hb76 => ?_)
              · refine a_lloadn dX11_times_83 rfl ?_
                refine a_lloadn dX11_times_84 rfl ?_
                refine a_lmul dX11_times_85 ?_
                exact a_lreturn dX11_times_86 rfl rfl rfl (zdet_L (by first | (exfalso; omega) | (rw [if_pos (Or.inr hm)]; done) | (rw [if_pos (Or.inl (by omega))]; done) | (rw [if_neg (fun z => by rcases z with z | z; (omega); exact hm z)]; done)) (by first | (exfalso; omega) | (rw [if_pos (Or.inr hm)]; done) | (rw [if_pos (Or.inl (by omega))]; done) | (rw [if_neg (fun z => by rcases z with z | z; (omega); exact hm z)]; done)))
              · refine a_lconst (w := 0) dX11_times_79 (by decide) ?_
                refine a_goto (tgt := 86) dX11_times_80 (by decide) ?_
                exact a_lreturn dX11_times_86 rfl rfl rfl (zdet_L (by first | (exfalso; omega) | (rw [if_pos (Or.inr hm)]; done) | (rw [if_pos (Or.inl (by omega))]; done) | (rw [if_neg (fun z => by rcases z with z | z; (omega); exact hm z)]; done)) (by first | (exfalso; omega) | (rw [if_pos (Or.inr hm)]; done) | (rw [if_pos (Or.inl (by omega))]; done) | (rw [if_neg (fun z => by rcases z with z | z; (omega); exact hm z)]; done)))
            · refine a_iload dX11_times_59 rfl ?_
              refine a_if_eq (tgt := 68) dX11_times_61 (by decide) ⟨by omega, by omega⟩ (fun hb61 => ?_) (fun hb61 => ?_)
              · refine a_iconst dX11_times_68 ?_
                refine a_putZ (j' := 47) dX11_times_69 flX11_296 rfl rfl (L209 L) (by decide) rfl (by omega) ?_
                refine a_aloadn dX11_times_72 rfl ?_
                refine b_getZ (j' := 47) dX11_times_73 flX11_296 rfl rfl (L209 L) (fun hr73 => ?_)
                rw [sm_s] at hr73
                rw [sm_s]
                refine a_if_eq (tgt := 83) dX11_times_76 (by decide) ⟨by omega, by omega⟩ (fun hb76 => ?_) (fun hb76 => ?_)
                · refine a_lloadn dX11_times_83 rfl ?_
                  refine a_lloadn dX11_times_84 rfl ?_
                  refine a_lmul dX11_times_85 ?_
                  exact a_lreturn dX11_times_86 rfl rfl rfl (zdet_L (by first | (exfalso; omega) | (rw [if_pos (Or.inr hm)]; done) | (rw [if_pos (Or.inl (by omega))]; done) | (rw [if_neg (fun z => by rcases z with z | z; (omega); exact hm z)]; done)) (by first | (exfalso; omega) | (rw [if_pos (Or.inr hm)]; done) | (rw [if_pos (Or.inl (by omega))]; done) | (rw [if_neg (fun z => by rcases z with z | z; (omega); exact hm z)]; done)))
                · refine a_lconst (w := 0) dX11_times_79 (by decide) ?_
                  refine a_goto (tgt := 86) dX11_times_80 (by decide) ?_
                  exact a_lreturn dX11_times_86 rfl rfl rfl (zdet_L (by first | (exfalso; omega) | (rw [if_pos (Or.inr hm)]; done) | (rw [if_pos (Or.inl (by omega))]; done) | (rw [if_neg (fun z => by rcases z with z | z; (omega); exact hm z)]; done)) (by first | (exfalso; omega) | (rw [if_pos (Or.inr hm)]; done) | (rw [if_pos (Or.inl (by omega))]; done) | (rw [if_neg (fun z => by rcases z with z | z; (omega); exact hm z)]; done)))
              · refine a_iconst dX11_times_64 ?_
                refine a_goto (tgt := 69) dX11_times_65 (by decide) ?_
                refine a_putZ (j' := 47) dX11_times_69 flX11_296 rfl rfl (L209 L) (by decide) rfl (by omega) ?_
                refine a_aloadn dX11_times_72 rfl ?_
                refine b_getZ (j' := 47) dX11_times_73 flX11_296 rfl rfl (L209 L) (fun hr73 => ?_)
                rw [sm_s] at hr73
                rw [sm_s]
                refine a_if_eq (tgt := 83) dX11_times_76 (by decide) ⟨by omega, by omega⟩ (fun hb76 => ?_) (fun hb76 => ?_)
                · refine a_lloadn dX11_times_83 rfl ?_
                  refine a_lloadn dX11_times_84 rfl ?_
                  refine a_lmul dX11_times_85 ?_
                  exact a_lreturn dX11_times_86 rfl rfl rfl (zdet_L (by first | (exfalso; omega) | (rw [if_pos (Or.inr hm)]; done) | (rw [if_pos (Or.inl (by omega))]; done) | (rw [if_neg (fun z => by rcases z with z | z; (omega); exact hm z)]; done)) (by first | (exfalso; omega) | (rw [if_pos (Or.inr hm)]; done) | (rw [if_pos (Or.inl (by omega))]; done) | (rw [if_neg (fun z => by rcases z with z | z; (omega); exact hm z)]; done)))
                · refine a_lconst (w := 0) dX11_times_79 (by decide) ?_
                  refine a_goto (tgt := 86) dX11_times_80 (by decide) ?_
                  exact a_lreturn dX11_times_86 rfl rfl rfl (zdet_L (by first | (exfalso; omega) | (rw [if_pos (Or.inr hm)]; done) | (rw [if_pos (Or.inl (by omega))]; done) | (rw [if_neg (fun z => by rcases z with z | z; (omega); exact hm z)]; done)) (by first | (exfalso; omega) | (rw [if_pos (Or.inr hm)]; done) | (rw [if_pos (Or.inl (by omega))]; done) | (rw [if_neg (fun z => by rcases z with z | z; (omega); exact hm z)]; done)))
          · refine a_iconst dX11_times_44 ?_
            refine a_goto (tgt := 49) dX11_times_45 (by decide) ?_
            first
            | (have hm : a ≠ 0 ∧ b ≠ 0 ∧ (1000000000000 : Int).tdiv (labs a) < labs b := ⟨by omega, by omega, by (first | (rw [show labs a = -a from by unfold labs; rw [if_pos (by omega)]]) | (rw [show labs a = a from by unfold labs; rw [if_neg (by omega)]])); (first | (rw [show labs b = -b from by unfold labs; rw [if_pos (by omega)]]) | (rw [show labs b = b from by unfold labs; rw [if_neg (by omega)]])); omega⟩)
            | (have hm : ¬ (a ≠ 0 ∧ b ≠ 0 ∧ (1000000000000 : Int).tdiv (labs a) < labs b) := fun z => z.1 (by omega))
            | (have hm : ¬ (a ≠ 0 ∧ b ≠ 0 ∧ (1000000000000 : Int).tdiv (labs a) < labs b) := fun z => z.2.1 (by omega))
            | (have hm : ¬ (a ≠ 0 ∧ b ≠ 0 ∧ (1000000000000 : Int).tdiv (labs a) < labs b) := fun z => absurd z.2.2 (by (first | (rw [show labs a = -a from by unfold labs; rw [if_pos (by omega)]]) | (rw [show labs a = a from by unfold labs; rw [if_neg (by omega)]])); (first | (rw [show labs b = -b from by unfold labs; rw [if_pos (by omega)]]) | (rw [show labs b = b from by unfold labs; rw [if_neg (by omega)]])); omega))
            refine c_istore (ls' := [_, _, _, _, _, _]) dX11_times_49 (by decide) rfl rfl ?_
            refine a_aloadn dX11_times_51 rfl ?_
            refine a_aloadn dX11_times_52 rfl ?_
            refine b_getZ (j' := 47) dX11_times_53 flX11_296 rfl rfl (L209 L) (fun hr53 => ?_)
            refine a_if_ne (tgt := 64) dX11_times_56 (by decide) (by rcases hr53 with z | z <;> exact ⟨by omega, by omega⟩) (fun hb56 => ?_) (fun hb56 => ?_)
            · refine a_iconst dX11_times_64 ?_
              refine a_goto (tgt := 69) dX11_times_65 (by decide) ?_
              refine a_putZ (j' := 47) dX11_times_69 flX11_296 rfl rfl (L209 L) (by decide) rfl (by omega) ?_
              refine a_aloadn dX11_times_72 rfl ?_
              refine b_getZ (j' := 47) dX11_times_73 flX11_296 rfl rfl (L209 L) (fun hr73 => ?_)
              rw [sm_s] at hr73
              rw [sm_s]
              refine a_if_eq (tgt := 83) dX11_times_76 (by decide) ⟨by omega, by omega⟩ (fun hb76 => ?_) (fun hb76 => ?_)
              · refine a_lloadn dX11_times_83 rfl ?_
                refine a_lloadn dX11_times_84 rfl ?_
                refine a_lmul dX11_times_85 ?_
                exact a_lreturn dX11_times_86 rfl rfl rfl (zdet_L (by first | (exfalso; omega) | (rw [if_pos (Or.inr hm)]; done) | (rw [if_pos (Or.inl (by omega))]; done) | (rw [if_neg (fun z => by rcases z with z | z; (omega); exact hm z)]; done)) (by first | (exfalso; omega) | (rw [if_pos (Or.inr hm)]; done) | (rw [if_pos (Or.inl (by omega))]; done) | (rw [if_neg (fun z => by rcases z with z | z; (omega); exact hm z)]; done)))
              · refine a_lconst (w := 0) dX11_times_79 (by decide) ?_
                refine a_goto (tgt := 86) dX11_times_80 (by decide) ?_
                exact a_lreturn dX11_times_86 rfl rfl rfl (zdet_L (by first | (exfalso; omega) | (rw [if_pos (Or.inr hm)]; done) | (rw [if_pos (Or.inl (by omega))]; done) | (rw [if_neg (fun z => by rcases z with z | z; (omega); exact hm z)]; done)) (by first | (exfalso; omega) | (rw [if_pos (Or.inr hm)]; done) | (rw [if_pos (Or.inl (by omega))]; done) | (rw [if_neg (fun z => by rcases z with z | z; (omega); exact hm z)]; done)))
            · refine a_iload dX11_times_59 rfl ?_
              refine a_if_eq (tgt := 68) dX11_times_61 (by decide) ⟨by omega, by omega⟩ (fun hb61 => ?_) (fun hb61 => ?_)
              · refine a_iconst dX11_times_68 ?_
                refine a_putZ (j' := 47) dX11_times_69 flX11_296 rfl rfl (L209 L) (by decide) rfl (by omega) ?_
                refine a_aloadn dX11_times_72 rfl ?_
                refine b_getZ (j' := 47) dX11_times_73 flX11_296 rfl rfl (L209 L) (fun hr73 => ?_)
                rw [sm_s] at hr73
                rw [sm_s]
                refine a_if_eq (tgt := 83) dX11_times_76 (by decide) ⟨by omega, by omega⟩ (fun hb76 => ?_) (fun hb76 => ?_)
                · refine a_lloadn dX11_times_83 rfl ?_
                  refine a_lloadn dX11_times_84 rfl ?_
                  refine a_lmul dX11_times_85 ?_
                  exact a_lreturn dX11_times_86 rfl rfl rfl (zdet_L (by first | (exfalso; omega) | (rw [if_pos (Or.inr hm)]; done) | (rw [if_pos (Or.inl (by omega))]; done) | (rw [if_neg (fun z => by rcases z with z | z; (omega); exact hm z)]; done)) (by first | (exfalso; omega) | (rw [if_pos (Or.inr hm)]; done) | (rw [if_pos (Or.inl (by omega))]; done) | (rw [if_neg (fun z => by rcases z with z | z; (omega); exact hm z)]; done)))
                · refine a_lconst (w := 0) dX11_times_79 (by decide) ?_
                  refine a_goto (tgt := 86) dX11_times_80 (by decide) ?_
                  exact a_lreturn dX11_times_86 rfl rfl rfl (zdet_L (by first | (exfalso; omega) | (rw [if_pos (Or.inr hm)]; done) | (rw [if_pos (Or.inl (by omega))]; done) | (rw [if_neg (fun z => by rcases z with z | z; (omega); exact hm z)]; done)) (by first | (exfalso; omega) | (rw [if_pos (Or.inr hm)]; done) | (rw [if_pos (Or.inl (by omega))]; done) | (rw [if_neg (fun z => by rcases z with z | z; (omega); exact hm z)]; done)))
              · refine a_iconst dX11_times_64 ?_
                refine a_goto (tgt := 69) dX11_times_65 (by decide) ?_
                refine a_putZ (j' := 47) dX11_times_69 flX11_296 rfl rfl (L209 L) (by decide) rfl (by omega) ?_
                refine a_aloadn dX11_times_72 rfl ?_
                refine b_getZ (j' := 47) dX11_times_73 flX11_296 rfl rfl (L209 L) (fun hr73 => ?_)
                rw [sm_s] at hr73
                rw [sm_s]
                refine a_if_eq (tgt := 83) dX11_times_76 (by decide) ⟨by omega, by omega⟩ (fun hb76 => ?_) (fun hb76 => ?_)
                · refine a_lloadn dX11_times_83 rfl ?_
                  refine a_lloadn dX11_times_84 rfl ?_
                  refine a_lmul dX11_times_85 ?_
                  exact a_lreturn dX11_times_86 rfl rfl rfl (zdet_L (by first | (exfalso; omega) | (rw [if_pos (Or.inr hm)]; done) | (rw [if_pos (Or.inl (by omega))]; done) | (rw [if_neg (fun z => by rcases z with z | z; (omega); exact hm z)]; done)) (by first | (exfalso; omega) | (rw [if_pos (Or.inr hm)]; done) | (rw [if_pos (Or.inl (by omega))]; done) | (rw [if_neg (fun z => by rcases z with z | z; (omega); exact hm z)]; done)))
                · refine a_lconst (w := 0) dX11_times_79 (by decide) ?_
                  refine a_goto (tgt := 86) dX11_times_80 (by decide) ?_
                  exact a_lreturn dX11_times_86 rfl rfl rfl (zdet_L (by first | (exfalso; omega) | (rw [if_pos (Or.inr hm)]; done) | (rw [if_pos (Or.inl (by omega))]; done) | (rw [if_neg (fun z => by rcases z with z | z; (omega); exact hm z)]; done)) (by first | (exfalso; omega) | (rw [if_pos (Or.inr hm)]; done) | (rw [if_pos (Or.inl (by omega))]; done) | (rw [if_neg (fun z => by rcases z with z | z; (omega); exact hm z)]; done)))
        · refine a_lloadn dX11_times_33 rfl ?_
          refine a_lneg dX11_times_34 ?_
          refine a_goto (tgt := 39) dX11_times_35 (by decide) ?_
          refine a_ldiv dX11_times_39 ⟨by omega, by omega⟩ ⟨by omega, by omega⟩ (by omega) (by omega) ?_
          refine c_lcmp dX11_times_40 ⟨by omega, by omega⟩ ⟨by have := tdiv_lim (a := 1000000000000) (b := a) ⟨by decide, by decide⟩; have := tdiv_lim (a := 1000000000000) (b := -a) ⟨by decide, by decide⟩; omega, by have := tdiv_lim (a := 1000000000000) (b := a) ⟨by decide, by decide⟩; have := tdiv_lim (a := 1000000000000) (b := -a) ⟨by decide, by decide⟩; omega⟩ (fun r40 hq40 => ?_)
          refine a_if_le (tgt := 48) dX11_times_41 (by decide) ⟨by omega, by omega⟩ (fun hb41 => ?_) (fun hb41 => ?_)
          · refine a_iconst dX11_times_48 ?_
            first
            | (have hm : a ≠ 0 ∧ b ≠ 0 ∧ (1000000000000 : Int).tdiv (labs a) < labs b := ⟨by omega, by omega, by (first | (rw [show labs a = -a from by unfold labs; rw [if_pos (by omega)]]) | (rw [show labs a = a from by unfold labs; rw [if_neg (by omega)]])); (first | (rw [show labs b = -b from by unfold labs; rw [if_pos (by omega)]]) | (rw [show labs b = b from by unfold labs; rw [if_neg (by omega)]])); omega⟩)
            | (have hm : ¬ (a ≠ 0 ∧ b ≠ 0 ∧ (1000000000000 : Int).tdiv (labs a) < labs b) := fun z => z.1 (by omega))
            | (have hm : ¬ (a ≠ 0 ∧ b ≠ 0 ∧ (1000000000000 : Int).tdiv (labs a) < labs b) := fun z => z.2.1 (by omega))
            | (have hm : ¬ (a ≠ 0 ∧ b ≠ 0 ∧ (1000000000000 : Int).tdiv (labs a) < labs b) := fun z => absurd z.2.2 (by (first | (rw [show labs a = -a from by unfold labs; rw [if_pos (by omega)]]) | (rw [show labs a = a from by unfold labs; rw [if_neg (by omega)]])); (first | (rw [show labs b = -b from by unfold labs; rw [if_pos (by omega)]]) | (rw [show labs b = b from by unfold labs; rw [if_neg (by omega)]])); omega))
            refine c_istore (ls' := [_, _, _, _, _, _]) dX11_times_49 (by decide) rfl rfl ?_
            refine a_aloadn dX11_times_51 rfl ?_
            refine a_aloadn dX11_times_52 rfl ?_
            refine b_getZ (j' := 47) dX11_times_53 flX11_296 rfl rfl (L209 L) (fun hr53 => ?_)
            refine a_if_ne (tgt := 64) dX11_times_56 (by decide) (by rcases hr53 with z | z <;> exact ⟨by omega, by omega⟩) (fun hb56 => ?_) (fun hb56 => ?_)
            · refine a_iconst dX11_times_64 ?_
              refine a_goto (tgt := 69) dX11_times_65 (by decide) ?_
              refine a_putZ (j' := 47) dX11_times_69 flX11_296 rfl rfl (L209 L) (by decide) rfl (by omega) ?_
              refine a_aloadn dX11_times_72 rfl ?_
              refine b_getZ (j' := 47) dX11_times_73 flX11_296 rfl rfl (L209 L) (fun hr73 => ?_)
              rw [sm_s] at hr73
              rw [sm_s]
              refine a_if_eq (tgt := 83) dX11_times_76 (by decide) ⟨by omega, by omega⟩ (fun hb76 => ?_) (fun hb76 => ?_)
              · refine a_lloadn dX11_times_83 rfl ?_
                refine a_lloadn dX11_times_84 rfl ?_
                refine a_lmul dX11_times_85 ?_
                exact a_lreturn dX11_times_86 rfl rfl rfl (zdet_L (by first | (exfalso; omega) | (rw [if_pos (Or.inr hm)]; done) | (rw [if_pos (Or.inl (by omega))]; done) | (rw [if_neg (fun z => by rcases z with z | z; (omega); exact hm z)]; done)) (by first | (exfalso; omega) | (rw [if_pos (Or.inr hm)]; done) | (rw [if_pos (Or.inl (by omega))]; done) | (rw [if_neg (fun z => by rcases z with z | z; (omega); exact hm z)]; done)))
              · refine a_lconst (w := 0) dX11_times_79 (by decide) ?_
                refine a_goto (tgt := 86) dX11_times_80 (by decide) ?_
                exact a_lreturn dX11_times_86 rfl rfl rfl (zdet_L (by first | (exfalso; omega) | (rw [if_pos (Or.inr hm)]; done) | (rw [if_pos (Or.inl (by omega))]; done) | (rw [if_neg (fun z => by rcases z with z | z; (omega); exact hm z)]; done)) (by first | (exfalso; omega) | (rw [if_pos (Or.inr hm)]; done) | (rw [if_pos (Or.inl (by omega))]; done) | (rw [if_neg (fun z => by rcases z with z | z; (omega); exact hm z)]; done)))
            · refine a_iload dX11_times_59 rfl ?_
              refine a_if_eq (tgt := 68) dX11_times_61 (by decide) ⟨by omega, by omega⟩ (fun hb61 => ?_) (fun hb61 => ?_)
              · refine a_iconst dX11_times_68 ?_
                refine a_putZ (j' := 47) dX11_times_69 flX11_296 rfl rfl (L209 L) (by decide) rfl (by omega) ?_
                refine a_aloadn dX11_times_72 rfl ?_
                refine b_getZ (j' := 47) dX11_times_73 flX11_296 rfl rfl (L209 L) (fun hr73 => ?_)
                rw [sm_s] at hr73
                rw [sm_s]
                refine a_if_eq (tgt := 83) dX11_times_76 (by decide) ⟨by omega, by omega⟩ (fun hb76 => ?_) (fun hb76 => ?_)
                · refine a_lloadn dX11_times_83 rfl ?_
                  refine a_lloadn dX11_times_84 rfl ?_
                  refine a_lmul dX11_times_85 ?_
                  exact a_lreturn dX11_times_86 rfl rfl rfl (zdet_L (by first | (exfalso; omega) | (rw [if_pos (Or.inr hm)]; done) | (rw [if_pos (Or.inl (by omega))]; done) | (rw [if_neg (fun z => by rcases z with z | z; (omega); exact hm z)]; done)) (by first | (exfalso; omega) | (rw [if_pos (Or.inr hm)]; done) | (rw [if_pos (Or.inl (by omega))]; done) | (rw [if_neg (fun z => by rcases z with z | z; (omega); exact hm z)]; done)))
                · refine a_lconst (w := 0) dX11_times_79 (by decide) ?_
                  refine a_goto (tgt := 86) dX11_times_80 (by decide) ?_
                  exact a_lreturn dX11_times_86 rfl rfl rfl (zdet_L (by first | (exfalso; omega) | (rw [if_pos (Or.inr hm)]; done) | (rw [if_pos (Or.inl (by omega))]; done) | (rw [if_neg (fun z => by rcases z with z | z; (omega); exact hm z)]; done)) (by first | (exfalso; omega) | (rw [if_pos (Or.inr hm)]; done) | (rw [if_pos (Or.inl (by omega))]; done) | (rw [if_neg (fun z => by rcases z with z | z; (omega); exact hm z)]; done)))
              · refine a_iconst dX11_times_64 ?_
                refine a_goto (tgt := 69) dX11_times_65 (by decide) ?_
                refine a_putZ (j' := 47) dX11_times_69 flX11_296 rfl rfl (L209 L) (by decide) rfl (by omega) ?_
                refine a_aloadn dX11_times_72 rfl ?_
                refine b_getZ (j' := 47) dX11_times_73 flX11_296 rfl rfl (L209 L) (fun hr73 => ?_)
                rw [sm_s] at hr73
                rw [sm_s]
                refine a_if_eq (tgt := 83) dX11_times_76 (by decide) ⟨by omega, by omega⟩ (fun hb76 => ?_) (fun hb76 => ?_)
                · refine a_lloadn dX11_times_83 rfl ?_
                  refine a_lloadn dX11_times_84 rfl ?_
                  refine a_lmul dX11_times_85 ?_
                  exact a_lreturn dX11_times_86 rfl rfl rfl (zdet_L (by first | (exfalso; omega) | (rw [if_pos (Or.inr hm)]; done) | (rw [if_pos (Or.inl (by omega))]; done) | (rw [if_neg (fun z => by rcases z with z | z; (omega); exact hm z)]; done)) (by first | (exfalso; omega) | (rw [if_pos (Or.inr hm)]; done) | (rw [if_pos (Or.inl (by omega))]; done) | (rw [if_neg (fun z => by rcases z with z | z; (omega); exact hm z)]; done)))
                · refine a_lconst (w := 0) dX11_times_79 (by decide) ?_
                  refine a_goto (tgt := 86) dX11_times_80 (by decide) ?_
                  exact a_lreturn dX11_times_86 rfl rfl rfl (zdet_L (by first | (exfalso; omega) | (rw [if_pos (Or.inr hm)]; done) | (rw [if_pos (Or.inl (by omega))]; done) | (rw [if_neg (fun z => by rcases z with z | z; (omega); exact hm z)]; done)) (by first | (exfalso; omega) | (rw [if_pos (Or.inr hm)]; done) | (rw [if_pos (Or.inl (by omega))]; done) | (rw [if_neg (fun z => by rcases z with z | z; (omega); exact hm z)]; done)))
          · refine a_iconst dX11_times_44 ?_
            refine a_goto (tgt := 49) dX11_times_45 (by decide) ?_
            first
            | (have hm : a ≠ 0 ∧ b ≠ 0 ∧ (1000000000000 : Int).tdiv (labs a) < labs b := ⟨by omega, by omega, by (first | (rw [show labs a = -a from by unfold labs; rw [if_pos (by omega)]]) | (rw [show labs a = a from by unfold labs; rw [if_neg (by omega)]])); (first | (rw [show labs b = -b from by unfold labs; rw [if_pos (by omega)]]) | (rw [show labs b = b from by unfold labs; rw [if_neg (by omega)]])); omega⟩)
            | (have hm : ¬ (a ≠ 0 ∧ b ≠ 0 ∧ (1000000000000 : Int).tdiv (labs a) < labs b) := fun z => z.1 (by omega))
            | (have hm : ¬ (a ≠ 0 ∧ b ≠ 0 ∧ (1000000000000 : Int).tdiv (labs a) < labs b) := fun z => z.2.1 (by omega))
            | (have hm : ¬ (a ≠ 0 ∧ b ≠ 0 ∧ (1000000000000 : Int).tdiv (labs a) < labs b) := fun z => absurd z.2.2 (by (first | (rw [show labs a = -a from by unfold labs; rw [if_pos (by omega)]]) | (rw [show labs a = a from by unfold labs; rw [if_neg (by omega)]])); (first | (rw [show labs b = -b from by unfold labs; rw [if_pos (by omega)]]) | (rw [show labs b = b from by unfold labs; rw [if_neg (by omega)]])); omega))
            refine c_istore (ls' := [_, _, _, _, _, _]) dX11_times_49 (by decide) rfl rfl ?_
            refine a_aloadn dX11_times_51 rfl ?_
            refine a_aloadn dX11_times_52 rfl ?_
            refine b_getZ (j' := 47) dX11_times_53 flX11_296 rfl rfl (L209 L) (fun hr53 => ?_)
            refine a_if_ne (tgt := 64) dX11_times_56 (by decide) (by rcases hr53 with z | z <;> exact ⟨by omega, by omega⟩) (fun hb56 => ?_) (fun hb56 => ?_)
            · refine a_iconst dX11_times_64 ?_
              refine a_goto (tgt := 69) dX11_times_65 (by decide) ?_
              refine a_putZ (j' := 47) dX11_times_69 flX11_296 rfl rfl (L209 L) (by decide) rfl (by omega) ?_
              refine a_aloadn dX11_times_72 rfl ?_
              refine b_getZ (j' := 47) dX11_times_73 flX11_296 rfl rfl (L209 L) (fun hr73 => ?_)
              rw [sm_s] at hr73
              rw [sm_s]
              refine a_if_eq (tgt := 83) dX11_times_76 (by decide) ⟨by omega, by omega⟩ (fun hb76 => ?_) (fun hb76 => ?_)
              · refine a_lloadn dX11_times_83 rfl ?_
                refine a_lloadn dX11_times_84 rfl ?_
                refine a_lmul dX11_times_85 ?_
                exact a_lreturn dX11_times_86 rfl rfl rfl (zdet_L (by first | (exfalso; omega) | (rw [if_pos (Or.inr hm)]; done) | (rw [if_pos (Or.inl (by omega))]; done) | (rw [if_neg (fun z => by rcases z with z | z; (omega); exact hm z)]; done)) (by first | (exfalso; omega) | (rw [if_pos (Or.inr hm)]; done) | (rw [if_pos (Or.inl (by omega))]; done) | (rw [if_neg (fun z => by rcases z with z | z; (omega); exact hm z)]; done)))
              · refine a_lconst (w := 0) dX11_times_79 (by decide) ?_
                refine a_goto (tgt := 86) dX11_times_80 (by decide) ?_
                exact a_lreturn dX11_times_86 rfl rfl rfl (zdet_L (by first | (exfalso; omega) | (rw [if_pos (Or.inr hm)]; done) | (rw [if_pos (Or.inl (by omega))]; done) | (rw [if_neg (fun z => by rcases z with z | z; (omega); exact hm z)]; done)) (by first | (exfalso; omega) | (rw [if_pos (Or.inr hm)]; done) | (rw [if_pos (Or.inl (by omega))]; done) | (rw [if_neg (fun z => by rcases z with z | z; (omega); exact hm z)]; done)))
            · refine a_iload dX11_times_59 rfl ?_
              refine a_if_eq (tgt := 68) dX11_times_61 (by decide) ⟨by omega, by omega⟩ (fun hb61 => ?_) (fun hb61 => ?_)
              · refine a_iconst dX11_times_68 ?_
                refine a_putZ (j' := 47) dX11_times_69 flX11_296 rfl rfl (L209 L) (by decide) rfl (by omega) ?_
                refine a_aloadn dX11_times_72 rfl ?_
                refine b_getZ (j' := 47) dX11_times_73 flX11_296 rfl rfl (L209 L) (fun hr73 => ?_)
                rw [sm_s] at hr73
                rw [sm_s]
                refine a_if_eq (tgt := 83) dX11_times_76 (by decide) ⟨by omega, by omega⟩ (fun hb76 => ?_) (fun hb76 => ?_)
                · refine a_lloadn dX11_times_83 rfl ?_
                  refine a_lloadn dX11_times_84 rfl ?_
                  refine a_lmul dX11_times_85 ?_
                  exact a_lreturn dX11_times_86 rfl rfl rfl (zdet_L (by first | (exfalso; omega) | (rw [if_pos (Or.inr hm)]; done) | (rw [if_pos (Or.inl (by omega))]; done) | (rw [if_neg (fun z => by rcases z with z | z; (omega); exact hm z)]; done)) (by first | (exfalso; omega) | (rw [if_pos (Or.inr hm)]; done) | (rw [if_pos (Or.inl (by omega))]; done) | (rw [if_neg (fun z => by rcases z with z | z; (omega); exact hm z)]; done)))
                · refine a_lconst (w := 0) dX11_times_79 (by decide) ?_
                  refine a_goto (tgt := 86) dX11_times_80 (by decide) ?_
                  exact a_lreturn dX11_times_86 rfl rfl rfl (zdet_L (by first | (exfalso; omega) | (rw [if_pos (Or.inr hm)]; done) | (rw [if_pos (Or.inl (by omega))]; done) | (rw [if_neg (fun z => by rcases z with z | z; (omega); exact hm z)]; done)) (by first | (exfalso; omega) | (rw [if_pos (Or.inr hm)]; done) | (rw [if_pos (Or.inl (by omega))]; done) | (rw [if_neg (fun z => by rcases z with z | z; (omega); exact hm z)]; done)))
              · refine a_iconst dX11_times_64 ?_
                refine a_goto (tgt := 69) dX11_times_65 (by decide) ?_
                refine a_putZ (j' := 47) dX11_times_69 flX11_296 rfl rfl (L209 L) (by decide) rfl (by omega) ?_
                refine a_aloadn dX11_times_72 rfl ?_
                refine b_getZ (j' := 47) dX11_times_73 flX11_296 rfl rfl (L209 L) (fun hr73 => ?_)
                rw [sm_s] at hr73
                rw [sm_s]
                refine a_if_eq (tgt := 83) dX11_times_76 (by decide) ⟨by omega, by omega⟩ (fun hb76 => ?_) (fun hb76 => ?_)
                · refine a_lloadn dX11_times_83 rfl ?_
                  refine a_lloadn dX11_times_84 rfl ?_
                  refine a_lmul dX11_times_85 ?_
                  exact a_lreturn dX11_times_86 rfl rfl rfl (zdet_L (by first | (exfalso; omega) | (rw [if_pos (Or.inr hm)]; done) | (rw [if_pos (Or.inl (by omega))]; done) | (rw [if_neg (fun z => by rcases z with z | z; (omega); exact hm z)]; done)) (by first | (exfalso; omega) | (rw [if_pos (Or.inr hm)]; done) | (rw [if_pos (Or.inl (by omega))]; done) | (rw [if_neg (fun z => by rcases z with z | z; (omega); exact hm z)]; done)))
                · refine a_lconst (w := 0) dX11_times_79 (by decide) ?_
                  refine a_goto (tgt := 86) dX11_times_80 (by decide) ?_
                  exact a_lreturn dX11_times_86 rfl rfl rfl (zdet_L (by first | (exfalso; omega) | (rw [if_pos (Or.inr hm)]; done) | (rw [if_pos (Or.inl (by omega))]; done) | (rw [if_neg (fun z => by rcases z with z | z; (omega); exact hm z)]; done)) (by first | (exfalso; omega) | (rw [if_pos (Or.inr hm)]; done) | (rw [if_pos (Or.inl (by omega))]; done) | (rw [if_neg (fun z => by rcases z with z | z; (omega); exact hm z)]; done)))
      · refine a_lloadn dX11_times_18 rfl ?_
        refine a_lneg dX11_times_19 ?_
        refine a_goto (tgt := 24) dX11_times_20 (by decide) ?_
        refine a_ldc2 (w := 1000000000000) dX11_times_24 knX11_299 (by decide) ?_
        refine a_lloadn dX11_times_27 rfl ?_
        refine a_lconst (w := 0) dX11_times_28 (by decide) ?_
        refine c_lcmp dX11_times_29 ⟨by omega, by omega⟩ ⟨by omega, by omega⟩ (fun r29 hq29 => ?_)
        refine a_if_ge (tgt := 38) dX11_times_30 (by decide) ⟨by omega, by omega⟩ (fun hb30 => ?_) (fun hb30 => ?_)
        · refine a_lloadn dX11_times_38 rfl ?_
          refine a_ldiv dX11_times_39 ⟨by omega, by omega⟩ ⟨by omega, by omega⟩ (by omega) (by omega) ?_
          refine c_lcmp dX11_times_40 ⟨by omega, by omega⟩ ⟨by have := tdiv_lim (a := 1000000000000) (b := a) ⟨by decide, by decide⟩; have := tdiv_lim (a := 1000000000000) (b := -a) ⟨by decide, by decide⟩; omega, by have := tdiv_lim (a := 1000000000000) (b := a) ⟨by decide, by decide⟩; have := tdiv_lim (a := 1000000000000) (b := -a) ⟨by decide, by decide⟩; omega⟩ (fun r40 hq40 => ?_)
          refine a_if_le (tgt := 48) dX11_times_41 (by decide) ⟨by omega, by omega⟩ (fun hb41 => ?_) (fun hb41 => ?_)
          · refine a_iconst dX11_times_48 ?_
            first
            | (have hm : a ≠ 0 ∧ b ≠ 0 ∧ (1000000000000 : Int).tdiv (labs a) < labs b := ⟨by omega, by omega, by (first | (rw [show labs a = -a from by unfold labs; rw [if_pos (by omega)]]) | (rw [show labs a = a from by unfold labs; rw [if_neg (by omega)]])); (first | (rw [show labs b = -b from by unfold labs; rw [if_pos (by omega)]]) | (rw [show labs b = b from by unfold labs; rw [if_neg (by omega)]])); omega⟩)
            | (have hm : ¬ (a ≠ 0 ∧ b ≠ 0 ∧ (1000000000000 : Int).tdiv (labs a) < labs b) := fun z => z.1 (by omega))
            | (have hm : ¬ (a ≠ 0 ∧ b ≠ 0 ∧ (1000000000000 : Int).tdiv (labs a) < labs b) := fun z => z.2.1 (by omega))
            | (have hm : ¬ (a ≠ 0 ∧ b ≠ 0 ∧ (1000000000000 : Int).tdiv (labs a) < labs b) := fun z => absurd z.2.2 (by (first | (rw [show labs a = -a from by unfold labs; rw [if_pos (by omega)]]) | (rw [show labs a = a from by unfold labs; rw [if_neg (by omega)]])); (first | (rw [show labs b = -b from by unfold labs; rw [if_pos (by omega)]]) | (rw [show labs b = b from by unfold labs; rw [if_neg (by omega)]])); omega))
            refine c_istore (ls' := [_, _, _, _, _, _]) dX11_times_49 (by decide) rfl rfl ?_
            refine a_aloadn dX11_times_51 rfl ?_
            refine a_aloadn dX11_times_52 rfl ?_
            refine b_getZ (j' := 47) dX11_times_53 flX11_296 rfl rfl (L209 L) (fun hr53 => ?_)
            refine a_if_ne (tgt := 64) dX11_times_56 (by decide) (by rcases hr53 with z | z <;> exact ⟨by omega, by omega⟩) (fun hb56 => ?_) (fun hb56 => ?_)
            · refine a_iconst dX11_times_64 ?_
              refine a_goto (tgt := 69) dX11_times_65 (by decide) ?_
              refine a_putZ (j' := 47) dX11_times_69 flX11_296 rfl rfl (L209 L) (by decide) rfl (by omega) ?_
              refine a_aloadn dX11_times_72 rfl ?_
              refine b_getZ (j' := 47) dX11_times_73 flX11_296 rfl rfl (L209 L) (fun hr73 => ?_)
              rw [sm_s] at hr73
              rw [sm_s]
              refine a_if_eq (tgt := 83) dX11_times_76 (by decide) ⟨by omega, by omega⟩ (fun hb76 => ?_) (fun hb76 => ?_)
              · refine a_lloadn dX11_times_83 rfl ?_
                refine a_lloadn dX11_times_84 rfl ?_
                refine a_lmul dX11_times_85 ?_
                exact a_lreturn dX11_times_86 rfl rfl rfl (zdet_L (by first | (exfalso; omega) | (rw [if_pos (Or.inr hm)]; done) | (rw [if_pos (Or.inl (by omega))]; done) | (rw [if_neg (fun z => by rcases z with z | z; (omega); exact hm z)]; done)) (by first | (exfalso; omega) | (rw [if_pos (Or.inr hm)]; done) | (rw [if_pos (Or.inl (by omega))]; done) | (rw [if_neg (fun z => by rcases z with z | z; (omega); exact hm z)]; done)))
              · refine a_lconst (w := 0) dX11_times_79 (by decide) ?_
                refine a_goto (tgt := 86) dX11_times_80 (by decide) ?_
                exact a_lreturn dX11_times_86 rfl rfl rfl (zdet_L (by first | (exfalso; omega) | (rw [if_pos (Or.inr hm)]; done) | (rw [if_pos (Or.inl (by omega))]; done) | (rw [if_neg (fun z => by rcases z with z | z; (omega); exact hm z)]; done)) (by first | (exfalso; omega) | (rw [if_pos (Or.inr hm)]; done) | (rw [if_pos (Or.inl (by omega))]; done) | (rw [if_neg (fun z => by rcases z with z | z; (omega); exact hm z)]; done)))
            · refine a_iload dX11_times_59 rfl ?_
              refine a_if_eq (tgt := 68) dX11_times_61 (by decide) ⟨by omega, by omega⟩ (fun hb61 => ?_) (fun hb61 => ?_)
              · refine a_iconst dX11_times_68 ?_
                refine a_putZ (j' := 47) dX11_times_69 flX11_296 rfl rfl (L209 L) (by decide) rfl (by omega) ?_
                refine a_aloadn dX11_times_72 rfl ?_
                refine b_getZ (j' := 47) dX11_times_73 flX11_296 rfl rfl (L209 L) (fun hr73 => ?_)
                rw [sm_s] at hr73
                rw [sm_s]
                refine a_if_eq (tgt := 83) dX11_times_76 (by decide) ⟨by omega, by omega⟩ (fun hb76 => ?_) (fun hb76 => ?_)
                · refine a_lloadn dX11_times_83 rfl ?_
                  refine a_lloadn dX11_times_84 rfl ?_
                  refine a_lmul dX11_times_85 ?_
                  exact a_lreturn dX11_times_86 rfl rfl rfl (zdet_L (by first | (exfalso; omega) | (rw [if_pos (Or.inr hm)]; done) | (rw [if_pos (Or.inl (by omega))]; done) | (rw [if_neg (fun z => by rcases z with z | z; (omega); exact hm z)]; done)) (by first | (exfalso; omega) | (rw [if_pos (Or.inr hm)]; done) | (rw [if_pos (Or.inl (by omega))]; done) | (rw [if_neg (fun z => by rcases z with z | z; (omega); exact hm z)]; done)))
                · refine a_lconst (w := 0) dX11_times_79 (by decide) ?_
                  refine a_goto (tgt := 86) dX11_times_80 (by decide) ?_
                  exact a_lreturn dX11_times_86 rfl rfl rfl (zdet_L (by first | (exfalso; omega) | (rw [if_pos (Or.inr hm)]; done) | (rw [if_pos (Or.inl (by omega))]; done) | (rw [if_neg (fun z => by rcases z with z | z; (omega); exact hm z)]; done)) (by first | (exfalso; omega) | (rw [if_pos (Or.inr hm)]; done) | (rw [if_pos (Or.inl (by omega))]; done) | (rw [if_neg (fun z => by rcases z with z | z; (omega); exact hm z)]; done)))
              · refine a_iconst dX11_times_64 ?_
                refine a_goto (tgt := 69) dX11_times_65 (by decide) ?_
                refine a_putZ (j' := 47) dX11_times_69 flX11_296 rfl rfl (L209 L) (by decide) rfl (by omega) ?_
                refine a_aloadn dX11_times_72 rfl ?_
                refine b_getZ (j' := 47) dX11_times_73 flX11_296 rfl rfl (L209 L) (fun hr73 => ?_)
                rw [sm_s] at hr73
                rw [sm_s]
                refine a_if_eq (tgt := 83) dX11_times_76 (by decide) ⟨by omega, by omega⟩ (fun hb76 => ?_) (fun hb76 => ?_)
                · refine a_lloadn dX11_times_83 rfl ?_
                  refine a_lloadn dX11_times_84 rfl ?_
                  refine a_lmul dX11_times_85 ?_
                  exact a_lreturn dX11_times_86 rfl rfl rfl (zdet_L (by first | (exfalso; omega) | (rw [if_pos (Or.inr hm)]; done) | (rw [if_pos (Or.inl (by omega))]; done) | (rw [if_neg (fun z => by rcases z with z | z; (omega); exact hm z)]; done)) (by first | (exfalso; omega) | (rw [if_pos (Or.inr hm)]; done) | (rw [if_pos (Or.inl (by omega))]; done) | (rw [if_neg (fun z => by rcases z with z | z; (omega); exact hm z)]; done)))
                · refine a_lconst (w := 0) dX11_times_79 (by decide) ?_
                  refine a_goto (tgt := 86) dX11_times_80 (by decide) ?_
                  exact a_lreturn dX11_times_86 rfl rfl rfl (zdet_L (by first | (exfalso; omega) | (rw [if_pos (Or.inr hm)]; done) | (rw [if_pos (Or.inl (by omega))]; done) | (rw [if_neg (fun z => by rcases z with z | z; (omega); exact hm z)]; done)) (by first | (exfalso; omega) | (rw [if_pos (Or.inr hm)]; done) | (rw [if_pos (Or.inl (by omega))]; done) | (rw [if_neg (fun z => by rcases z with z | z; (omega); exact hm z)]; done)))
          · refine a_iconst dX11_times_44 ?_
            refine a_goto (tgt := 49) dX11_times_45 (by decide) ?_
            first
            | (have hm : a ≠ 0 ∧ b ≠ 0 ∧ (1000000000000 : Int).tdiv (labs a) < labs b := ⟨by omega, by omega, by (first | (rw [show labs a = -a from by unfold labs; rw [if_pos (by omega)]]) | (rw [show labs a = a from by unfold labs; rw [if_neg (by omega)]])); (first | (rw [show labs b = -b from by unfold labs; rw [if_pos (by omega)]]) | (rw [show labs b = b from by unfold labs; rw [if_neg (by omega)]])); omega⟩)
            | (have hm : ¬ (a ≠ 0 ∧ b ≠ 0 ∧ (1000000000000 : Int).tdiv (labs a) < labs b) := fun z => z.1 (by omega))
            | (have hm : ¬ (a ≠ 0 ∧ b ≠ 0 ∧ (1000000000000 : Int).tdiv (labs a) < labs b) := fun z => z.2.1 (by omega))
            | (have hm : ¬ (a ≠ 0 ∧ b ≠ 0 ∧ (1000000000000 : Int).tdiv (labs a) < labs b) := fun z => absurd z.2.2 (by (first | (rw [show labs a = -a from by unfold labs; rw [if_pos (by omega)]]) | (rw [show labs a = a from by unfold labs; rw [if_neg (by omega)]])); (first | (rw [show labs b = -b from by unfold labs; rw [if_pos (by omega)]]) | (rw [show labs b = b from by unfold labs; rw [if_neg (by omega)]])); omega))
            refine c_istore (ls' := [_, _, _, _, _, _]) dX11_times_49 (by decide) rfl rfl ?_
            refine a_aloadn dX11_times_51 rfl ?_
            refine a_aloadn dX11_times_52 rfl ?_
            refine b_getZ (j' := 47) dX11_times_53 flX11_296 rfl rfl (L209 L) (fun hr53 => ?_)
            refine a_if_ne (tgt := 64) dX11_times_56 (by decide) (by rcases hr53 with z | z <;> exact ⟨by omega, by omega⟩) (fun hb56 => ?_) (fun hb56 => ?_)
            · refine a_iconst dX11_times_64 ?_
              refine a_goto (tgt := 69) dX11_times_65 (by decide) ?_
              refine a_putZ (j' := 47) dX11_times_69 flX11_296 rfl rfl (L209 L) (by decide) rfl (by omega) ?_
              refine a_aloadn dX11_times_72 rfl ?_
              refine b_getZ (j' := 47) dX11_times_73 flX11_296 rfl rfl (L209 L) (fun hr73 => ?_)
              rw [sm_s] at hr73
              rw [sm_s]
              refine a_if_eq (tgt := 83) dX11_times_76 (by decide) ⟨by omega, by omega⟩ (fun hb76 => ?_) (fun hb76 => ?_)
              · refine a_lloadn dX11_times_83 rfl ?_
                refine a_lloadn dX11_times_84 rfl ?_
                refine a_lmul dX11_times_85 ?_
                exact a_lreturn dX11_times_86 rfl rfl rfl (zdet_L (by first | (exfalso; omega) | (rw [if_pos (Or.inr hm)]; done) | (rw [if_pos (Or.inl (by omega))]; done) | (rw [if_neg (fun z => by rcases z with z | z; (omega); exact hm z)]; done)) (by first | (exfalso; omega) | (rw [if_pos (Or.inr hm)]; done) | (rw [if_pos (Or.inl (by omega))]; done) | (rw [if_neg (fun z => by rcases z with z | z; (omega); exact hm z)]; done)))
              · refine a_lconst (w := 0) dX11_times_79 (by decide) ?_
                refine a_goto (tgt := 86) dX11_times_80 (by decide) ?_
                exact a_lreturn dX11_times_86 rfl rfl rfl (zdet_L (by first | (exfalso; omega) | (rw [if_pos (Or.inr hm)]; done) | (rw [if_pos (Or.inl (by omega))]; done) | (rw [if_neg (fun z => by rcases z with z | z; (omega); exact hm z)]; done)) (by first | (exfalso; omega) | (rw [if_pos (Or.inr hm)]; done) | (rw [if_pos (Or.inl (by omega))]; done) | (rw [if_neg (fun z => by rcases z with z | z; (omega); exact hm z)]; done)))
            · refine a_iload dX11_times_59 rfl ?_
              refine a_if_eq (tgt := 68) dX11_times_61 (by decide) ⟨by omega, by omega⟩ (fun hb61 => ?_) (fun hb61 => ?_)
              · refine a_iconst dX11_times_68 ?_
                refine a_putZ (j' := 47) dX11_times_69 flX11_296 rfl rfl (L209 L) (by decide) rfl (by omega) ?_
                refine a_aloadn dX11_times_72 rfl ?_
                refine b_getZ (j' := 47) dX11_times_73 flX11_296 rfl rfl (L209 L) (fun hr73 => ?_)
                rw [sm_s] at hr73
                rw [sm_s]
                refine a_if_eq (tgt := 83) dX11_times_76 (by decide) ⟨by omega, by omega⟩ (fun hb76 => ?_) (fun hb76 => ?_)
                · refine a_lloadn dX11_times_83 rfl ?_
                  refine a_lloadn dX11_times_84 rfl ?_
                  refine a_lmul dX11_times_85 ?_
                  exact a_lreturn dX11_times_86 rfl rfl rfl (zdet_L (by first | (exfalso; omega) | (rw [if_pos (Or.inr hm)]; done) | (rw [if_pos (Or.inl (by omega))]; done) | (rw [if_neg (fun z => by rcases z with z | z; (omega); exact hm z)]; done)) (by first | (exfalso; omega) | (rw [if_pos (Or.inr hm)]; done) | (rw [if_pos (Or.inl (by omega))]; done) | (rw [if_neg (fun z => by rcases z with z | z; (omega); exact hm z)]; done)))
                · refine a_lconst (w := 0) dX11_times_79 (by decide) ?_
                  refine a_goto (tgt := 86) dX11_times_80 (by decide) ?_
                  exact a_lreturn dX11_times_86 rfl rfl rfl (zdet_L (by first | (exfalso; omega) | (rw [if_pos (Or.inr hm)]; done) | (rw [if_pos (Or.inl (by omega))]; done) | (rw [if_neg (fun z => by rcases z with z | z; (omega); exact hm z)]; done)) (by first | (exfalso; omega) | (rw [if_pos (Or.inr hm)]; done) | (rw [if_pos (Or.inl (by omega))]; done) | (rw [if_neg (fun z => by rcases z with z | z; (omega); exact hm z)]; done)))
              · refine a_iconst dX11_times_64 ?_
                refine a_goto (tgt := 69) dX11_times_65 (by decide) ?_
                refine a_putZ (j' := 47) dX11_times_69 flX11_296 rfl rfl (L209 L) (by decide) rfl (by omega) ?_
                refine a_aloadn dX11_times_72 rfl ?_
                refine b_getZ (j' := 47) dX11_times_73 flX11_296 rfl rfl (L209 L) (fun hr73 => ?_)
                rw [sm_s] at hr73
                rw [sm_s]
                refine a_if_eq (tgt := 83) dX11_times_76 (by decide) ⟨by omega, by omega⟩ (fun hb76 => ?_) (fun hb76 => ?_)
                · refine a_lloadn dX11_times_83 rfl ?_
                  refine a_lloadn dX11_times_84 rfl ?_
                  refine a_lmul dX11_times_85 ?_
                  exact a_lreturn dX11_times_86 rfl rfl rfl (zdet_L (by first | (exfalso; omega) | (rw [if_pos (Or.inr hm)]; done) | (rw [if_pos (Or.inl (by omega))]; done) | (rw [if_neg (fun z => by rcases z with z | z; (omega); exact hm z)]; done)) (by first | (exfalso; omega) | (rw [if_pos (Or.inr hm)]; done) | (rw [if_pos (Or.inl (by omega))]; done) | (rw [if_neg (fun z => by rcases z with z | z; (omega); exact hm z)]; done)))
                · refine a_lconst (w := 0) dX11_times_79 (by decide) ?_
                  refine a_goto (tgt := 86) dX11_times_80 (by decide) ?_
                  exact a_lreturn dX11_times_86 rfl rfl rfl (zdet_L (by first | (exfalso; omega) | (rw [if_pos (Or.inr hm)]; done) | (rw [if_pos (Or.inl (by omega))]; done) | (rw [if_neg (fun z => by rcases z with z | z; (omega); exact hm z)]; done)) (by first | (exfalso; omega) | (rw [if_pos (Or.inr hm)]; done) | (rw [if_pos (Or.inl (by omega))]; done) | (rw [if_neg (fun z => by rcases z with z | z; (omega); exact hm z)]; done)))
        · refine a_lloadn dX11_times_33 rfl ?_
          refine a_lneg dX11_times_34 ?_
          refine a_goto (tgt := 39) dX11_times_35 (by decide) ?_
          refine a_ldiv dX11_times_39 ⟨by omega, by omega⟩ ⟨by omega, by omega⟩ (by omega) (by omega) ?_
          refine c_lcmp dX11_times_40 ⟨by omega, by omega⟩ ⟨by have := tdiv_lim (a := 1000000000000) (b := a) ⟨by decide, by decide⟩; have := tdiv_lim (a := 1000000000000) (b := -a) ⟨by decide, by decide⟩; omega, by have := tdiv_lim (a := 1000000000000) (b := a) ⟨by decide, by decide⟩; have := tdiv_lim (a := 1000000000000) (b := -a) ⟨by decide, by decide⟩; omega⟩ (fun r40 hq40 => ?_)
          refine a_if_le (tgt := 48) dX11_times_41 (by decide) ⟨by omega, by omega⟩ (fun hb41 => ?_) (fun hb41 => ?_)
          · refine a_iconst dX11_times_48 ?_
            first
            | (have hm : a ≠ 0 ∧ b ≠ 0 ∧ (1000000000000 : Int).tdiv (labs a) < labs b := ⟨by omega, by omega, by (first | (rw [show labs a = -a from by unfold labs; rw [if_pos (by omega)]]) | (rw [show labs a = a from by unfold labs; rw [if_neg (by omega)]])); (first | (rw [show labs b = -b from by unfold labs; rw [if_pos (by omega)]]) | (rw [show labs b = b from by unfold labs; rw [if_neg (by omega)]])); omega⟩)
            | (have hm : ¬ (a ≠ 0 ∧ b ≠ 0 ∧ (1000000000000 : Int).tdiv (labs a) < labs b) := fun z => z.1 (by omega))
            | (have hm : ¬ (a ≠ 0 ∧ b ≠ 0 ∧ (1000000000000 : Int).tdiv (labs a) < labs b) := fun z => z.2.1 (by omega))
            | (have hm : ¬ (a ≠ 0 ∧ b ≠ 0 ∧ (1000000000000 : Int).tdiv (labs a) < labs b) := fun z => absurd z.2.2 (by (first | (rw [show labs a = -a from by unfold labs; rw [if_pos (by omega)]]) | (rw [show labs a = a from by unfold labs; rw [if_neg (by omega)]])); (first | (rw [show labs b = -b from by unfold labs; rw [if_pos (by omega)]]) | (rw [show labs b = b from by unfold labs; rw [if_neg (by omega)]])); omega))
            refine c_istore (ls' := [_, _, _, _, _, _]) dX11_times_49 (by decide) rfl rfl ?_
            refine a_aloadn dX11_times_51 rfl ?_
            refine a_aloadn dX11_times_52 rfl ?_
            refine b_getZ (j' := 47) dX11_times_53 flX11_296 rfl rfl (L209 L) (fun hr53 => ?_)
            refine a_if_ne (tgt := 64) dX11_times_56 (by decide) (by rcases hr53 with z | z <;> exact ⟨by omega, by omega⟩) (fun hb56 => ?_) (fun hb56 => ?_)
            · refine a_iconst dX11_times_64 ?_
              refine a_goto (tgt := 69) dX11_times_65 (by decide) ?_
              refine a_putZ (j' := 47) dX11_times_69 flX11_296 rfl rfl (L209 L) (by decide) rfl (by omega) ?_
              refine a_aloadn dX11_times_72 rfl ?_
              refine b_getZ (j' := 47) dX11_times_73 flX11_296 rfl rfl (L209 L) (fun hr73 => ?_)
              rw [sm_s] at hr73
              rw [sm_s]
              refine a_if_eq (tgt := 83) dX11_times_76 (by decide) ⟨by omega, by omega⟩ (fun hb76 => ?_) (fun hb76 => ?_)
              · refine a_lloadn dX11_times_83 rfl ?_
                refine a_lloadn dX11_times_84 rfl ?_
                refine a_lmul dX11_times_85 ?_
                exact a_lreturn dX11_times_86 rfl rfl rfl (zdet_L (by first | (exfalso; omega) | (rw [if_pos (Or.inr hm)]; done) | (rw [if_pos (Or.inl (by omega))]; done) | (rw [if_neg (fun z => by rcases z with z | z; (omega); exact hm z)]; done)) (by first | (exfalso; omega) | (rw [if_pos (Or.inr hm)]; done) | (rw [if_pos (Or.inl (by omega))]; done) | (rw [if_neg (fun z => by rcases z with z | z; (omega); exact hm z)]; done)))
              · refine a_lconst (w := 0) dX11_times_79 (by decide) ?_
                refine a_goto (tgt := 86) dX11_times_80 (by decide) ?_
                exact a_lreturn dX11_times_86 rfl rfl rfl (zdet_L (by first | (exfalso; omega) | (rw [if_pos (Or.inr hm)]; done) | (rw [if_pos (Or.inl (by omega))]; done) | (rw [if_neg (fun z => by rcases z with z | z; (omega); exact hm z)]; done)) (by first | (exfalso; omega) | (rw [if_pos (Or.inr hm)]; done) | (rw [if_pos (Or.inl (by omega))]; done) | (rw [if_neg (fun z => by rcases z with z | z; (omega); exact hm z)]; done)))
            · refine a_iload dX11_times_59 rfl ?_
              refine a_if_eq (tgt := 68) dX11_times_61 (by decide) ⟨by omega, by omega⟩ (fun hb61 => ?_) (fun hb61 => ?_)
              · refine a_iconst dX11_times_68 ?_
                refine a_putZ (j' := 47) dX11_times_69 flX11_296 rfl rfl (L209 L) (by decide) rfl (by omega) ?_
                refine a_aloadn dX11_times_72 rfl ?_
                refine b_getZ (j' := 47) dX11_times_73 flX11_296 rfl rfl (L209 L) (fun hr73 => ?_)
                rw [sm_s] at hr73
                rw [sm_s]
                refine a_if_eq (tgt := 83) dX11_times_76 (by decide) ⟨by omega, by omega⟩ (fun hb76 => ?_) (fun hb76 => ?_)
                · refine a_lloadn dX11_times_83 rfl ?_
                  refine a_lloadn dX11_times_84 rfl ?_
                  refine a_lmul dX11_times_85 ?_
                  exact a_lreturn dX11_times_86 rfl rfl rfl (zdet_L (by first | (exfalso; omega) | (rw [if_pos (Or.inr hm)]; done) | (rw [if_pos (Or.inl (by omega))]; done) | (rw [if_neg (fun z => by rcases z with z | z; (omega); exact hm z)]; done)) (by first | (exfalso; omega) | (rw [if_pos (Or.inr hm)]; done) | (rw [if_pos (Or.inl (by omega))]; done) | (rw [if_neg (fun z => by rcases z with z | z; (omega); exact hm z)]; done)))
                · refine a_lconst (w := 0) dX11_times_79 (by decide) ?_
                  refine a_goto (tgt := 86) dX11_times_80 (by decide) ?_
                  exact a_lreturn dX11_times_86 rfl rfl rfl (zdet_L (by first | (exfalso; omega) | (rw [if_pos (Or.inr hm)]; done) | (rw [if_pos (Or.inl (by omega))]; done) | (rw [if_neg (fun z => by rcases z with z | z; (omega); exact hm z)]; done)) (by first | (exfalso; omega) | (rw [if_pos (Or.inr hm)]; done) | (rw [if_pos (Or.inl (by omega))]; done) | (rw [if_neg (fun z => by rcases z with z | z; (omega); exact hm z)]; done)))
              · refine a_iconst dX11_times_64 ?_
                refine a_goto (tgt := 69) dX11_times_65 (by decide) ?_
                refine a_putZ (j' := 47) dX11_times_69 flX11_296 rfl rfl (L209 L) (by decide) rfl (by omega) ?_
                refine a_aloadn dX11_times_72 rfl ?_
                refine b_getZ (j' := 47) dX11_times_73 flX11_296 rfl rfl (L209 L) (fun hr73 => ?_)
                rw [sm_s] at hr73
                rw [sm_s]
                refine a_if_eq (tgt := 83) dX11_times_76 (by decide) ⟨by omega, by omega⟩ (fun hb76 => ?_) (fun hb76 => ?_)
                · refine a_lloadn dX11_times_83 rfl ?_
                  refine a_lloadn dX11_times_84 rfl ?_
                  refine a_lmul dX11_times_85 ?_
                  exact a_lreturn dX11_times_86 rfl rfl rfl (zdet_L (by first | (exfalso; omega) | (rw [if_pos (Or.inr hm)]; done) | (rw [if_pos (Or.inl (by omega))]; done) | (rw [if_neg (fun z => by rcases z with z | z; (omega); exact hm z)]; done)) (by first | (exfalso; omega) | (rw [if_pos (Or.inr hm)]; done) | (rw [if_pos (Or.inl (by omega))]; done) | (rw [if_neg (fun z => by rcases z with z | z; (omega); exact hm z)]; done)))
                · refine a_lconst (w := 0) dX11_times_79 (by decide) ?_
                  refine a_goto (tgt := 86) dX11_times_80 (by decide) ?_
                  exact a_lreturn dX11_times_86 rfl rfl rfl (zdet_L (by first | (exfalso; omega) | (rw [if_pos (Or.inr hm)]; done) | (rw [if_pos (Or.inl (by omega))]; done) | (rw [if_neg (fun z => by rcases z with z | z; (omega); exact hm z)]; done)) (by first | (exfalso; omega) | (rw [if_pos (Or.inr hm)]; done) | (rw [if_pos (Or.inl (by omega))]; done) | (rw [if_neg (fun z => by rcases z with z | z; (omega); exact hm z)]; done)))
          · refine a_iconst dX11_times_44 ?_
            refine a_goto (tgt := 49) dX11_times_45 (by decide) ?_
            first
            | (have hm : a ≠ 0 ∧ b ≠ 0 ∧ (1000000000000 : Int).tdiv (labs a) < labs b := ⟨by omega, by omega, by (first | (rw [show labs a = -a from by unfold labs; rw [if_pos (by omega)]]) | (rw [show labs a = a from by unfold labs; rw [if_neg (by omega)]])); (first | (rw [show labs b = -b from by unfold labs; rw [if_pos (by omega)]]) | (rw [show labs b = b from by unfold labs; rw [if_neg (by omega)]])); omega⟩)
            | (have hm : ¬ (a ≠ 0 ∧ b ≠ 0 ∧ (1000000000000 : Int).tdiv (labs a) < labs b) := fun z => z.1 (by omega))
            | (have hm : ¬ (a ≠ 0 ∧ b ≠ 0 ∧ (1000000000000 : Int).tdiv (labs a) < labs b) := fun z => z.2.1 (by omega))
            | (have hm : ¬ (a ≠ 0 ∧ b ≠ 0 ∧ (1000000000000 : Int).tdiv (labs a) < labs b) := fun z => absurd z.2.2 (by (first | (rw [show labs a = -a from by unfold labs; rw [if_pos (by omega)]]) | (rw [show labs a = a from by unfold labs; rw [if_neg (by omega)]])); (first | (rw [show labs b = -b from by unfold labs; rw [if_pos (by omega)]]) | (rw [show labs b = b from by unfold labs; rw [if_neg (by omega)]])); omega))
            refine c_istore (ls' := [_, _, _, _, _, _]) dX11_times_49 (by decide) rfl rfl ?_
            refine a_aloadn dX11_times_51 rfl ?_
            refine a_aloadn dX11_times_52 rfl ?_
            refine b_getZ (j' := 47) dX11_times_53 flX11_296 rfl rfl (L209 L) (fun hr53 => ?_)
            refine a_if_ne (tgt := 64) dX11_times_56 (by decide) (by rcases hr53 with z | z <;> exact ⟨by omega, by omega⟩) (fun hb56 => ?_) (fun hb56 => ?_)
            · refine a_iconst dX11_times_64 ?_
              refine a_goto (tgt := 69) dX11_times_65 (by decide) ?_
              refine a_putZ (j' := 47) dX11_times_69 flX11_296 rfl rfl (L209 L) (by decide) rfl (by omega) ?_
              refine a_aloadn dX11_times_72 rfl ?_
              refine b_getZ (j' := 47) dX11_times_73 flX11_296 rfl rfl (L209 L) (fun hr73 => ?_)
              rw [sm_s] at hr73
              rw [sm_s]
              refine a_if_eq (tgt := 83) dX11_times_76 (by decide) ⟨by omega, by omega⟩ (fun hb76 => ?_) (fun hb76 => ?_)
              · refine a_lloadn dX11_times_83 rfl ?_
                refine a_lloadn dX11_times_84 rfl ?_
                refine a_lmul dX11_times_85 ?_
                exact a_lreturn dX11_times_86 rfl rfl rfl (zdet_L (by first | (exfalso; omega) | (rw [if_pos (Or.inr hm)]; done) | (rw [if_pos (Or.inl (by omega))]; done) | (rw [if_neg (fun z => by rcases z with z | z; (omega); exact hm z)]; done)) (by first | (exfalso; omega) | (rw [if_pos (Or.inr hm)]; done) | (rw [if_pos (Or.inl (by omega))]; done) | (rw [if_neg (fun z => by rcases z with z | z; (omega); exact hm z)]; done)))
              · refine a_lconst (w := 0) dX11_times_79 (by decide) ?_
                refine a_goto (tgt := 86) dX11_times_80 (by decide) ?_
                exact a_lreturn dX11_times_86 rfl rfl rfl (zdet_L (by first | (exfalso; omega) | (rw [if_pos (Or.inr hm)]; done) | (rw [if_pos (Or.inl (by omega))]; done) | (rw [if_neg (fun z => by rcases z with z | z; (omega); exact hm z)]; done)) (by first | (exfalso; omega) | (rw [if_pos (Or.inr hm)]; done) | (rw [if_pos (Or.inl (by omega))]; done) | (rw [if_neg (fun z => by rcases z with z | z; (omega); exact hm z)]; done)))
            · refine a_iload dX11_times_59 rfl ?_
              refine a_if_eq (tgt := 68) dX11_times_61 (by decide) ⟨by omega, by omega⟩ (fun hb61 => ?_) (fun hb61 => ?_)
              · refine a_iconst dX11_times_68 ?_
                refine a_putZ (j' := 47) dX11_times_69 flX11_296 rfl rfl (L209 L) (by decide) rfl (by omega) ?_
                refine a_aloadn dX11_times_72 rfl ?_
                refine b_getZ (j' := 47) dX11_times_73 flX11_296 rfl rfl (L209 L) (fun hr73 => ?_)
                rw [sm_s] at hr73
                rw [sm_s]
                refine a_if_eq (tgt := 83) dX11_times_76 (by decide) ⟨by omega, by omega⟩ (fun hb76 => ?_) (fun hb76 => ?_)
                · refine a_lloadn dX11_times_83 rfl ?_
                  refine a_lloadn dX11_times_84 rfl ?_
                  refine a_lmul dX11_times_85 ?_
                  exact a_lreturn dX11_times_86 rfl rfl rfl (zdet_L (by first | (exfalso; omega) | (rw [if_pos (Or.inr hm)]; done) | (rw [if_pos (Or.inl (by omega))]; done) | (rw [if_neg (fun z => by rcases z with z | z; (omega); exact hm z)]; done)) (by first | (exfalso; omega) | (rw [if_pos (Or.inr hm)]; done) | (rw [if_pos (Or.inl (by omega))]; done) | (rw [if_neg (fun z => by rcases z with z | z; (omega); exact hm z)]; done)))
                · refine a_lconst (w := 0) dX11_times_79 (by decide) ?_
                  refine a_goto (tgt := 86) dX11_times_80 (by decide) ?_
                  exact a_lreturn dX11_times_86 rfl rfl rfl (zdet_L (by first | (exfalso; omega) | (rw [if_pos (Or.inr hm)]; done) | (rw [if_pos (Or.inl (by omega))]; done) | (rw [if_neg (fun z => by rcases z with z | z; (omega); exact hm z)]; done)) (by first | (exfalso; omega) | (rw [if_pos (Or.inr hm)]; done) | (rw [if_pos (Or.inl (by omega))]; done) | (rw [if_neg (fun z => by rcases z with z | z; (omega); exact hm z)]; done)))
              · refine a_iconst dX11_times_64 ?_
                refine a_goto (tgt := 69) dX11_times_65 (by decide) ?_
                refine a_putZ (j' := 47) dX11_times_69 flX11_296 rfl rfl (L209 L) (by decide) rfl (by omega) ?_
                refine a_aloadn dX11_times_72 rfl ?_
                refine b_getZ (j' := 47) dX11_times_73 flX11_296 rfl rfl (L209 L) (fun hr73 => ?_)
                rw [sm_s] at hr73
                rw [sm_s]
                refine a_if_eq (tgt := 83) dX11_times_76 (by decide) ⟨by omega, by omega⟩ (fun hb76 => ?_) (fun hb76 => ?_)
                · refine a_lloadn dX11_times_83 rfl ?_
                  refine a_lloadn dX11_times_84 rfl ?_
                  refine a_lmul dX11_times_85 ?_
                  exact a_lreturn dX11_times_86 rfl rfl rfl (zdet_L (by first | (exfalso; omega) | (rw [if_pos (Or.inr hm)]; done) | (rw [if_pos (Or.inl (by omega))]; done) | (rw [if_neg (fun z => by rcases z with z | z; (omega); exact hm z)]; done)) (by first | (exfalso; omega) | (rw [if_pos (Or.inr hm)]; done) | (rw [if_pos (Or.inl (by omega))]; done) | (rw [if_neg (fun z => by rcases z with z | z; (omega); exact hm z)]; done)))
                · refine a_lconst (w := 0) dX11_times_79 (by decide) ?_
                  refine a_goto (tgt := 86) dX11_times_80 (by decide) ?_
                  exact a_lreturn dX11_times_86 rfl rfl rfl (zdet_L (by first | (exfalso; omega) | (rw [if_pos (Or.inr hm)]; done) | (rw [if_pos (Or.inl (by omega))]; done) | (rw [if_neg (fun z => by rcases z with z | z; (omega); exact hm z)]; done)) (by first | (exfalso; omega) | (rw [if_pos (Or.inr hm)]; done) | (rw [if_pos (Or.inl (by omega))]; done) | (rw [if_neg (fun z => by rcases z with z | z; (omega); exact hm z)]; done)))
