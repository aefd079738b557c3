set_option maxRecDepth 100000 in
set_option maxHeartbeats 4000000 in
theorem m_X6_joined {G : zG} {l : Launch} {L : Nat} {P : zP} {M : zM} {s a b : Int} (hs : 0 ≤ s ∧ s ≤ 12) (ha : lim a) (hb : lim b) : AM G l yX6_joined mdX6_joined [aI s, aL a, aL b] (LAY L) P M (zdet (some (aL (jn s a b))) (LAY L) P M) := by
  refine AM.go [some (aI s), some (aL a), none, some (aL b), none] rfl (Nat.le_of_ble_eq_true rfl) ?_ (by decide) rfl rfl
  refine a_iloadn dX6_joined_0 rfl ?_
  rcases (show s = 0 ∨ s = 1 ∨ s = 2 ∨ s = 3 ∨ s = 4 ∨ s = 5 ∨ s = 6 ∨ s = 7 ∨ s = 8 ∨ s = 9 ∨ s = 10 ∨ s = 11 ∨ s = 12 by omega) with rfl | rfl | rfl | rfl | rfl | rfl | rfl | rfl | rfl | rfl | rfl | rfl | rfl
  · refine a_tabIn (tgt := 64) (off := 63) dX6_joined_1 ⟨by decide, by decide⟩ (by decide) (by decide) rfl (by decide) ?_
    refine a_lloadn dX6_joined_64 rfl ?_
    refine a_lconst (w := 0) dX6_joined_65 (by decide) ?_
    refine c_lcmp dX6_joined_66 ⟨by omega, by omega⟩ ⟨by omega, by omega⟩ (fun r66 hq66 => ?_)
    refine a_if_ne (tgt := 76) dX6_joined_67 (by decide) ⟨by omega, by omega⟩ (fun hb67 => ?_) (fun hb67 => ?_)
    · refine a_lconst (w := 1) dX6_joined_76 (by decide) ?_
      refine a_goto (tgt := 81) dX6_joined_77 (by decide) ?_
      exact a_lreturn dX6_joined_81 rfl rfl rfl (zdet_L (show _ = (if a ≠ 0 ∨ b ≠ 0 then (1 : Int) else 0) from by first | (rw [if_pos (by omega)]; done) | (rw [if_neg (by omega)]; done)) rfl)
    · refine a_lloadn dX6_joined_70 rfl ?_
      refine a_lconst (w := 0) dX6_joined_71 (by decide) ?_
      refine c_lcmp dX6_joined_72 ⟨by omega, by omega⟩ ⟨by omega, by omega⟩ (fun r72 hq72 => ?_)
      refine a_if_eq (tgt := 80) dX6_joined_73 (by decide) ⟨by omega, by omega⟩ (fun hb73 => ?_) (fun hb73 => ?_)
      · refine a_lconst (w := 0) dX6_joined_80 (by decide) ?_
        exact a_lreturn dX6_joined_81 rfl rfl rfl (zdet_L (show _ = (if a ≠ 0 ∨ b ≠ 0 then (1 : Int) else 0) from by first | (rw [if_pos (by omega)]; done) | (rw [if_neg (by omega)]; done)) rfl)
      · refine a_lconst (w := 1) dX6_joined_76 (by decide) ?_
        refine a_goto (tgt := 81) dX6_joined_77 (by decide) ?_
        exact a_lreturn dX6_joined_81 rfl rfl rfl (zdet_L (show _ = (if a ≠ 0 ∨ b ≠ 0 then (1 : Int) else 0) from by first | (rw [if_pos (by omega)]; done) | (rw [if_neg (by omega)]; done)) rfl)
  · refine a_tabIn (tgt := 82) (off := 81) dX6_joined_1 ⟨by decide, by decide⟩ (by decide) (by decide) rfl (by decide) ?_
    refine a_lloadn dX6_joined_82 rfl ?_
    refine a_lconst (w := 0) dX6_joined_83 (by decide) ?_
    refine c_lcmp dX6_joined_84 ⟨by omega, by omega⟩ ⟨by omega, by omega⟩ (fun r84 hq84 => ?_)
    refine a_if_eq (tgt := 98) dX6_joined_85 (by decide) ⟨by omega, by omega⟩ (fun hb85 => ?_) (fun hb85 => ?_)
    · refine a_lconst (w := 0) dX6_joined_98 (by decide) ?_
      exact a_lreturn dX6_joined_99 rfl rfl rfl (zdet_L (show _ = (if a ≠ 0 ∧ b ≠ 0 then (1 : Int) else 0) from by first | (rw [if_pos (by omega)]; done) | (rw [if_neg (by omega)]; done)) rfl)
    · refine a_lloadn dX6_joined_88 rfl ?_
      refine a_lconst (w := 0) dX6_joined_89 (by decide) ?_
      refine c_lcmp dX6_joined_90 ⟨by omega, by omega⟩ ⟨by omega, by omega⟩ (fun r90 hq90 => ?_)
      refine a_if_eq (tgt := 98) dX6_joined_91 (by decide) ⟨by omega, by omega⟩ (fun hb91 => ?_) (fun hb91 => ?_)
      · refine a_lconst (w := 0) dX6_joined_98 (by decide) ?_
        exact a_lreturn dX6_joined_99 rfl rfl rfl (zdet_L (show _ = (if a ≠ 0 ∧ b ≠ 0 then (1 : Int) else 0) from by first | (rw [if_pos (by omega)]; done) | (rw [if_neg (by omega)]; done)) rfl)
      · refine a_lconst (w := 1) dX6_joined_94 (by decide) ?_
        refine a_goto (tgt := 99) dX6_joined_95 (by decide) ?_
        exact a_lreturn dX6_joined_99 rfl rfl rfl (zdet_L (show _ = (if a ≠ 0 ∧ b ≠ 0 then (1 : Int) else 0) from by first | (rw [if_pos (by omega)]; done) | (rw [if_neg (by omega)]; done)) rfl)
  · refine a_tabIn (tgt := 226) (off := 225) dX6_joined_1 ⟨by decide, by decide⟩ (by decide) (by decide) rfl (by decide) ?_
    refine a_lloadn dX6_joined_226 rfl ?_
    refine a_lconst (w := 0) dX6_joined_227 (by decide) ?_
    refine c_lcmp dX6_joined_228 ⟨by omega, by omega⟩ ⟨by omega, by omega⟩ (fun r228 hq228 => ?_)
    refine a_if_ne (tgt := 238) dX6_joined_229 (by decide) ⟨by omega, by omega⟩ (fun hb229 => ?_) (fun hb229 => ?_)
    · refine a_lloadn dX6_joined_238 rfl ?_
      refine a_lloadn dX6_joined_239 rfl ?_
      refine a_ldiv dX6_joined_240 ⟨by omega, by omega⟩ ⟨by omega, by omega⟩ (by omega) (by omega) ?_
      exact a_lreturn dX6_joined_241 rfl rfl rfl (zdet_L (show _ = (if b = 0 then 1000000000001 else a.tdiv b) from by first | (rw [if_pos (by omega)]; done) | (rw [if_neg (by omega)]; done)) rfl)
    · refine a_ldc2 (w := 1000000000001) dX6_joined_232 knX6_40 (by decide) ?_
      refine a_goto (tgt := 241) dX6_joined_235 (by decide) ?_
      exact a_lreturn dX6_joined_241 rfl rfl rfl (zdet_L (show _ = (if b = 0 then 1000000000001 else a.tdiv b) from by first | (rw [if_pos (by omega)]; done) | (rw [if_neg (by omega)]; done)) rfl)
  · refine a_tabIn (tgt := 100) (off := 99) dX6_joined_1 ⟨by decide, by decide⟩ (by decide) (by decide) rfl (by decide) ?_
    refine a_lloadn dX6_joined_100 rfl ?_
    refine a_lloadn dX6_joined_101 rfl ?_
    refine c_lcmp dX6_joined_102 ⟨by omega, by omega⟩ ⟨by omega, by omega⟩ (fun r102 hq102 => ?_)
    refine a_if_ge (tgt := 110) dX6_joined_103 (by decide) ⟨by omega, by omega⟩ (fun hb103 => ?_) (fun hb103 => ?_)
    · refine a_lconst (w := 0) dX6_joined_110 (by decide) ?_
      exact a_lreturn dX6_joined_111 rfl rfl rfl (zdet_L (show _ = (if a < b then (1 : Int) else 0) from by first | (rw [if_pos (by omega)]; done) | (rw [if_neg (by omega)]; done)) rfl)
    · refine a_lconst (w := 1) dX6_joined_106 (by decide) ?_
      refine a_goto (tgt := 111) dX6_joined_107 (by decide) ?_
      exact a_lreturn dX6_joined_111 rfl rfl rfl (zdet_L (show _ = (if a < b then (1 : Int) else 0) from by first | (rw [if_pos (by omega)]; done) | (rw [if_neg (by omega)]; done)) rfl)
  · refine a_tabIn (tgt := 112) (off := 111) dX6_joined_1 ⟨by decide, by decide⟩ (by decide) (by decide) rfl (by decide) ?_
    refine a_lloadn dX6_joined_112 rfl ?_
    refine a_lloadn dX6_joined_113 rfl ?_
    refine c_lcmp dX6_joined_114 ⟨by omega, by omega⟩ ⟨by omega, by omega⟩ (fun r114 hq114 => ?_)
    refine a_if_gt (tgt := 122) dX6_joined_115 (by decide) ⟨by omega, by omega⟩ (fun hb115 => ?_) (fun hb115 => ?_)
    · refine a_lconst (w := 0) dX6_joined_122 (by decide) ?_
      exact a_lreturn dX6_joined_123 rfl rfl rfl (zdet_L (show _ = (if a ≤ b then (1 : Int) else 0) from by first | (rw [if_pos (by omega)]; done) | (rw [if_neg (by omega)]; done)) rfl)
    · refine a_lconst (w := 1) dX6_joined_118 (by decide) ?_
      refine a_goto (tgt := 123) dX6_joined_119 (by decide) ?_
      exact a_lreturn dX6_joined_123 rfl rfl rfl (zdet_L (show _ = (if a ≤ b then (1 : Int) else 0) from by first | (rw [if_pos (by omega)]; done) | (rw [if_neg (by omega)]; done)) rfl)
  · refine a_tabIn (tgt := 124) (off := 123) dX6_joined_1 ⟨by decide, by decide⟩ (by decide) (by decide) rfl (by decide) ?_
    refine a_lloadn dX6_joined_124 rfl ?_
    refine a_lloadn dX6_joined_125 rfl ?_
    refine c_lcmp dX6_joined_126 ⟨by omega, by omega⟩ ⟨by omega, by omega⟩ (fun r126 hq126 => ?_)
    refine a_if_ne (tgt := 134) dX6_joined_127 (by decide) ⟨by omega, by omega⟩ (fun hb127 => ?_) (fun hb127 => ?_)
    · refine a_lconst (w := 0) dX6_joined_134 (by decide) ?_
      exact a_lreturn dX6_joined_135 rfl rfl rfl (zdet_L (show _ = (if a = b then (1 : Int) else 0) from by first | (rw [if_pos (by omega)]; done) | (rw [if_neg (by omega)]; done)) rfl)
    · refine a_lconst (w := 1) dX6_joined_130 (by decide) ?_
      refine a_goto (tgt := 135) dX6_joined_131 (by decide) ?_
      exact a_lreturn dX6_joined_135 rfl rfl rfl (zdet_L (show _ = (if a = b then (1 : Int) else 0) from by first | (rw [if_pos (by omega)]; done) | (rw [if_neg (by omega)]; done)) rfl)
  · refine a_tabIn (tgt := 136) (off := 135) dX6_joined_1 ⟨by decide, by decide⟩ (by decide) (by decide) rfl (by decide) ?_
    refine a_lloadn dX6_joined_136 rfl ?_
    refine a_lloadn dX6_joined_137 rfl ?_
    refine c_lcmp dX6_joined_138 ⟨by omega, by omega⟩ ⟨by omega, by omega⟩ (fun r138 hq138 => ?_)
    refine a_if_eq (tgt := 146) dX6_joined_139 (by decide) ⟨by omega, by omega⟩ (fun hb139 => ?_) (fun hb139 => ?_)
    · refine a_lconst (w := 0) dX6_joined_146 (by decide) ?_
      exact a_lreturn dX6_joined_147 rfl rfl rfl (zdet_L (show _ = (if a ≠ b then (1 : Int) else 0) from by first | (rw [if_pos (by omega)]; done) | (rw [if_neg (by omega)]; done)) rfl)
    · refine a_lconst (w := 1) dX6_joined_142 (by decide) ?_
      refine a_goto (tgt := 147) dX6_joined_143 (by decide) ?_
      exact a_lreturn dX6_joined_147 rfl rfl rfl (zdet_L (show _ = (if a ≠ b then (1 : Int) else 0) from by first | (rw [if_pos (by omega)]; done) | (rw [if_neg (by omega)]; done)) rfl)
  · refine a_tabIn (tgt := 148) (off := 147) dX6_joined_1 ⟨by decide, by decide⟩ (by decide) (by decide) rfl (by decide) ?_
    refine a_lloadn dX6_joined_148 rfl ?_
    refine a_lloadn dX6_joined_149 rfl ?_
    refine c_lcmp dX6_joined_150 ⟨by omega, by omega⟩ ⟨by omega, by omega⟩ (fun r150 hq150 => ?_)
    refine a_if_lt (tgt := 158) dX6_joined_151 (by decide) ⟨by omega, by omega⟩ (fun hb151 => ?_) (fun hb151 => ?_)
    · refine a_lconst (w := 0) dX6_joined_158 (by decide) ?_
      exact a_lreturn dX6_joined_159 rfl rfl rfl (zdet_L (show _ = (if b ≤ a then (1 : Int) else 0) from by first | (rw [if_pos (by omega)]; done) | (rw [if_neg (by omega)]; done)) rfl)
    · refine a_lconst (w := 1) dX6_joined_154 (by decide) ?_
      refine a_goto (tgt := 159) dX6_joined_155 (by decide) ?_
      exact a_lreturn dX6_joined_159 rfl rfl rfl (zdet_L (show _ = (if b ≤ a then (1 : Int) else 0) from by first | (rw [if_pos (by omega)]; done) | (rw [if_neg (by omega)]; done)) rfl)
  · refine a_tabIn (tgt := 160) (off := 159) dX6_joined_1 ⟨by decide, by decide⟩ (by decide) (by decide) rfl (by decide) ?_
    refine a_lloadn dX6_joined_160 rfl ?_
    refine a_lloadn dX6_joined_161 rfl ?_
    refine c_lcmp dX6_joined_162 ⟨by omega, by omega⟩ ⟨by omega, by omega⟩ (fun r162 hq162 => ?_)
    refine a_if_le (tgt := 170) dX6_joined_163 (by decide) ⟨by omega, by omega⟩ (fun hb163 => ?_) (fun hb163 => ?_)
    · refine a_lconst (w := 0) dX6_joined_170 (by decide) ?_
      exact a_lreturn dX6_joined_171 rfl rfl rfl (zdet_L (show _ = (if b < a then (1 : Int) else 0) from by first | (rw [if_pos (by omega)]; done) | (rw [if_neg (by omega)]; done)) rfl)
    · refine a_lconst (w := 1) dX6_joined_166 (by decide) ?_
      refine a_goto (tgt := 171) dX6_joined_167 (by decide) ?_
      exact a_lreturn dX6_joined_171 rfl rfl rfl (zdet_L (show _ = (if b < a then (1 : Int) else 0) from by first | (rw [if_pos (by omega)]; done) | (rw [if_neg (by omega)]; done)) rfl)
  · refine a_tabIn (tgt := 172) (off := 171) dX6_joined_1 ⟨by decide, by decide⟩ (by decide) (by decide) rfl (by decide) ?_
    refine a_lloadn dX6_joined_172 rfl ?_
    refine a_lloadn dX6_joined_173 rfl ?_
    refine a_ladd dX6_joined_174 ?_
    exact a_lreturn dX6_joined_175 rfl rfl rfl (zdet_L rfl rfl)
  · refine a_tabIn (tgt := 176) (off := 175) dX6_joined_1 ⟨by decide, by decide⟩ (by decide) (by decide) rfl (by decide) ?_
    refine a_lloadn dX6_joined_176 rfl ?_
    refine a_lloadn dX6_joined_177 rfl ?_
    refine a_lsub dX6_joined_178 ?_
    exact a_lreturn dX6_joined_179 rfl rfl rfl (zdet_L rfl rfl)
  · refine a_tabIn (tgt := 180) (off := 179) dX6_joined_1 ⟨by decide, by decide⟩ (by decide) (by decide) rfl (by decide) ?_
    refine a_lloadn dX6_joined_180 rfl ?_
    refine a_lconst (w := 0) dX6_joined_181 (by decide) ?_
    refine c_lcmp dX6_joined_182 ⟨by omega, by omega⟩ ⟨by omega, by omega⟩ (fun r182 hq182 => ?_)
    refine a_if_eq (tgt := 222) dX6_joined_183 (by decide) ⟨by omega, by omega⟩ (fun hb183 => ?_) (fun hb183 => ?_)
    · refine a_lloadn dX6_joined_222 rfl ?_
      refine a_lloadn dX6_joined_223 rfl ?_
      refine a_lmul dX6_joined_224 ?_
      exact a_lreturn dX6_joined_225 rfl rfl rfl (zdet_L (show _ = (if a ≠ 0 ∧ (1000000000000 : Int).tdiv (labs a) < labs b then 1000000000001 else a * b) from by first | (rw [if_neg (fun z => z.1 (by omega))]; done) | (rw [if_neg (fun z => absurd z.2 (by (first | (rw [show labs a = -a from by unfold labs; rw [if_pos (by omega)]]) | (rw [show labs a = a from by unfold labs; rw [if_neg (by omega)]])); (first | (rw [show labs b = -b from by unfold labs; rw [if_pos (by omega)]]) | (rw [show labs b = b from by unfold labs; rw [if_neg (by omega)]])); omega))]; done)) rfl)
    · refine a_lloadn dX6_joined_186 rfl ?_
      refine a_lconst (w := 0) dX6_joined_187 (by decide) ?_
      refine c_lcmp dX6_joined_188 ⟨by omega, by omega⟩ ⟨by omega, by omega⟩ (fun r188 hq188 => ?_)
      refine a_if_ge (tgt := 197) dX6_joined_189 (by decide) ⟨by omega, by omega⟩ (fun hb189 => ?_) (fun hb189 => ?_)
      · refine a_lloadn dX6_joined_197 rfl ?_
        refine a_ldc2 (w := 1000000000000) dX6_joined_198 knX6_32 (by decide) ?_
        refine a_lloadn dX6_joined_201 rfl ?_
        refine a_lconst (w := 0) dX6_joined_202 (by decide) ?_
        refine c_lcmp dX6_joined_203 ⟨by omega, by omega⟩ ⟨by omega, by omega⟩ (fun r203 hq203 => ?_)
        refine a_if_ge (tgt := 212) dX6_joined_204 (by decide) ⟨by omega, by omega⟩ (fun hb204 => ?_) (fun hb204 => ?_)
        · refine a_lloadn dX6_joined_212 rfl ?_
          refine a_ldiv dX6_joined_213 ⟨by omega, by omega⟩ ⟨by omega, by omega⟩ (by omega) (by omega) ?_
          refine c_lcmp dX6_joined_214 ⟨by omega, by omega⟩ ⟨by have := tdiv_lim (a := 1000000000000) (b := a) ⟨by decide, by decide⟩; have := tdiv_lim (a := 1000000000000) (b := -a) ⟨by decide, by decide⟩; omega, by have := tdiv_lim (a := 1000000000000) (b := a) ⟨by decide, by decide⟩; have := tdiv_lim (a := 1000000000000) (b := -a) ⟨by decide, by decide⟩; omega⟩ (fun r214 hq214 => ?_)
          refine a_if_le (tgt := 222) dX6_joined_215 (by decide) ⟨by omega, by omega⟩ (fun hb215 => ?_) (fun hb215 => ?_)
          · refine a_lloadn dX6_joined_222 rfl ?_
            refine a_lloadn dX6_joined_223 rfl ?_
            refine a_lmul dX6_joined_224 ?_
            exact a_lreturn dX6_joined_225 rfl rfl rfl (zdet_L (show _ = (if a ≠ 0 ∧ (1000000000000 : Int).tdiv (labs a) < labs b then 1000000000001 else a * b) from by first | (rw [if_neg (fun z => z.1 (by omega))]; done) | (rw [if_neg (fun z => absurd z.2 (by (first | (rw [show labs a = -a from by unfold labs; rw [if_pos (by omega)]]) | (rw [show labs a = a from by unfold labs; rw [if_neg (by omega)]])); (first | (rw [show labs b = -b from by unfold labs; rw [if_pos (by omega)]]) | (rw [show labs b = b from by unfold labs; rw [if_neg (by omega)]])); omega))]; done)) rfl)
          · refine a_ldc2 (w := 1000000000001) dX6_joined_218 knX6_40 (by decide) ?_
            exact a_lreturn dX6_joined_221 rfl rfl rfl (zdet_L (show _ = (if a ≠ 0 ∧ (1000000000000 : Int).tdiv (labs a) < labs b then 1000000000001 else a * b) from by rw [if_pos ⟨by omega, by (first | (rw [show labs a = -a from by unfold labs; rw [if_pos (by omega)]]) | (rw [show labs a = a from by unfold labs; rw [if_neg (by omega)]])); (first | (rw [show labs b = -b from by unfold labs; rw [if_pos (by omega)]]) | (rw [show labs b = b from by unfold labs; rw [if_neg (by omega)]])); omega⟩]) rfl)
        · refine a_lloadn dX6_joined_207 rfl ?_
          refine a_lneg dX6_joined_208 ?_
          refine a_goto (tgt := 213) dX6_joined_209 (by decide) ?_
          refine a_ldiv dX6_joined_213 ⟨by omega, by omega⟩ ⟨by omega, by omega⟩ (by omega) (by omega) ?_
          refine c_lcmp dX6_joined_214 ⟨by omega, by omega⟩ ⟨by have := tdiv_lim (a := 1000000000000) (b := a) ⟨by decide, by decide⟩; have := tdiv_lim (a := 1000000000000) (b := -a) ⟨by decide, by decide⟩; omega, by have := tdiv_lim (a := 1000000000000) (b := a) ⟨by decide, by decide⟩; have := tdiv_lim (a := 1000000000000) (b := -a) ⟨by decide, by decide⟩; omega⟩ (fun r214 hq214 => ?_)
          refine a_if_le (tgt := 222) dX6_joined_215 (by decide) ⟨by omega, by omega⟩ (fun hb215 => ?_) (fun hb215 => ?_)
          · refine a_lloadn dX6_joined_222 rfl ?_
            refine a_lloadn dX6_joined_223 rfl ?_
            refine a_lmul dX6_joined_224 ?_
            exact a_lreturn dX6_joined_225 rfl rfl rfl (zdet_L (show _ = (if a ≠ 0 ∧ (1000000000000 : Int).tdiv (labs a) < labs b then 1000000000001 else a * b) from by first | (rw [if_neg (fun z => z.1 (by omega))]; done) | (rw [if_neg (fun z => absurd z.2 (by (first | (rw [show labs a = -a from by unfold labs; rw [if_pos (by omega)]]) | (rw [show labs a = a from by unfold labs; rw [if_neg (by omega)]])); (first | (rw [show labs b = -b from by unfold labs; rw [if_pos (by omega)]]) | (rw [show labs b = b from by unfold labs; rw [if_neg (by omega)]])); omega))]; done)) rfl)
          · refine a_ldc2 (w := 1000000000001) dX6_joined_218 knX6_40 (by decide) ?_
            exact a_lreturn dX6_joined_221 rfl rfl rfl (zdet_L (show _ = (if a ≠ 0 ∧ (1000000000000 : Int).tdiv (labs a) < labs b then 1000000000001 else a * b) from by rw [if_pos ⟨by omega, by (first | (rw [show labs a = -a from by unfold labs; rw [if_pos (by omega)]]) | (rw [show labs a = a from by unfold labs; rw [if_neg (by omega)]])); (first | (rw [show labs b = -b from by unfold labs; rw [if_pos (by omega)]]) | (rw [show labs b = b from by unfold labs; rw [if_neg (by omega)]])); omega⟩]) rfl)
      · refine a_lloadn dX6_joined_192 rfl ?_
        refine a_lneg dX6_joined_193 ?_
        refine a_goto (tgt := 198) dX6_joined_194 (by decide) ?_
        refine a_ldc2 (w := 1000000000000) dX6_joined_198 knX6_32 (by decide) ?_
        refine a_lloadn dX6_joined_201 rfl ?_
        refine a_lconst (w := 0) dX6_joined_202 (by decide) ?_
        refine c_lcmp dX6_joined_203 ⟨by omega, by omega⟩ ⟨by omega, by omega⟩ (fun r203 hq203 => ?_)
        refine a_if_ge (tgt := 212) dX6_joined_204 (by decide) ⟨by omega, by omega⟩ (fun hb204 => ?_) (fun hb204 => ?_)
        · refine a_lloadn dX6_joined_212 rfl ?_
          refine a_ldiv dX6_joined_213 ⟨by omega, by omega⟩ ⟨by omega, by omega⟩ (by omega) (by omega) ?_
          refine c_lcmp dX6_joined_214 ⟨by omega, by omega⟩ ⟨by have := tdiv_lim (a := 1000000000000) (b := a) ⟨by decide, by decide⟩; have := tdiv_lim (a := 1000000000000) (b := -a) ⟨by decide, by decide⟩; omega, by have := tdiv_lim (a := 1000000000000) (b := a) ⟨by decide, by decide⟩; have := tdiv_lim (a := 1000000000000) (b := -a) ⟨by decide, by decide⟩; omega⟩ (fun r214 hq214 => ?_)
          refine a_if_le (tgt := 222) dX6_joined_215 (by decide) ⟨by omega, by omega⟩ (fun hb215 => ?_) (fun hb215 => ?_)
          · refine a_lloadn dX6_joined_222 rfl ?_
            refine a_lloadn dX6_joined_223 rfl ?_
            refine a_lmul dX6_joined_224 ?_
            exact a_lreturn dX6_joined_225 rfl rfl rfl (zdet_L (show _ = (if a ≠ 0 ∧ (1000000000000 : Int).tdiv (labs a) < labs b then 1000000000001 else a * b) from by first | (rw [if_neg (fun z => z.1 (by omega))]; done) | (rw [if_neg (fun z => absurd z.2 (by (first | (rw [show labs a = -a from by unfold labs; rw [if_pos (by omega)]]) | (rw [show labs a = a from by unfold labs; rw [if_neg (by omega)]])); (first | (rw [show labs b = -b from by unfold labs; rw [if_pos (by omega)]]) | (rw [show labs b = b from by unfold labs; rw [if_neg (by omega)]])); omega))]; done)) rfl)
          · refine a_ldc2 (w := 1000000000001) dX6_joined_218 knX6_40 (by decide) ?_
            exact a_lreturn dX6_joined_221 rfl rfl rfl (zdet_L (show _ = (if a ≠ 0 ∧ (1000000000000 : Int).tdiv (labs a) < labs b then 1000000000001 else a * b) from by rw [if_pos ⟨by omega, by (first | (rw [show labs a = -a from by unfold labs; rw [if_pos (by omega)]]) | (rw [show labs a = a from by unfold labs; rw [if_neg (by omega)]])); (first | (rw [show labs b = -b from by unfold labs; rw [if_pos (by omega)]]) | (rw [show labs b = b from by unfold labs; rw [if_neg (by omega)]])); omega⟩]) rfl)
        · refine a_lloadn dX6_joined_207 rfl ?_
          refine a_lneg dX6_joined_208 ?_
          refine a_goto (tgt := 213) dX6_joined_209 (by decide) ?_
          refine a_ldiv dX6_joined_213 ⟨by omega, by omega⟩ ⟨by omega, by omega⟩ (by omega) (by omega) ?_
          refine c_lcmp dX6_joined_214 ⟨by omega, by omega⟩ ⟨by have := tdiv_lim (a := 1000000000000) (b := a) ⟨by decide, by decide⟩; have := tdiv_lim (a := 1000000000000) (b := -a) ⟨by decide, by decide⟩; omega, by have := tdiv_lim (a := 1000000000000) (b := a) ⟨by decide, by decide⟩; have := tdiv_lim (a := 1000000000000) (b := -a) ⟨by decide, by decide⟩; omega⟩ (fun r214 hq214 => ?_)
          refine a_if_le (tgt := 222) dX6_joined_215 (by decide) ⟨by omega, by omega⟩ (fun hb215 => ?_) (fun hb215 => ?_)
          · refine a_lloadn dX6_joined_222 rfl ?_
            refine a_lloadn dX6_joined_223 rfl ?_
            refine a_lmul dX6_joined_224 ?_
            exact a_lreturn dX6_joined_225 rfl rfl rfl (zdet_L (show _ = (if a ≠ 0 ∧ (1000000000000 : Int).tdiv (labs a) < labs b then 1000000000001 else a * b) from by first | (rw [if_neg (fun z => z.1 (by omega))]; done) | (rw [if_neg (fun z => absurd z.2 (by (first | (rw [show labs a = -a from by unfold labs; rw [if_pos (by omega)]]) | (rw [show labs a = a from by unfold labs; rw [if_neg (by omega)]])); (first | (rw [show labs b = -b from by unfold labs; rw [if_pos (by omega)]]) | (rw [show labs b = b from by unfold labs; rw [if_neg (by omega)]])); omega))]; done)) rfl)
          · refine a_ldc2 (w := 1000000000001) dX6_joined_218 knX6_40 (by decide) ?_
            exact a_lreturn dX6_joined_221 rfl rfl rfl (zdet_L (show _ = (if a ≠ 0 ∧ (1000000000000 : Int).tdiv (labs a) < labs b then 1000000000001 else a * b) from by rw [if_pos ⟨by omega, by (first | (rw [show labs a = -a from by unfold labs; rw [if_pos (by omega)]]) | (rw [show labs a = a from by unfold labs; rw [if_neg (by omega)]])); (first | (rw [show labs b = -b from by unfold labs; rw [if_pos (by omega)]]) | (rw [show labs b = b from by unfold labs; rw [if_neg (by omega)]])); omega⟩]) rfl)
  · refine a_tabOut (tgt := 226) dX6_joined_1 ⟨by decide, by decide⟩ (by decide) (by decide) ?_
    refine a_lloadn dX6_joined_226 rfl ?_
    refine a_lconst (w := 0) dX6_joined_227 (by decide) ?_
    refine c_lcmp dX6_joined_228 ⟨by omega, by omega⟩ ⟨by omega, by omega⟩ (fun r228 hq228 => ?_)
    refine a_if_ne (tgt := 238) dX6_joined_229 (by decide) ⟨by omega, by omega⟩ (fun hb229 => ?_) (fun hb229 => ?_)
    · refine a_lloadn dX6_joined_238 rfl ?_
      refine a_lloadn dX6_joined_239 rfl ?_
      refine a_ldiv dX6_joined_240 ⟨by omega, by omega⟩ ⟨by omega, by omega⟩ (by omega) (by omega) ?_
      exact a_lreturn dX6_joined_241 rfl rfl rfl (zdet_L (show _ = (if b = 0 then 1000000000001 else a.tdiv b) from by first | (rw [if_pos (by omega)]; done) | (rw [if_neg (by omega)]; done)) rfl)
    · refine a_ldc2 (w := 1000000000001) dX6_joined_232 knX6_40 (by decide) ?_
      refine a_goto (tgt := 241) dX6_joined_235 (by decide) ?_
      exact a_lreturn dX6_joined_241 rfl rfl rfl (zdet_L (show _ = (if b = 0 then 1000000000001 else a.tdiv b) from by first | (rw [if_pos (by omega)]; done) | (rw [if_neg (by omega)]; done)) rfl)

set_option maxRecDepth 100000 in
set_option maxHeartbeats 4000000 in
theorem m_X0_cutTo {G : zG} {l : Launch} {L : Nat} {P : zP} {M : zM} {x lo hi : Int} (hx : inL x) (hlo : inR lo) (hhi : inR hi) : AM G l yX0_cutTo mdX0_cutTo [aL x, aI lo, aI hi] (LAY L) P M (zdet (some (aI (if x < lo then lo else if hi < x then hi else x))) (LAY L) P M) := by
  refine AM.go [some (aL x), none, some (aI lo), some (aI hi)] rfl (Nat.le_of_ble_eq_true rfl) ?_ (by decide) rfl rfl
  refine a_lloadn dX0_cutTo_0 rfl ?_
  refine a_iloadn dX0_cutTo_1 rfl ?_
  refine a_i2l dX0_cutTo_2 ⟨by omega, by omega⟩ ?_
  refine c_lcmp dX0_cutTo_3 ⟨by omega, by omega⟩ ⟨by omega, by omega⟩ (fun r3 hq3 => ?_)
  refine a_if_ge (tgt := 11) dX0_cutTo_4 (by decide) ⟨by omega, by omega⟩ (fun hb4 => ?_) (fun hb4 => ?_)
  · refine a_lloadn dX0_cutTo_11 rfl ?_
    refine a_iloadn dX0_cutTo_12 rfl ?_
    refine a_i2l dX0_cutTo_13 ⟨by omega, by omega⟩ ?_
    refine c_lcmp dX0_cutTo_14 ⟨by omega, by omega⟩ ⟨by omega, by omega⟩ (fun r14 hq14 => ?_)
    refine a_if_le (tgt := 22) dX0_cutTo_15 (by decide) ⟨by omega, by omega⟩ (fun hb15 => ?_) (fun hb15 => ?_)
    · refine a_lloadn dX0_cutTo_22 rfl ?_
      refine a_l2i dX0_cutTo_23 ?_
      exact a_ireturn dX0_cutTo_24 rfl rfl rfl (zdet_I (by first | (rw [if_pos (by omega)]; done) | (rw [if_neg (by omega), if_pos (by omega)]; done) | (rw [if_neg (by omega), if_neg (by omega)]; done)) rfl)
    · refine a_iloadn dX0_cutTo_18 rfl ?_
      refine a_goto (tgt := 24) dX0_cutTo_19 (by decide) ?_
      exact a_ireturn dX0_cutTo_24 rfl rfl rfl (zdet_I (by first | (rw [if_pos (by omega)]; done) | (rw [if_neg (by omega), if_pos (by omega)]; done) | (rw [if_neg (by omega), if_neg (by omega)]; done)) rfl)
  · refine a_iloadn dX0_cutTo_7 rfl ?_
    refine a_goto (tgt := 24) dX0_cutTo_8 (by decide) ?_
    exact a_ireturn dX0_cutTo_24 rfl rfl rfl (zdet_I (by first | (rw [if_pos (by omega)]; done) | (rw [if_neg (by omega), if_pos (by omega)]; done) | (rw [if_neg (by omega), if_neg (by omega)]; done)) rfl)
