/-- all but the reference's token -/
def Fk (M M' : zM) : Prop := ∀ (k : Nat) (i : Int), ¬ (k = 209 ∧ 7 ≤ i ∧ i ≤ 10) → M' k i = M k i
theorem Fk.rf (M : zM) : Fk M M := fun _ _ _ => rfl
theorem Fk.tr {M M1 M2 : zM} (h : Fk M M1) (h2 : Fk M1 M2) : Fk M M2 := fun k i a => (h2 k i a).trans (h k i a)
theorem Fk.sm {M M1 : zM} (h : Fk M M1) {i : Int} (hi : 7 ≤ i ∧ i ≤ 10) (v : Int) : Fk M (sm M1 209 i v) := fun k j a => by
  by_cases e : k = 209
  · subst e
    rw [sm_k, us_n (by omega)]; exact h 209 j a
  · rw [sm_n e]; exact h k j a
theorem Fk.row {M M' : zM} (h : Fk M M') {k : Nat} (hk : k ≠ 209) : M' k = M k := funext fun i => h k i (by omega)

set_option maxRecDepth 100000 in
set_option maxHeartbeats 4000000 in
theorem m_signT_a {G : zG} {l : Launch} {L : Nat} {P : zP} {M : zM} {q : Int} (hP : PFok P) (hq : q = M 209 7) (hn : 0 ≤ q ∧ q < M 209 6 ∧ M 209 6 ≤ 700) (hc : M 210 q = 60) (hd : q + 1 < M 209 6 ∧ M 210 (q + 1) = 61) : AM G l yX11_signToken mdX11_signToken [aR 209] (LAY L) P M (zrel none (LAY L) P (fun M' => M' 209 7 = q + 2 ∧ TKq 5 4 (M' 209 8) (M' 209 9) ∧ M' 209 10 = M 209 10 ∧ Fk M M')) := by
  refine AM.go [some (aR 209), none, none, none] rfl (Nat.le_of_ble_eq_true rfl) ?_ (by decide) rfl rfl
  refine a_aloadn dX11_signToken_0 rfl ?_
  refine a_aloadn dX11_signToken_1 rfl ?_
  refine a_getR (j' := 0) (y := 210) dX11_signToken_2 flX11_7 rfl rfl (L209 L) (p209_0 hP) ?_
  refine a_aloadn dX11_signToken_5 rfl ?_
  refine b_getI (j' := 7) dX11_signToken_6 flX11_139 rfl rfl (L209 L) (fun hr6 => ?_)
  try simp (disch := omega) only [sm_n, sm_k, us_s, us_n, ← hq] at hr6 ⊢
  refine b_iald (N := 700) dX11_signToken_9 (L210 L) (by decide) (by omega) (by omega) (fun hr9 => ?_)
  try simp (disch := omega) only [sm_n, sm_k, us_s, us_n, ← hq] at hr9 ⊢
  refine a_putI (j' := 9) dX11_signToken_10 flX11_153 rfl rfl (L209 L) (by decide) rfl hr9 ?_
  refine a_aloadn dX11_signToken_13 rfl ?_
  refine a_dupR dX11_signToken_14 ?_
  refine b_getI (j' := 7) dX11_signToken_15 flX11_139 rfl rfl (L209 L) (fun hr15 => ?_)
  try simp (disch := omega) only [sm_n, sm_k, us_s, us_n, ← hq] at hr15 ⊢
  refine a_iconst dX11_signToken_18 ?_
  refine a_iadd dX11_signToken_19 ?_
  refine a_putI (j' := 7) dX11_signToken_20 flX11_139 rfl rfl (L209 L) (by decide) rfl ⟨by omega, by omega⟩ ?_
  refine a_aloadn dX11_signToken_23 rfl ?_
  refine b_getI (j' := 9) dX11_signToken_24 flX11_153 rfl rfl (L209 L) (fun hr24 => ?_)
  try simp (disch := omega) only [sm_n, sm_k, us_s, us_n, ← hq] at hr24 ⊢
  refine a_bipush (w := 60) dX11_signToken_27 (by decide) ?_
  refine a_icmp_eq (tgt := 50) dX11_signToken_29 (by decide) ⟨by omega, by omega⟩ ⟨by omega, by omega⟩ (fun hb29 => ?_) (fun hb29 => ?_)
  · refine a_aloadn dX11_signToken_50 rfl ?_
    refine b_getI (j' := 7) dX11_signToken_51 flX11_139 rfl rfl (L209 L) (fun hr51 => ?_)
    try simp (disch := omega) only [sm_n, sm_k, us_s, us_n, ← hq] at hr51 ⊢
    refine a_aloadn dX11_signToken_54 rfl ?_
    refine b_getI (j' := 6) dX11_signToken_55 flX11_136 rfl rfl (L209 L) (fun hr55 => ?_)
    try simp (disch := omega) only [sm_n, sm_k, us_s, us_n, ← hq] at hr55 ⊢
    refine a_icmp_ge (tgt := 73) dX11_signToken_58 (by decide) ⟨by omega, by omega⟩ ⟨by omega, by omega⟩ (fun hb58 => ?_) (fun hb58 => ?_)
    · exfalso; omega
    · refine a_aloadn dX11_signToken_61 rfl ?_
      refine a_getR (j' := 0) (y := 210) dX11_signToken_62 flX11_7 rfl rfl (L209 L) (p209_0 hP) ?_
      refine a_aloadn dX11_signToken_65 rfl ?_
      refine b_getI (j' := 7) dX11_signToken_66 flX11_139 rfl rfl (L209 L) (fun hr66 => ?_)
      try simp (disch := omega) only [sm_n, sm_k, us_s, us_n, ← hq] at hr66 ⊢
      refine b_iald (N := 700) dX11_signToken_69 (L210 L) (by decide) (by omega) (by omega) (fun hr69 => ?_)
      try simp (disch := omega) only [sm_n, sm_k, us_s, us_n, ← hq] at hr69 ⊢
      refine a_goto (tgt := 74) dX11_signToken_70 (by decide) ?_
      refine c_istoren (ls' := [_, _, _, _]) dX11_signToken_74 (by decide) rfl rfl ?_
      refine a_aloadn dX11_signToken_75 rfl ?_
      refine b_getI (j' := 9) dX11_signToken_76 flX11_153 rfl rfl (L209 L) (fun hr76 => ?_)
      try simp (disch := omega) only [sm_n, sm_k, us_s, us_n, ← hq] at hr76 ⊢
      refine a_bipush (w := 61) dX11_signToken_79 (by decide) ?_
      refine a_icmp_eq (tgt := 94) dX11_signToken_81 (by decide) ⟨by omega, by omega⟩ ⟨by omega, by omega⟩ (fun hb81 => ?_) (fun hb81 => ?_)
      · exfalso; omega
      · refine a_iloadn dX11_signToken_84 rfl ?_
        refine a_bipush (w := 61) dX11_signToken_85 (by decide) ?_
        refine a_icmp_ne (tgt := 94) dX11_signToken_87 (by decide) ⟨by omega, by omega⟩ ⟨by omega, by omega⟩ (fun hb87 => ?_) (fun hb87 => ?_)
        · exfalso; omega
        · refine a_iconst dX11_signToken_90 ?_
          refine a_goto (tgt := 95) dX11_signToken_91 (by decide) ?_
          refine c_istoren (ls' := [_, _, _, _]) dX11_signToken_95 (by decide) rfl rfl ?_
          refine a_aloadn dX11_signToken_96 rfl ?_
          refine b_getI (j' := 9) dX11_signToken_97 flX11_153 rfl rfl (L209 L) (fun hr97 => ?_)
          try simp (disch := omega) only [sm_n, sm_k, us_s, us_n, ← hq] at hr97 ⊢
          refine a_bipush (w := 60) dX11_signToken_100 (by decide) ?_
          refine a_icmp_ne (tgt := 115) dX11_signToken_102 (by decide) ⟨by omega, by omega⟩ ⟨by omega, by omega⟩ (fun hb102 => ?_) (fun hb102 => ?_)
          · exfalso; omega
          · refine a_iloadn dX11_signToken_105 rfl ?_
            refine a_bipush (w := 62) dX11_signToken_106 (by decide) ?_
            refine a_icmp_ne (tgt := 115) dX11_signToken_108 (by decide) ⟨by omega, by omega⟩ ⟨by omega, by omega⟩ (fun hb108 => ?_) (fun hb108 => ?_)
            · refine a_iconst dX11_signToken_115 ?_
              refine c_istoren (ls' := [_, _, _, _]) dX11_signToken_116 (by decide) rfl rfl ?_
              refine a_iloadn dX11_signToken_117 rfl ?_
              refine a_if_ne (tgt := 125) dX11_signToken_118 (by decide) ⟨by omega, by omega⟩ (fun hb118 => ?_) (fun hb118 => ?_)
              · refine a_aloadn dX11_signToken_125 rfl ?_
                refine a_dupR dX11_signToken_126 ?_
                refine b_getI (j' := 7) dX11_signToken_127 flX11_139 rfl rfl (L209 L) (fun hr127 => ?_)
                try simp (disch := omega) only [sm_n, sm_k, us_s, us_n, ← hq] at hr127 ⊢
                refine a_iconst dX11_signToken_130 ?_
                refine a_iadd dX11_signToken_131 ?_
                refine a_putI (j' := 7) dX11_signToken_132 flX11_139 rfl rfl (L209 L) (by decide) rfl ⟨by omega, by omega⟩ ?_
                refine a_aloadn dX11_signToken_135 rfl ?_
                refine a_iconst dX11_signToken_136 ?_
                refine a_putI (j' := 8) dX11_signToken_137 flX11_142 rfl rfl (L209 L) (by decide) rfl ⟨by omega, by omega⟩ ?_
                refine a_aloadn dX11_signToken_140 rfl ?_
                refine a_aloadn dX11_signToken_141 rfl ?_
                refine b_getI (j' := 9) dX11_signToken_142 flX11_153 rfl rfl (L209 L) (fun hr142 => ?_)
                try simp (disch := omega) only [sm_n, sm_k, us_s, us_n, ← hq] at hr142 ⊢
                refine a_bipush (w := 61) dX11_signToken_145 (by decide) ?_
                refine a_icmp_ne (tgt := 154) dX11_signToken_147 (by decide) ⟨by omega, by omega⟩ ⟨by omega, by omega⟩ (fun hb147 => ?_) (fun hb147 => ?_)
                · refine a_aloadn dX11_signToken_154 rfl ?_
                  refine b_getI (j' := 9) dX11_signToken_155 flX11_153 rfl rfl (L209 L) (fun hr155 => ?_)
                  try simp (disch := omega) only [sm_n, sm_k, us_s, us_n, ← hq] at hr155 ⊢
                  refine a_bipush (w := 60) dX11_signToken_158 (by decide) ?_
                  refine a_icmp_ne (tgt := 183) dX11_signToken_160 (by decide) ⟨by omega, by omega⟩ ⟨by omega, by omega⟩ (fun hb160 => ?_) (fun hb160 => ?_)
                  · exfalso; omega
                  · refine a_iloadn dX11_signToken_163 rfl ?_
                    refine a_if_eq (tgt := 171) dX11_signToken_164 (by decide) ⟨by omega, by omega⟩ (fun hb164 => ?_) (fun hb164 => ?_)
                    · exfalso; omega
                    · refine a_iconst dX11_signToken_167 ?_
                      refine a_goto (tgt := 192) dX11_signToken_168 (by decide) ?_
                      refine a_putI (j' := 9) dX11_signToken_192 flX11_153 rfl rfl (L209 L) (by decide) rfl ⟨by omega, by omega⟩ ?_
                      refine a_goto (tgt := 290) dX11_signToken_195 (by decide) ?_
                      exact a_return dX11_signToken_290 rfl rfl rfl (zrel_V (by
      refine ⟨?_, ?_, by simp (disch := decide) only [sm_k, us_s, us_n], ?_⟩
      · simp (disch := decide) only [sm_k, us_s, us_n] <;> omega
      · simp (disch := decide) only [sm_k, us_s, us_n]
        exact Or.inr (Or.inr (Or.inr (Or.inr (Or.inr (Or.inl ⟨rfl, rfl, by decide, by decide, by decide⟩)))))
      · repeat (first | exact Fk.rf _ | refine Fk.sm ?_ (by omega) _)))
                · exfalso; omega
              · exfalso; omega
            · exfalso; omega
  · exfalso; omega

set_option maxRecDepth 100000 in
set_option maxHeartbeats 4000000 in
theorem m_signT_b {G : zG} {l : Launch} {L : Nat} {P : zP} {M : zM} {q : Int} (hP : PFok P) (hq : q = M 209 7) (hn : 0 ≤ q ∧ q < M 209 6 ∧ M 209 6 ≤ 700) (hc : M 210 q = 60) (hd : q + 1 < M 209 6 ∧ M 210 (q + 1) = 62) : AM G l yX11_signToken mdX11_signToken [aR 209] (LAY L) P M (zrel none (LAY L) P (fun M' => M' 209 7 = q + 2 ∧ TKq 5 6 (M' 209 8) (M' 209 9) ∧ M' 209 10 = M 209 10 ∧ Fk M M')) := by
  refine AM.go [some (aR 209), none, none, none] rfl (Nat.le_of_ble_eq_true rfl) ?_ (by decide) rfl rfl
  refine a_aloadn dX11_signToken_0 rfl ?_
  refine a_aloadn dX11_signToken_1 rfl ?_
  refine a_getR (j' := 0) (y := 210) dX11_signToken_2 flX11_7 rfl rfl (L209 L) (p209_0 hP) ?_
  refine a_aloadn dX11_signToken_5 rfl ?_
  refine b_getI (j' := 7) dX11_signToken_6 flX11_139 rfl rfl (L209 L) (fun hr6 => ?_)
  try simp (disch := omega) only [sm_n, sm_k, us_s, us_n, ← hq] at hr6 ⊢
  refine b_iald (N := 700) dX11_signToken_9 (L210 L) (by decide) (by omega) (by omega) (fun hr9 => ?_)
  try simp (disch := omega) only [sm_n, sm_k, us_s, us_n, ← hq] at hr9 ⊢
  refine a_putI (j' := 9) dX11_signToken_10 flX11_153 rfl rfl (L209 L) (by decide) rfl hr9 ?_
  refine a_aloadn dX11_signToken_13 rfl ?_
  refine a_dupR dX11_signToken_14 ?_
  refine b_getI (j' := 7) dX11_signToken_15 flX11_139 rfl rfl (L209 L) (fun hr15 => ?_)
  try simp (disch := omega) only [sm_n, sm_k, us_s, us_n, ← hq] at hr15 ⊢
  refine a_iconst dX11_signToken_18 ?_
  refine a_iadd dX11_signToken_19 ?_
  refine a_putI (j' := 7) dX11_signToken_20 flX11_139 rfl rfl (L209 L) (by decide) rfl ⟨by omega, by omega⟩ ?_
  refine a_aloadn dX11_signToken_23 rfl ?_
  refine b_getI (j' := 9) dX11_signToken_24 flX11_153 rfl rfl (L209 L) (fun hr24 => ?_)
  try simp (disch := omega) only [sm_n, sm_k, us_s, us_n, ← hq] at hr24 ⊢
  refine a_bipush (w := 60) dX11_signToken_27 (by decide) ?_
  refine a_icmp_eq (tgt := 50) dX11_signToken_29 (by decide) ⟨by omega, by omega⟩ ⟨by omega, by omega⟩ (fun hb29 => ?_) (fun hb29 => ?_)
  · refine a_aloadn dX11_signToken_50 rfl ?_
    refine b_getI (j' := 7) dX11_signToken_51 flX11_139 rfl rfl (L209 L) (fun hr51 => ?_)
    try simp (disch := omega) only [sm_n, sm_k, us_s, us_n, ← hq] at hr51 ⊢
    refine a_aloadn dX11_signToken_54 rfl ?_
    refine b_getI (j' := 6) dX11_signToken_55 flX11_136 rfl rfl (L209 L) (fun hr55 => ?_)
    try simp (disch := omega) only [sm_n, sm_k, us_s, us_n, ← hq] at hr55 ⊢
    refine a_icmp_ge (tgt := 73) dX11_signToken_58 (by decide) ⟨by omega, by omega⟩ ⟨by omega, by omega⟩ (fun hb58 => ?_) (fun hb58 => ?_)
    · exfalso; omega
    · refine a_aloadn dX11_signToken_61 rfl ?_
      refine a_getR (j' := 0) (y := 210) dX11_signToken_62 flX11_7 rfl rfl (L209 L) (p209_0 hP) ?_
      refine a_aloadn dX11_signToken_65 rfl ?_
      refine b_getI (j' := 7) dX11_signToken_66 flX11_139 rfl rfl (L209 L) (fun hr66 => ?_)
      try simp (disch := omega) only [sm_n, sm_k, us_s, us_n, ← hq] at hr66 ⊢
      refine b_iald (N := 700) dX11_signToken_69 (L210 L) (by decide) (by omega) (by omega) (fun hr69 => ?_)
      try simp (disch := omega) only [sm_n, sm_k, us_s, us_n, ← hq] at hr69 ⊢
      refine a_goto (tgt := 74) dX11_signToken_70 (by decide) ?_
      refine c_istoren (ls' := [_, _, _, _]) dX11_signToken_74 (by decide) rfl rfl ?_
      refine a_aloadn dX11_signToken_75 rfl ?_
      refine b_getI (j' := 9) dX11_signToken_76 flX11_153 rfl rfl (L209 L) (fun hr76 => ?_)
      try simp (disch := omega) only [sm_n, sm_k, us_s, us_n, ← hq] at hr76 ⊢
      refine a_bipush (w := 61) dX11_signToken_79 (by decide) ?_
      refine a_icmp_eq (tgt := 94) dX11_signToken_81 (by decide) ⟨by omega, by omega⟩ ⟨by omega, by omega⟩ (fun hb81 => ?_) (fun hb81 => ?_)
      · exfalso; omega
      · refine a_iloadn dX11_signToken_84 rfl ?_
        refine a_bipush (w := 61) dX11_signToken_85 (by decide) ?_
        refine a_icmp_ne (tgt := 94) dX11_signToken_87 (by decide) ⟨by omega, by omega⟩ ⟨by omega, by omega⟩ (fun hb87 => ?_) (fun hb87 => ?_)
        · refine a_iconst dX11_signToken_94 ?_
          refine c_istoren (ls' := [_, _, _, _]) dX11_signToken_95 (by decide) rfl rfl ?_
          refine a_aloadn dX11_signToken_96 rfl ?_
          refine b_getI (j' := 9) dX11_signToken_97 flX11_153 rfl rfl (L209 L) (fun hr97 => ?_)
          try simp (disch := omega) only [sm_n, sm_k, us_s, us_n, ← hq] at hr97 ⊢
          refine a_bipush (w := 60) dX11_signToken_100 (by decide) ?_
          refine a_icmp_ne (tgt := 115) dX11_signToken_102 (by decide) ⟨by omega, by omega⟩ ⟨by omega, by omega⟩ (fun hb102 => ?_) (fun hb102 => ?_)
          · exfalso; omega
          · refine a_iloadn dX11_signToken_105 rfl ?_
            refine a_bipush (w := 62) dX11_signToken_106 (by decide) ?_
            refine a_icmp_ne (tgt := 115) dX11_signToken_108 (by decide) ⟨by omega, by omega⟩ ⟨by omega, by omega⟩ (fun hb108 => ?_) (fun hb108 => ?_)
            · exfalso; omega
            · refine a_iconst dX11_signToken_111 ?_
              refine a_goto (tgt := 116) dX11_signToken_112 (by decide) ?_
              refine c_istoren (ls' := [_, _, _, _]) dX11_signToken_116 (by decide) rfl rfl ?_
              refine a_iloadn dX11_signToken_117 rfl ?_
              refine a_if_ne (tgt := 125) dX11_signToken_118 (by decide) ⟨by omega, by omega⟩ (fun hb118 => ?_) (fun hb118 => ?_)
              · exfalso; omega
              · refine a_iloadn dX11_signToken_121 rfl ?_
                refine a_if_eq (tgt := 135) dX11_signToken_122 (by decide) ⟨by omega, by omega⟩ (fun hb122 => ?_) (fun hb122 => ?_)
                · exfalso; omega
                · refine a_aloadn dX11_signToken_125 rfl ?_
                  refine a_dupR dX11_signToken_126 ?_
                  refine b_getI (j' := 7) dX11_signToken_127 flX11_139 rfl rfl (L209 L) (fun hr127 => ?_)
                  try simp (disch := omega) only [sm_n, sm_k, us_s, us_n, ← hq] at hr127 ⊢
                  refine a_iconst dX11_signToken_130 ?_
                  refine a_iadd dX11_signToken_131 ?_
                  refine a_putI (j' := 7) dX11_signToken_132 flX11_139 rfl rfl (L209 L) (by decide) rfl ⟨by omega, by omega⟩ ?_
                  refine a_aloadn dX11_signToken_135 rfl ?_
                  refine a_iconst dX11_signToken_136 ?_
                  refine a_putI (j' := 8) dX11_signToken_137 flX11_142 rfl rfl (L209 L) (by decide) rfl ⟨by omega, by omega⟩ ?_
                  refine a_aloadn dX11_signToken_140 rfl ?_
                  refine a_aloadn dX11_signToken_141 rfl ?_
                  refine b_getI (j' := 9) dX11_signToken_142 flX11_153 rfl rfl (L209 L) (fun hr142 => ?_)
                  try simp (disch := omega) only [sm_n, sm_k, us_s, us_n, ← hq] at hr142 ⊢
                  refine a_bipush (w := 61) dX11_signToken_145 (by decide) ?_
                  refine a_icmp_ne (tgt := 154) dX11_signToken_147 (by decide) ⟨by omega, by omega⟩ ⟨by omega, by omega⟩ (fun hb147 => ?_) (fun hb147 => ?_)
                  · refine a_aloadn dX11_signToken_154 rfl ?_
                    refine b_getI (j' := 9) dX11_signToken_155 flX11_153 rfl rfl (L209 L) (fun hr155 => ?_)
                    try simp (disch := omega) only [sm_n, sm_k, us_s, us_n, ← hq] at hr155 ⊢
                    refine a_bipush (w := 60) dX11_signToken_158 (by decide) ?_
                    refine a_icmp_ne (tgt := 183) dX11_signToken_160 (by decide) ⟨by omega, by omega⟩ ⟨by omega, by omega⟩ (fun hb160 => ?_) (fun hb160 => ?_)
                    · exfalso; omega
                    · refine a_iloadn dX11_signToken_163 rfl ?_
                      refine a_if_eq (tgt := 171) dX11_signToken_164 (by decide) ⟨by omega, by omega⟩ (fun hb164 => ?_) (fun hb164 => ?_)
                      · refine a_iloadn dX11_signToken_171 rfl ?_
                        refine a_if_eq (tgt := 179) dX11_signToken_172 (by decide) ⟨by omega, by omega⟩ (fun hb172 => ?_) (fun hb172 => ?_)
                        · exfalso; omega
                        · refine a_iconst dX11_signToken_175 ?_
                          refine a_goto (tgt := 192) dX11_signToken_176 (by decide) ?_
                          refine a_putI (j' := 9) dX11_signToken_192 flX11_153 rfl rfl (L209 L) (by decide) rfl ⟨by omega, by omega⟩ ?_
                          refine a_goto (tgt := 290) dX11_signToken_195 (by decide) ?_
                          exact a_return dX11_signToken_290 rfl rfl rfl (zrel_V (by
      refine ⟨?_, ?_, by simp (disch := decide) only [sm_k, us_s, us_n], ?_⟩
      · simp (disch := decide) only [sm_k, us_s, us_n] <;> omega
      · simp (disch := decide) only [sm_k, us_s, us_n]
        exact Or.inr (Or.inr (Or.inr (Or.inr (Or.inr (Or.inl ⟨rfl, rfl, by decide, by decide, by decide⟩)))))
      · repeat (first | exact Fk.rf _ | refine Fk.sm ?_ (by omega) _)))
                      · exfalso; omega
                  · exfalso; omega
        · exfalso; omega
  · exfalso; omega

set_option maxRecDepth 100000 in
set_option maxHeartbeats 4000000 in
theorem m_signT_c {G : zG} {l : Launch} {L : Nat} {P : zP} {M : zM} {q : Int} (hP : PFok P) (hq : q = M 209 7) (hn : 0 ≤ q ∧ q < M 209 6 ∧ M 209 6 ≤ 700) (hc : M 210 q = 60) (hd : q + 1 < M 209 6 → M 210 (q + 1) ≠ 61 ∧ M 210 (q + 1) ≠ 62) : AM G l yX11_signToken mdX11_signToken [aR 209] (LAY L) P M (zrel none (LAY L) P (fun M' => M' 209 7 = q + 1 ∧ TKq 5 3 (M' 209 8) (M' 209 9) ∧ M' 209 10 = M 209 10 ∧ Fk M M')) := by
  refine AM.go [some (aR 209), none, none, none] rfl (Nat.le_of_ble_eq_true rfl) ?_ (by decide) rfl rfl
  refine a_aloadn dX11_signToken_0 rfl ?_
  refine a_aloadn dX11_signToken_1 rfl ?_
  refine a_getR (j' := 0) (y := 210) dX11_signToken_2 flX11_7 rfl rfl (L209 L) (p209_0 hP) ?_
  refine a_aloadn dX11_signToken_5 rfl ?_
  refine b_getI (j' := 7) dX11_signToken_6 flX11_139 rfl rfl (L209 L) (fun hr6 => ?_)
  try simp (disch := omega) only [sm_n, sm_k, us_s, us_n, ← hq] at hr6 ⊢
  refine b_iald (N := 700) dX11_signToken_9 (L210 L) (by decide) (by omega) (by omega) (fun hr9 => ?_)
  try simp (disch := omega) only [sm_n, sm_k, us_s, us_n, ← hq] at hr9 ⊢
  refine a_putI (j' := 9) dX11_signToken_10 flX11_153 rfl rfl (L209 L) (by decide) rfl hr9 ?_
  refine a_aloadn dX11_signToken_13 rfl ?_
  refine a_dupR dX11_signToken_14 ?_
  refine b_getI (j' := 7) dX11_signToken_15 flX11_139 rfl rfl (L209 L) (fun hr15 => ?_)
  try simp (disch := omega) only [sm_n, sm_k, us_s, us_n, ← hq] at hr15 ⊢
  refine a_iconst dX11_signToken_18 ?_
  refine a_iadd dX11_signToken_19 ?_
  refine a_putI (j' := 7) dX11_signToken_20 flX11_139 rfl rfl (L209 L) (by decide) rfl ⟨by omega, by omega⟩ ?_
  refine a_aloadn dX11_signToken_23 rfl ?_
  refine b_getI (j' := 9) dX11_signToken_24 flX11_153 rfl rfl (L209 L) (fun hr24 => ?_)
  try simp (disch := omega) only [sm_n, sm_k, us_s, us_n, ← hq] at hr24 ⊢
  refine a_bipush (w := 60) dX11_signToken_27 (by decide) ?_
  refine a_icmp_eq (tgt := 50) dX11_signToken_29 (by decide) ⟨by omega, by omega⟩ ⟨by omega, by omega⟩ (fun hb29 => ?_) (fun hb29 => ?_)
  · refine a_aloadn dX11_signToken_50 rfl ?_
    refine b_getI (j' := 7) dX11_signToken_51 flX11_139 rfl rfl (L209 L) (fun hr51 => ?_)
    try simp (disch := omega) only [sm_n, sm_k, us_s, us_n, ← hq] at hr51 ⊢
    refine a_aloadn dX11_signToken_54 rfl ?_
    refine b_getI (j' := 6) dX11_signToken_55 flX11_136 rfl rfl (L209 L) (fun hr55 => ?_)
    try simp (disch := omega) only [sm_n, sm_k, us_s, us_n, ← hq] at hr55 ⊢
    refine a_icmp_ge (tgt := 73) dX11_signToken_58 (by decide) ⟨by omega, by omega⟩ ⟨by omega, by omega⟩ (fun hb58 => ?_) (fun hb58 => ?_)
    · refine a_iconst dX11_signToken_73 ?_
      refine c_istoren (ls' := [_, _, _, _]) dX11_signToken_74 (by decide) rfl rfl ?_
      refine a_aloadn dX11_signToken_75 rfl ?_
      refine b_getI (j' := 9) dX11_signToken_76 flX11_153 rfl rfl (L209 L) (fun hr76 => ?_)
      try simp (disch := omega) only [sm_n, sm_k, us_s, us_n, ← hq] at hr76 ⊢
      refine a_bipush (w := 61) dX11_signToken_79 (by decide) ?_
      refine a_icmp_eq (tgt := 94) dX11_signToken_81 (by decide) ⟨by omega, by omega⟩ ⟨by omega, by omega⟩ (fun hb81 => ?_) (fun hb81 => ?_)
      · exfalso; omega
      · refine a_iloadn dX11_signToken_84 rfl ?_
        refine a_bipush (w := 61) dX11_signToken_85 (by decide) ?_
        refine a_icmp_ne (tgt := 94) dX11_signToken_87 (by decide) ⟨by omega, by omega⟩ ⟨by omega, by omega⟩ (fun hb87 => ?_) (fun hb87 => ?_)
        · refine a_iconst dX11_signToken_94 ?_
          refine c_istoren (ls' := [_, _, _, _]) dX11_signToken_95 (by decide) rfl rfl ?_
          refine a_aloadn dX11_signToken_96 rfl ?_
          refine b_getI (j' := 9) dX11_signToken_97 flX11_153 rfl rfl (L209 L) (fun hr97 => ?_)
          try simp (disch := omega) only [sm_n, sm_k, us_s, us_n, ← hq] at hr97 ⊢
          refine a_bipush (w := 60) dX11_signToken_100 (by decide) ?_
          refine a_icmp_ne (tgt := 115) dX11_signToken_102 (by decide) ⟨by omega, by omega⟩ ⟨by omega, by omega⟩ (fun hb102 => ?_) (fun hb102 => ?_)
          · exfalso; omega
          · refine a_iloadn dX11_signToken_105 rfl ?_
            refine a_bipush (w := 62) dX11_signToken_106 (by decide) ?_
            refine a_icmp_ne (tgt := 115) dX11_signToken_108 (by decide) ⟨by omega, by omega⟩ ⟨by omega, by omega⟩ (fun hb108 => ?_) (fun hb108 => ?_)
            · refine a_iconst dX11_signToken_115 ?_
              refine c_istoren (ls' := [_, _, _, _]) dX11_signToken_116 (by decide) rfl rfl ?_
              refine a_iloadn dX11_signToken_117 rfl ?_
              refine a_if_ne (tgt := 125) dX11_signToken_118 (by decide) ⟨by omega, by omega⟩ (fun hb118 => ?_) (fun hb118 => ?_)
              · exfalso; omega
              · refine a_iloadn dX11_signToken_121 rfl ?_
                refine a_if_eq (tgt := 135) dX11_signToken_122 (by decide) ⟨by omega, by omega⟩ (fun hb122 => ?_) (fun hb122 => ?_)
                · refine a_aloadn dX11_signToken_135 rfl ?_
                  refine a_iconst dX11_signToken_136 ?_
                  refine a_putI (j' := 8) dX11_signToken_137 flX11_142 rfl rfl (L209 L) (by decide) rfl ⟨by omega, by omega⟩ ?_
                  refine a_aloadn dX11_signToken_140 rfl ?_
                  refine a_aloadn dX11_signToken_141 rfl ?_
                  refine b_getI (j' := 9) dX11_signToken_142 flX11_153 rfl rfl (L209 L) (fun hr142 => ?_)
                  try simp (disch := omega) only [sm_n, sm_k, us_s, us_n, ← hq] at hr142 ⊢
                  refine a_bipush (w := 61) dX11_signToken_145 (by decide) ?_
                  refine a_icmp_ne (tgt := 154) dX11_signToken_147 (by decide) ⟨by omega, by omega⟩ ⟨by omega, by omega⟩ (fun hb147 => ?_) (fun hb147 => ?_)
                  · refine a_aloadn dX11_signToken_154 rfl ?_
                    refine b_getI (j' := 9) dX11_signToken_155 flX11_153 rfl rfl (L209 L) (fun hr155 => ?_)
                    try simp (disch := omega) only [sm_n, sm_k, us_s, us_n, ← hq] at hr155 ⊢
                    refine a_bipush (w := 60) dX11_signToken_158 (by decide) ?_
                    refine a_icmp_ne (tgt := 183) dX11_signToken_160 (by decide) ⟨by omega, by omega⟩ ⟨by omega, by omega⟩ (fun hb160 => ?_) (fun hb160 => ?_)
                    · exfalso; omega
                    · refine a_iloadn dX11_signToken_163 rfl ?_
                      refine a_if_eq (tgt := 171) dX11_signToken_164 (by decide) ⟨by omega, by omega⟩ (fun hb164 => ?_) (fun hb164 => ?_)
                      · refine a_iloadn dX11_signToken_171 rfl ?_
                        refine a_if_eq (tgt := 179) dX11_signToken_172 (by decide) ⟨by omega, by omega⟩ (fun hb172 => ?_) (fun hb172 => ?_)
                        · refine a_iconst dX11_signToken_179 ?_
                          refine a_goto (tgt := 192) dX11_signToken_180 (by decide) ?_
                          refine a_putI (j' := 9) dX11_signToken_192 flX11_153 rfl rfl (L209 L) (by decide) rfl ⟨by omega, by omega⟩ ?_
                          refine a_goto (tgt := 290) dX11_signToken_195 (by decide) ?_
                          exact a_return dX11_signToken_290 rfl rfl rfl (zrel_V (by
      refine ⟨?_, ?_, by simp (disch := decide) only [sm_k, us_s, us_n], ?_⟩
      · simp (disch := decide) only [sm_k, us_s, us_n] <;> omega
      · simp (disch := decide) only [sm_k, us_s, us_n]
        exact Or.inr (Or.inr (Or.inr (Or.inr (Or.inr (Or.inl ⟨rfl, rfl, by decide, by decide, by decide⟩)))))
      · repeat (first | exact Fk.rf _ | refine Fk.sm ?_ (by omega) _)))
                        · exfalso; omega
                      · exfalso; omega
                  · exfalso; omega
                · exfalso; omega
            · exfalso; omega
        · exfalso; omega
    · refine a_aloadn dX11_signToken_61 rfl ?_
      refine a_getR (j' := 0) (y := 210) dX11_signToken_62 flX11_7 rfl rfl (L209 L) (p209_0 hP) ?_
      refine a_aloadn dX11_signToken_65 rfl ?_
      refine b_getI (j' := 7) dX11_signToken_66 flX11_139 rfl rfl (L209 L) (fun hr66 => ?_)
      try simp (disch := omega) only [sm_n, sm_k, us_s, us_n, ← hq] at hr66 ⊢
      refine b_iald (N := 700) dX11_signToken_69 (L210 L) (by decide) (by omega) (by omega) (fun hr69 => ?_)
      try simp (disch := omega) only [sm_n, sm_k, us_s, us_n, ← hq] at hr69 ⊢
      refine a_goto (tgt := 74) dX11_signToken_70 (by decide) ?_
      refine c_istoren (ls' := [_, _, _, _]) dX11_signToken_74 (by decide) rfl rfl ?_
      refine a_aloadn dX11_signToken_75 rfl ?_
      refine b_getI (j' := 9) dX11_signToken_76 flX11_153 rfl rfl (L209 L) (fun hr76 => ?_)
      try simp (disch := omega) only [sm_n, sm_k, us_s, us_n, ← hq] at hr76 ⊢
      refine a_bipush (w := 61) dX11_signToken_79 (by decide) ?_
      refine a_icmp_eq (tgt := 94) dX11_signToken_81 (by decide) ⟨by omega, by omega⟩ ⟨by omega, by omega⟩ (fun hb81 => ?_) (fun hb81 => ?_)
      · exfalso; omega
      · refine a_iloadn dX11_signToken_84 rfl ?_
        refine a_bipush (w := 61) dX11_signToken_85 (by decide) ?_
        refine a_icmp_ne (tgt := 94) dX11_signToken_87 (by decide) ⟨by omega, by omega⟩ ⟨by omega, by omega⟩ (fun hb87 => ?_) (fun hb87 => ?_)
        · refine a_iconst dX11_signToken_94 ?_
          refine c_istoren (ls' := [_, _, _, _]) dX11_signToken_95 (by decide) rfl rfl ?_
          refine a_aloadn dX11_signToken_96 rfl ?_
          refine b_getI (j' := 9) dX11_signToken_97 flX11_153 rfl rfl (L209 L) (fun hr97 => ?_)
          try simp (disch := omega) only [sm_n, sm_k, us_s, us_n, ← hq] at hr97 ⊢
          refine a_bipush (w := 60) dX11_signToken_100 (by decide) ?_
          refine a_icmp_ne (tgt := 115) dX11_signToken_102 (by decide) ⟨by omega, by omega⟩ ⟨by omega, by omega⟩ (fun hb102 => ?_) (fun hb102 => ?_)
          · exfalso; omega
          · refine a_iloadn dX11_signToken_105 rfl ?_
            refine a_bipush (w := 62) dX11_signToken_106 (by decide) ?_
            refine a_icmp_ne (tgt := 115) dX11_signToken_108 (by decide) ⟨by omega, by omega⟩ ⟨by omega, by omega⟩ (fun hb108 => ?_) (fun hb108 => ?_)
            · refine a_iconst dX11_signToken_115 ?_
              refine c_istoren (ls' := [_, _, _, _]) dX11_signToken_116 (by decide) rfl rfl ?_
              refine a_iloadn dX11_signToken_117 rfl ?_
              refine a_if_ne (tgt := 125) dX11_signToken_118 (by decide) ⟨by omega, by omega⟩ (fun hb118 => ?_) (fun hb118 => ?_)
              · exfalso; omega
              · refine a_iloadn dX11_signToken_121 rfl ?_
                refine a_if_eq (tgt := 135) dX11_signToken_122 (by decide) ⟨by omega, by omega⟩ (fun hb122 => ?_) (fun hb122 => ?_)
                · refine a_aloadn dX11_signToken_135 rfl ?_
                  refine a_iconst dX11_signToken_136 ?_
                  refine a_putI (j' := 8) dX11_signToken_137 flX11_142 rfl rfl (L209 L) (by decide) rfl ⟨by omega, by omega⟩ ?_
                  refine a_aloadn dX11_signToken_140 rfl ?_
                  refine a_aloadn dX11_signToken_141 rfl ?_
                  refine b_getI (j' := 9) dX11_signToken_142 flX11_153 rfl rfl (L209 L) (fun hr142 => ?_)
                  try simp (disch := omega) only [sm_n, sm_k, us_s, us_n, ← hq] at hr142 ⊢
                  refine a_bipush (w := 61) dX11_signToken_145 (by decide) ?_
                  refine a_icmp_ne (tgt := 154) dX11_signToken_147 (by decide) ⟨by omega, by omega⟩ ⟨by omega, by omega⟩ (fun hb147 => ?_) (fun hb147 => ?_)
                  · refine a_aloadn dX11_signToken_154 rfl ?_
                    refine b_getI (j' := 9) dX11_signToken_155 flX11_153 rfl rfl (L209 L) (fun hr155 => ?_)
                    try simp (disch := omega) only [sm_n, sm_k, us_s, us_n, ← hq] at hr155 ⊢
                    refine a_bipush (w := 60) dX11_signToken_158 (by decide) ?_
                    refine a_icmp_ne (tgt := 183) dX11_signToken_160 (by decide) ⟨by omega, by omega⟩ ⟨by omega, by omega⟩ (fun hb160 => ?_) (fun hb160 => ?_)
                    · exfalso; omega
                    · refine a_iloadn dX11_signToken_163 rfl ?_
                      refine a_if_eq (tgt := 171) dX11_signToken_164 (by decide) ⟨by omega, by omega⟩ (fun hb164 => ?_) (fun hb164 => ?_)
                      · refine a_iloadn dX11_signToken_171 rfl ?_
                        refine a_if_eq (tgt := 179) dX11_signToken_172 (by decide) ⟨by omega, by omega⟩ (fun hb172 => ?_) (fun hb172 => ?_)
                        · refine a_iconst dX11_signToken_179 ?_
                          refine a_goto (tgt := 192) dX11_signToken_180 (by decide) ?_
                          refine a_putI (j' := 9) dX11_signToken_192 flX11_153 rfl rfl (L209 L) (by decide) rfl ⟨by omega, by omega⟩ ?_
                          refine a_goto (tgt := 290) dX11_signToken_195 (by decide) ?_
                          exact a_return dX11_signToken_290 rfl rfl rfl (zrel_V (by
      refine ⟨?_, ?_, by simp (disch := decide) only [sm_k, us_s, us_n], ?_⟩
      · simp (disch := decide) only [sm_k, us_s, us_n] <;> omega
      · simp (disch := decide) only [sm_k, us_s, us_n]
        exact Or.inr (Or.inr (Or.inr (Or.inr (Or.inr (Or.inl ⟨rfl, rfl, by decide, by decide, by decide⟩)))))
      · repeat (first | exact Fk.rf _ | refine Fk.sm ?_ (by omega) _)))
                        · exfalso; omega
                      · exfalso; omega
                  · exfalso; omega
                · exfalso; omega
            · exfalso; omega
        · exfalso; omega
  · exfalso; omega

set_option maxRecDepth 100000 in
set_option maxHeartbeats 4000000 in
theorem m_signT_d {G : zG} {l : Launch} {L : Nat} {P : zP} {M : zM} {q : Int} (hP : PFok P) (hq : q = M 209 7) (hn : 0 ≤ q ∧ q < M 209 6 ∧ M 209 6 ≤ 700) (hc : M 210 q = 62) (hd : q + 1 < M 209 6 ∧ M 210 (q + 1) = 61) : AM G l yX11_signToken mdX11_signToken [aR 209] (LAY L) P M (zrel none (LAY L) P (fun M' => M' 209 7 = q + 2 ∧ TKq 5 7 (M' 209 8) (M' 209 9) ∧ M' 209 10 = M 209 10 ∧ Fk M M')) := by
  refine AM.go [some (aR 209), none, none, none] rfl (Nat.le_of_ble_eq_true rfl) ?_ (by decide) rfl rfl
  refine a_aloadn dX11_signToken_0 rfl ?_
  refine a_aloadn dX11_signToken_1 rfl ?_
  refine a_getR (j' := 0) (y := 210) dX11_signToken_2 flX11_7 rfl rfl (L209 L) (p209_0 hP) ?_
  refine a_aloadn dX11_signToken_5 rfl ?_
  refine b_getI (j' := 7) dX11_signToken_6 flX11_139 rfl rfl (L209 L) (fun hr6 => ?_)
  try simp (disch := omega) only [sm_n, sm_k, us_s, us_n, ← hq] at hr6 ⊢
  refine b_iald (N := 700) dX11_signToken_9 (L210 L) (by decide) (by omega) (by omega) (fun hr9 => ?_)
  try simp (disch := omega) only [sm_n, sm_k, us_s, us_n, ← hq] at hr9 ⊢
  refine a_putI (j' := 9) dX11_signToken_10 flX11_153 rfl rfl (L209 L) (by decide) rfl hr9 ?_
  refine a_aloadn dX11_signToken_13 rfl ?_
  refine a_dupR dX11_signToken_14 ?_
  refine b_getI (j' := 7) dX11_signToken_15 flX11_139 rfl rfl (L209 L) (fun hr15 => ?_)
  try simp (disch := omega) only [sm_n, sm_k, us_s, us_n, ← hq] at hr15 ⊢
  refine a_iconst dX11_signToken_18 ?_
  refine a_iadd dX11_signToken_19 ?_
  refine a_putI (j' := 7) dX11_signToken_20 flX11_139 rfl rfl (L209 L) (by decide) rfl ⟨by omega, by omega⟩ ?_
  refine a_aloadn dX11_signToken_23 rfl ?_
  refine b_getI (j' := 9) dX11_signToken_24 flX11_153 rfl rfl (L209 L) (fun hr24 => ?_)
  try simp (disch := omega) only [sm_n, sm_k, us_s, us_n, ← hq] at hr24 ⊢
  refine a_bipush (w := 60) dX11_signToken_27 (by decide) ?_
  refine a_icmp_eq (tgt := 50) dX11_signToken_29 (by decide) ⟨by omega, by omega⟩ ⟨by omega, by omega⟩ (fun hb29 => ?_) (fun hb29 => ?_)
  · exfalso; omega
  · refine a_aloadn dX11_signToken_32 rfl ?_
    refine b_getI (j' := 9) dX11_signToken_33 flX11_153 rfl rfl (L209 L) (fun hr33 => ?_)
    try simp (disch := omega) only [sm_n, sm_k, us_s, us_n, ← hq] at hr33 ⊢
    refine a_bipush (w := 62) dX11_signToken_36 (by decide) ?_
    refine a_icmp_eq (tgt := 50) dX11_signToken_38 (by decide) ⟨by omega, by omega⟩ ⟨by omega, by omega⟩ (fun hb38 => ?_) (fun hb38 => ?_)
    · refine a_aloadn dX11_signToken_50 rfl ?_
      refine b_getI (j' := 7) dX11_signToken_51 flX11_139 rfl rfl (L209 L) (fun hr51 => ?_)
      try simp (disch := omega) only [sm_n, sm_k, us_s, us_n, ← hq] at hr51 ⊢
      refine a_aloadn dX11_signToken_54 rfl ?_
      refine b_getI (j' := 6) dX11_signToken_55 flX11_136 rfl rfl (L209 L) (fun hr55 => ?_)
      try simp (disch := omega) only [sm_n, sm_k, us_s, us_n, ← hq] at hr55 ⊢
      refine a_icmp_ge (tgt := 73) dX11_signToken_58 (by decide) ⟨by omega, by omega⟩ ⟨by omega, by omega⟩ (fun hb58 => ?_) (fun hb58 => ?_)
      · exfalso; omega
      · refine a_aloadn dX11_signToken_61 rfl ?_
        refine a_getR (j' := 0) (y := 210) dX11_signToken_62 flX11_7 rfl rfl (L209 L) (p209_0 hP) ?_
        refine a_aloadn dX11_signToken_65 rfl ?_
        refine b_getI (j' := 7) dX11_signToken_66 flX11_139 rfl rfl (L209 L) (fun hr66 => ?_)
        try simp (disch := omega) only [sm_n, sm_k, us_s, us_n, ← hq] at hr66 ⊢
        refine b_iald (N := 700) dX11_signToken_69 (L210 L) (by decide) (by omega) (by omega) (fun hr69 => ?_)
        try simp (disch := omega) only [sm_n, sm_k, us_s, us_n, ← hq] at hr69 ⊢
        refine a_goto (tgt := 74) dX11_signToken_70 (by decide) ?_
        refine c_istoren (ls' := [_, _, _, _]) dX11_signToken_74 (by decide) rfl rfl ?_
        refine a_aloadn dX11_signToken_75 rfl ?_
        refine b_getI (j' := 9) dX11_signToken_76 flX11_153 rfl rfl (L209 L) (fun hr76 => ?_)
        try simp (disch := omega) only [sm_n, sm_k, us_s, us_n, ← hq] at hr76 ⊢
        refine a_bipush (w := 61) dX11_signToken_79 (by decide) ?_
        refine a_icmp_eq (tgt := 94) dX11_signToken_81 (by decide) ⟨by omega, by omega⟩ ⟨by omega, by omega⟩ (fun hb81 => ?_) (fun hb81 => ?_)
        · exfalso; omega
        · refine a_iloadn dX11_signToken_84 rfl ?_
          refine a_bipush (w := 61) dX11_signToken_85 (by decide) ?_
          refine a_icmp_ne (tgt := 94) dX11_signToken_87 (by decide) ⟨by omega, by omega⟩ ⟨by omega, by omega⟩ (fun hb87 => ?_) (fun hb87 => ?_)
          · exfalso; omega
          · refine a_iconst dX11_signToken_90 ?_
            refine a_goto (tgt := 95) dX11_signToken_91 (by decide) ?_
            refine c_istoren (ls' := [_, _, _, _]) dX11_signToken_95 (by decide) rfl rfl ?_
            refine a_aloadn dX11_signToken_96 rfl ?_
            refine b_getI (j' := 9) dX11_signToken_97 flX11_153 rfl rfl (L209 L) (fun hr97 => ?_)
            try simp (disch := omega) only [sm_n, sm_k, us_s, us_n, ← hq] at hr97 ⊢
            refine a_bipush (w := 60) dX11_signToken_100 (by decide) ?_
            refine a_icmp_ne (tgt := 115) dX11_signToken_102 (by decide) ⟨by omega, by omega⟩ ⟨by omega, by omega⟩ (fun hb102 => ?_) (fun hb102 => ?_)
            · refine a_iconst dX11_signToken_115 ?_
              refine c_istoren (ls' := [_, _, _, _]) dX11_signToken_116 (by decide) rfl rfl ?_
              refine a_iloadn dX11_signToken_117 rfl ?_
              refine a_if_ne (tgt := 125) dX11_signToken_118 (by decide) ⟨by omega, by omega⟩ (fun hb118 => ?_) (fun hb118 => ?_)
              · refine a_aloadn dX11_signToken_125 rfl ?_
                refine a_dupR dX11_signToken_126 ?_
                refine b_getI (j' := 7) dX11_signToken_127 flX11_139 rfl rfl (L209 L) (fun hr127 => ?_)
                try simp (disch := omega) only [sm_n, sm_k, us_s, us_n, ← hq] at hr127 ⊢
                refine a_iconst dX11_signToken_130 ?_
                refine a_iadd dX11_signToken_131 ?_
                refine a_putI (j' := 7) dX11_signToken_132 flX11_139 rfl rfl (L209 L) (by decide) rfl ⟨by omega, by omega⟩ ?_
                refine a_aloadn dX11_signToken_135 rfl ?_
                refine a_iconst dX11_signToken_136 ?_
                refine a_putI (j' := 8) dX11_signToken_137 flX11_142 rfl rfl (L209 L) (by decide) rfl ⟨by omega, by omega⟩ ?_
                refine a_aloadn dX11_signToken_140 rfl ?_
                refine a_aloadn dX11_signToken_141 rfl ?_
                refine b_getI (j' := 9) dX11_signToken_142 flX11_153 rfl rfl (L209 L) (fun hr142 => ?_)
                try simp (disch := omega) only [sm_n, sm_k, us_s, us_n, ← hq] at hr142 ⊢
                refine a_bipush (w := 61) dX11_signToken_145 (by decide) ?_
                refine a_icmp_ne (tgt := 154) dX11_signToken_147 (by decide) ⟨by omega, by omega⟩ ⟨by omega, by omega⟩ (fun hb147 => ?_) (fun hb147 => ?_)
                · refine a_aloadn dX11_signToken_154 rfl ?_
                  refine b_getI (j' := 9) dX11_signToken_155 flX11_153 rfl rfl (L209 L) (fun hr155 => ?_)
                  try simp (disch := omega) only [sm_n, sm_k, us_s, us_n, ← hq] at hr155 ⊢
                  refine a_bipush (w := 60) dX11_signToken_158 (by decide) ?_
                  refine a_icmp_ne (tgt := 183) dX11_signToken_160 (by decide) ⟨by omega, by omega⟩ ⟨by omega, by omega⟩ (fun hb160 => ?_) (fun hb160 => ?_)
                  · refine a_iloadn dX11_signToken_183 rfl ?_
                    refine a_if_eq (tgt := 191) dX11_signToken_184 (by decide) ⟨by omega, by omega⟩ (fun hb184 => ?_) (fun hb184 => ?_)
                    · exfalso; omega
                    · refine a_iconst dX11_signToken_187 ?_
                      refine a_goto (tgt := 192) dX11_signToken_188 (by decide) ?_
                      refine a_putI (j' := 9) dX11_signToken_192 flX11_153 rfl rfl (L209 L) (by decide) rfl ⟨by omega, by omega⟩ ?_
                      refine a_goto (tgt := 290) dX11_signToken_195 (by decide) ?_
                      exact a_return dX11_signToken_290 rfl rfl rfl (zrel_V (by
      refine ⟨?_, ?_, by simp (disch := decide) only [sm_k, us_s, us_n], ?_⟩
      · simp (disch := decide) only [sm_k, us_s, us_n] <;> omega
      · simp (disch := decide) only [sm_k, us_s, us_n]
        exact Or.inr (Or.inr (Or.inr (Or.inr (Or.inr (Or.inl ⟨rfl, rfl, by decide, by decide, by decide⟩)))))
      · repeat (first | exact Fk.rf _ | refine Fk.sm ?_ (by omega) _)))
                  · exfalso; omega
                · exfalso; omega
              · exfalso; omega
            · exfalso; omega
    · exfalso; omega

set_option maxRecDepth 100000 in
set_option maxHeartbeats 4000000 in
theorem m_signT_e {G : zG} {l : Launch} {L : Nat} {P : zP} {M : zM} {q : Int} (hP : PFok P) (hq : q = M 209 7) (hn : 0 ≤ q ∧ q < M 209 6 ∧ M 209 6 ≤ 700) (hc : M 210 q = 62) (hd : q + 1 < M 209 6 → M 210 (q + 1) ≠ 61) : AM G l yX11_signToken mdX11_signToken [aR 209] (LAY L) P M (zrel none (LAY L) P (fun M' => M' 209 7 = q + 1 ∧ TKq 5 8 (M' 209 8) (M' 209 9) ∧ M' 209 10 = M 209 10 ∧ Fk M M')) := by
  refine AM.go [some (aR 209), none, none, none] rfl (Nat.le_of_ble_eq_true rfl) ?_ (by decide) rfl rfl
  refine a_aloadn dX11_signToken_0 rfl ?_
  refine a_aloadn dX11_signToken_1 rfl ?_
  refine a_getR (j' := 0) (y := 210) dX11_signToken_2 flX11_7 rfl rfl (L209 L) (p209_0 hP) ?_
  refine a_aloadn dX11_signToken_5 rfl ?_
  refine b_getI (j' := 7) dX11_signToken_6 flX11_139 rfl rfl (L209 L) (fun hr6 => ?_)
  try simp (disch := omega) only [sm_n, sm_k, us_s, us_n, ← hq] at hr6 ⊢
  refine b_iald (N := 700) dX11_signToken_9 (L210 L) (by decide) (by omega) (by omega) (fun hr9 => ?_)
  try simp (disch := omega) only [sm_n, sm_k, us_s, us_n, ← hq] at hr9 ⊢
  refine a_putI (j' := 9) dX11_signToken_10 flX11_153 rfl rfl (L209 L) (by decide) rfl hr9 ?_
  refine a_aloadn dX11_signToken_13 rfl ?_
  refine a_dupR dX11_signToken_14 ?_
  refine b_getI (j' := 7) dX11_signToken_15 flX11_139 rfl rfl (L209 L) (fun hr15 => ?_)
  try simp (disch := omega) only [sm_n, sm_k, us_s, us_n, ← hq] at hr15 ⊢
  refine a_iconst dX11_signToken_18 ?_
  refine a_iadd dX11_signToken_19 ?_
  refine a_putI (j' := 7) dX11_signToken_20 flX11_139 rfl rfl (L209 L) (by decide) rfl ⟨by omega, by omega⟩ ?_
  refine a_aloadn dX11_signToken_23 rfl ?_
  refine b_getI (j' := 9) dX11_signToken_24 flX11_153 rfl rfl (L209 L) (fun hr24 => ?_)
  try simp (disch := omega) only [sm_n, sm_k, us_s, us_n, ← hq] at hr24 ⊢
  refine a_bipush (w := 60) dX11_signToken_27 (by decide) ?_
  refine a_icmp_eq (tgt := 50) dX11_signToken_29 (by decide) ⟨by omega, by omega⟩ ⟨by omega, by omega⟩ (fun hb29 => ?_) (fun hb29 => ?_)
  · exfalso; omega
  · refine a_aloadn dX11_signToken_32 rfl ?_
    refine b_getI (j' := 9) dX11_signToken_33 flX11_153 rfl rfl (L209 L) (fun hr33 => ?_)
    try simp (disch := omega) only [sm_n, sm_k, us_s, us_n, ← hq] at hr33 ⊢
    refine a_bipush (w := 62) dX11_signToken_36 (by decide) ?_
    refine a_icmp_eq (tgt := 50) dX11_signToken_38 (by decide) ⟨by omega, by omega⟩ ⟨by omega, by omega⟩ (fun hb38 => ?_) (fun hb38 => ?_)
    · refine a_aloadn dX11_signToken_50 rfl ?_
      refine b_getI (j' := 7) dX11_signToken_51 flX11_139 rfl rfl (L209 L) (fun hr51 => ?_)
      try simp (disch := omega) only [sm_n, sm_k, us_s, us_n, ← hq] at hr51 ⊢
      refine a_aloadn dX11_signToken_54 rfl ?_
      refine b_getI (j' := 6) dX11_signToken_55 flX11_136 rfl rfl (L209 L) (fun hr55 => ?_)
      try simp (disch := omega) only [sm_n, sm_k, us_s, us_n, ← hq] at hr55 ⊢
      refine a_icmp_ge (tgt := 73) dX11_signToken_58 (by decide) ⟨by omega, by omega⟩ ⟨by omega, by omega⟩ (fun hb58 => ?_) (fun hb58 => ?_)
      · refine a_iconst dX11_signToken_73 ?_
        refine c_istoren (ls' := [_, _, _, _]) dX11_signToken_74 (by decide) rfl rfl ?_
        refine a_aloadn dX11_signToken_75 rfl ?_
        refine b_getI (j' := 9) dX11_signToken_76 flX11_153 rfl rfl (L209 L) (fun hr76 => ?_)
        try simp (disch := omega) only [sm_n, sm_k, us_s, us_n, ← hq] at hr76 ⊢
        refine a_bipush (w := 61) dX11_signToken_79 (by decide) ?_
        refine a_icmp_eq (tgt := 94) dX11_signToken_81 (by decide) ⟨by omega, by omega⟩ ⟨by omega, by omega⟩ (fun hb81 => ?_) (fun hb81 => ?_)
        · exfalso; omega
        · refine a_iloadn dX11_signToken_84 rfl ?_
          refine a_bipush (w := 61) dX11_signToken_85 (by decide) ?_
          refine a_icmp_ne (tgt := 94) dX11_signToken_87 (by decide) ⟨by omega, by omega⟩ ⟨by omega, by omega⟩ (fun hb87 => ?_) (fun hb87 => ?_)
          · refine a_iconst dX11_signToken_94 ?_
            refine c_istoren (ls' := [_, _, _, _]) dX11_signToken_95 (by decide) rfl rfl ?_
            refine a_aloadn dX11_signToken_96 rfl ?_
            refine b_getI (j' := 9) dX11_signToken_97 flX11_153 rfl rfl (L209 L) (fun hr97 => ?_)
            try simp (disch := omega) only [sm_n, sm_k, us_s, us_n, ← hq] at hr97 ⊢
            refine a_bipush (w := 60) dX11_signToken_100 (by decide) ?_
            refine a_icmp_ne (tgt := 115) dX11_signToken_102 (by decide) ⟨by omega, by omega⟩ ⟨by omega, by omega⟩ (fun hb102 => ?_) (fun hb102 => ?_)
            · refine a_iconst dX11_signToken_115 ?_
              refine c_istoren (ls' := [_, _, _, _]) dX11_signToken_116 (by decide) rfl rfl ?_
              refine a_iloadn dX11_signToken_117 rfl ?_
              refine a_if_ne (tgt := 125) dX11_signToken_118 (by decide) ⟨by omega, by omega⟩ (fun hb118 => ?_) (fun hb118 => ?_)
              · exfalso; omega
              · refine a_iloadn dX11_signToken_121 rfl ?_
                refine a_if_eq (tgt := 135) dX11_signToken_122 (by decide) ⟨by omega, by omega⟩ (fun hb122 => ?_) (fun hb122 => ?_)
                · refine a_aloadn dX11_signToken_135 rfl ?_
                  refine a_iconst dX11_signToken_136 ?_
                  refine a_putI (j' := 8) dX11_signToken_137 flX11_142 rfl rfl (L209 L) (by decide) rfl ⟨by omega, by omega⟩ ?_
                  refine a_aloadn dX11_signToken_140 rfl ?_
                  refine a_aloadn dX11_signToken_141 rfl ?_
                  refine b_getI (j' := 9) dX11_signToken_142 flX11_153 rfl rfl (L209 L) (fun hr142 => ?_)
                  try simp (disch := omega) only [sm_n, sm_k, us_s, us_n, ← hq] at hr142 ⊢
                  refine a_bipush (w := 61) dX11_signToken_145 (by decide) ?_
                  refine a_icmp_ne (tgt := 154) dX11_signToken_147 (by decide) ⟨by omega, by omega⟩ ⟨by omega, by omega⟩ (fun hb147 => ?_) (fun hb147 => ?_)
                  · refine a_aloadn dX11_signToken_154 rfl ?_
                    refine b_getI (j' := 9) dX11_signToken_155 flX11_153 rfl rfl (L209 L) (fun hr155 => ?_)
                    try simp (disch := omega) only [sm_n, sm_k, us_s, us_n, ← hq] at hr155 ⊢
                    refine a_bipush (w := 60) dX11_signToken_158 (by decide) ?_
                    refine a_icmp_ne (tgt := 183) dX11_signToken_160 (by decide) ⟨by omega, by omega⟩ ⟨by omega, by omega⟩ (fun hb160 => ?_) (fun hb160 => ?_)
                    · refine a_iloadn dX11_signToken_183 rfl ?_
                      refine a_if_eq (tgt := 191) dX11_signToken_184 (by decide) ⟨by omega, by omega⟩ (fun hb184 => ?_) (fun hb184 => ?_)
                      · refine a_iconst dX11_signToken_191 ?_
                        refine a_putI (j' := 9) dX11_signToken_192 flX11_153 rfl rfl (L209 L) (by decide) rfl ⟨by omega, by omega⟩ ?_
                        refine a_goto (tgt := 290) dX11_signToken_195 (by decide) ?_
                        exact a_return dX11_signToken_290 rfl rfl rfl (zrel_V (by
      refine ⟨?_, ?_, by simp (disch := decide) only [sm_k, us_s, us_n], ?_⟩
      · simp (disch := decide) only [sm_k, us_s, us_n] <;> omega
      · simp (disch := decide) only [sm_k, us_s, us_n]
        exact Or.inr (Or.inr (Or.inr (Or.inr (Or.inr (Or.inl ⟨rfl, rfl, by decide, by decide, by decide⟩)))))
      · repeat (first | exact Fk.rf _ | refine Fk.sm ?_ (by omega) _)))
                      · exfalso; omega
                    · exfalso; omega
                  · exfalso; omega
                · exfalso; omega
            · exfalso; omega
          · exfalso; omega
      · refine a_aloadn dX11_signToken_61 rfl ?_
        refine a_getR (j' := 0) (y := 210) dX11_signToken_62 flX11_7 rfl rfl (L209 L) (p209_0 hP) ?_
        refine a_aloadn dX11_signToken_65 rfl ?_
        refine b_getI (j' := 7) dX11_signToken_66 flX11_139 rfl rfl (L209 L) (fun hr66 => ?_)
        try simp (disch := omega) only [sm_n, sm_k, us_s, us_n, ← hq] at hr66 ⊢
        refine b_iald (N := 700) dX11_signToken_69 (L210 L) (by decide) (by omega) (by omega) (fun hr69 => ?_)
        try simp (disch := omega) only [sm_n, sm_k, us_s, us_n, ← hq] at hr69 ⊢
        refine a_goto (tgt := 74) dX11_signToken_70 (by decide) ?_
        refine c_istoren (ls' := [_, _, _, _]) dX11_signToken_74 (by decide) rfl rfl ?_
        refine a_aloadn dX11_signToken_75 rfl ?_
        refine b_getI (j' := 9) dX11_signToken_76 flX11_153 rfl rfl (L209 L) (fun hr76 => ?_)
        try simp (disch := omega) only [sm_n, sm_k, us_s, us_n, ← hq] at hr76 ⊢
        refine a_bipush (w := 61) dX11_signToken_79 (by decide) ?_
        refine a_icmp_eq (tgt := 94) dX11_signToken_81 (by decide) ⟨by omega, by omega⟩ ⟨by omega, by omega⟩ (fun hb81 => ?_) (fun hb81 => ?_)
        · exfalso; omega
        · refine a_iloadn dX11_signToken_84 rfl ?_
          refine a_bipush (w := 61) dX11_signToken_85 (by decide) ?_
          refine a_icmp_ne (tgt := 94) dX11_signToken_87 (by decide) ⟨by omega, by omega⟩ ⟨by omega, by omega⟩ (fun hb87 => ?_) (fun hb87 => ?_)
          · refine a_iconst dX11_signToken_94 ?_
            refine c_istoren (ls' := [_, _, _, _]) dX11_signToken_95 (by decide) rfl rfl ?_
            refine a_aloadn dX11_signToken_96 rfl ?_
            refine b_getI (j' := 9) dX11_signToken_97 flX11_153 rfl rfl (L209 L) (fun hr97 => ?_)
            try simp (disch := omega) only [sm_n, sm_k, us_s, us_n, ← hq] at hr97 ⊢
            refine a_bipush (w := 60) dX11_signToken_100 (by decide) ?_
            refine a_icmp_ne (tgt := 115) dX11_signToken_102 (by decide) ⟨by omega, by omega⟩ ⟨by omega, by omega⟩ (fun hb102 => ?_) (fun hb102 => ?_)
            · refine a_iconst dX11_signToken_115 ?_
              refine c_istoren (ls' := [_, _, _, _]) dX11_signToken_116 (by decide) rfl rfl ?_
              refine a_iloadn dX11_signToken_117 rfl ?_
              refine a_if_ne (tgt := 125) dX11_signToken_118 (by decide) ⟨by omega, by omega⟩ (fun hb118 => ?_) (fun hb118 => ?_)
              · exfalso; omega
              · refine a_iloadn dX11_signToken_121 rfl ?_
                refine a_if_eq (tgt := 135) dX11_signToken_122 (by decide) ⟨by omega, by omega⟩ (fun hb122 => ?_) (fun hb122 => ?_)
                · refine a_aloadn dX11_signToken_135 rfl ?_
                  refine a_iconst dX11_signToken_136 ?_
                  refine a_putI (j' := 8) dX11_signToken_137 flX11_142 rfl rfl (L209 L) (by decide) rfl ⟨by omega, by omega⟩ ?_
                  refine a_aloadn dX11_signToken_140 rfl ?_
                  refine a_aloadn dX11_signToken_141 rfl ?_
                  refine b_getI (j' := 9) dX11_signToken_142 flX11_153 rfl rfl (L209 L) (fun hr142 => ?_)
                  try simp (disch := omega) only [sm_n, sm_k, us_s, us_n, ← hq] at hr142 ⊢
                  refine a_bipush (w := 61) dX11_signToken_145 (by decide) ?_
                  refine a_icmp_ne (tgt := 154) dX11_signToken_147 (by decide) ⟨by omega, by omega⟩ ⟨by omega, by omega⟩ (fun hb147 => ?_) (fun hb147 => ?_)
                  · refine a_aloadn dX11_signToken_154 rfl ?_
                    refine b_getI (j' := 9) dX11_signToken_155 flX11_153 rfl rfl (L209 L) (fun hr155 => ?_)
                    try simp (disch := omega) only [sm_n, sm_k, us_s, us_n, ← hq] at hr155 ⊢
                    refine a_bipush (w := 60) dX11_signToken_158 (by decide) ?_
                    refine a_icmp_ne (tgt := 183) dX11_signToken_160 (by decide) ⟨by omega, by omega⟩ ⟨by omega, by omega⟩ (fun hb160 => ?_) (fun hb160 => ?_)
                    · refine a_iloadn dX11_signToken_183 rfl ?_
                      refine a_if_eq (tgt := 191) dX11_signToken_184 (by decide) ⟨by omega, by omega⟩ (fun hb184 => ?_) (fun hb184 => ?_)
                      · refine a_iconst dX11_signToken_191 ?_
                        refine a_putI (j' := 9) dX11_signToken_192 flX11_153 rfl rfl (L209 L) (by decide) rfl ⟨by omega, by omega⟩ ?_
                        refine a_goto (tgt := 290) dX11_signToken_195 (by decide) ?_
                        exact a_return dX11_signToken_290 rfl rfl rfl (zrel_V (by
      refine ⟨?_, ?_, by simp (disch := decide) only [sm_k, us_s, us_n], ?_⟩
      · simp (disch := decide) only [sm_k, us_s, us_n] <;> omega
      · simp (disch := decide) only [sm_k, us_s, us_n]
        exact Or.inr (Or.inr (Or.inr (Or.inr (Or.inr (Or.inl ⟨rfl, rfl, by decide, by decide, by decide⟩)))))
      · repeat (first | exact Fk.rf _ | refine Fk.sm ?_ (by omega) _)))
                      · exfalso; omega
                    · exfalso; omega
                  · exfalso; omega
                · exfalso; omega
            · exfalso; omega
          · exfalso; omega
    · exfalso; omega

set_option maxRecDepth 100000 in
set_option maxHeartbeats 4000000 in
theorem m_signT_f {G : zG} {l : Launch} {L : Nat} {P : zP} {M : zM} {q : Int} (hP : PFok P) (hq : q = M 209 7) (hn : 0 ≤ q ∧ q < M 209 6 ∧ M 209 6 ≤ 700) (hc : M 210 q = 61) : AM G l yX11_signToken mdX11_signToken [aR 209] (LAY L) P M (zrel none (LAY L) P (fun M' => M' 209 7 = q + 1 ∧ TKq 5 5 (M' 209 8) (M' 209 9) ∧ M' 209 10 = M 209 10 ∧ Fk M M')) := by
  refine AM.go [some (aR 209), none, none, none] rfl (Nat.le_of_ble_eq_true rfl) ?_ (by decide) rfl rfl
  refine a_aloadn dX11_signToken_0 rfl ?_
  refine a_aloadn dX11_signToken_1 rfl ?_
  refine a_getR (j' := 0) (y := 210) dX11_signToken_2 flX11_7 rfl rfl (L209 L) (p209_0 hP) ?_
  refine a_aloadn dX11_signToken_5 rfl ?_
  refine b_getI (j' := 7) dX11_signToken_6 flX11_139 rfl rfl (L209 L) (fun hr6 => ?_)
  try simp (disch := omega) only [sm_n, sm_k, us_s, us_n, ← hq] at hr6 ⊢
  refine b_iald (N := 700) dX11_signToken_9 (L210 L) (by decide) (by omega) (by omega) (fun hr9 => ?_)
  try simp (disch := omega) only [sm_n, sm_k, us_s, us_n, ← hq] at hr9 ⊢
  refine a_putI (j' := 9) dX11_signToken_10 flX11_153 rfl rfl (L209 L) (by decide) rfl hr9 ?_
  refine a_aloadn dX11_signToken_13 rfl ?_
  refine a_dupR dX11_signToken_14 ?_
  refine b_getI (j' := 7) dX11_signToken_15 flX11_139 rfl rfl (L209 L) (fun hr15 => ?_)
  try simp (disch := omega) only [sm_n, sm_k, us_s, us_n, ← hq] at hr15 ⊢
  refine a_iconst dX11_signToken_18 ?_
  refine a_iadd dX11_signToken_19 ?_
  refine a_putI (j' := 7) dX11_signToken_20 flX11_139 rfl rfl (L209 L) (by decide) rfl ⟨by omega, by omega⟩ ?_
  refine a_aloadn dX11_signToken_23 rfl ?_
  refine b_getI (j' := 9) dX11_signToken_24 flX11_153 rfl rfl (L209 L) (fun hr24 => ?_)
  try simp (disch := omega) only [sm_n, sm_k, us_s, us_n, ← hq] at hr24 ⊢
  refine a_bipush (w := 60) dX11_signToken_27 (by decide) ?_
  refine a_icmp_eq (tgt := 50) dX11_signToken_29 (by decide) ⟨by omega, by omega⟩ ⟨by omega, by omega⟩ (fun hb29 => ?_) (fun hb29 => ?_)
  · exfalso; omega
  · refine a_aloadn dX11_signToken_32 rfl ?_
    refine b_getI (j' := 9) dX11_signToken_33 flX11_153 rfl rfl (L209 L) (fun hr33 => ?_)
    try simp (disch := omega) only [sm_n, sm_k, us_s, us_n, ← hq] at hr33 ⊢
    refine a_bipush (w := 62) dX11_signToken_36 (by decide) ?_
    refine a_icmp_eq (tgt := 50) dX11_signToken_38 (by decide) ⟨by omega, by omega⟩ ⟨by omega, by omega⟩ (fun hb38 => ?_) (fun hb38 => ?_)
    · exfalso; omega
    · refine a_aloadn dX11_signToken_41 rfl ?_
      refine b_getI (j' := 9) dX11_signToken_42 flX11_153 rfl rfl (L209 L) (fun hr42 => ?_)
      try simp (disch := omega) only [sm_n, sm_k, us_s, us_n, ← hq] at hr42 ⊢
      refine a_bipush (w := 61) dX11_signToken_45 (by decide) ?_
      refine a_icmp_ne (tgt := 198) dX11_signToken_47 (by decide) ⟨by omega, by omega⟩ ⟨by omega, by omega⟩ (fun hb47 => ?_) (fun hb47 => ?_)
      · exfalso; omega
      · refine a_aloadn dX11_signToken_50 rfl ?_
        refine b_getI (j' := 7) dX11_signToken_51 flX11_139 rfl rfl (L209 L) (fun hr51 => ?_)
        try simp (disch := omega) only [sm_n, sm_k, us_s, us_n, ← hq] at hr51 ⊢
        refine a_aloadn dX11_signToken_54 rfl ?_
        refine b_getI (j' := 6) dX11_signToken_55 flX11_136 rfl rfl (L209 L) (fun hr55 => ?_)
        try simp (disch := omega) only [sm_n, sm_k, us_s, us_n, ← hq] at hr55 ⊢
        refine a_icmp_ge (tgt := 73) dX11_signToken_58 (by decide) ⟨by omega, by omega⟩ ⟨by omega, by omega⟩ (fun hb58 => ?_) (fun hb58 => ?_)
        · refine a_iconst dX11_signToken_73 ?_
          refine c_istoren (ls' := [_, _, _, _]) dX11_signToken_74 (by decide) rfl rfl ?_
          refine a_aloadn dX11_signToken_75 rfl ?_
          refine b_getI (j' := 9) dX11_signToken_76 flX11_153 rfl rfl (L209 L) (fun hr76 => ?_)
          try simp (disch := omega) only [sm_n, sm_k, us_s, us_n, ← hq] at hr76 ⊢
          refine a_bipush (w := 61) dX11_signToken_79 (by decide) ?_
          refine a_icmp_eq (tgt := 94) dX11_signToken_81 (by decide) ⟨by omega, by omega⟩ ⟨by omega, by omega⟩ (fun hb81 => ?_) (fun hb81 => ?_)
          · refine a_iconst dX11_signToken_94 ?_
            refine c_istoren (ls' := [_, _, _, _]) dX11_signToken_95 (by decide) rfl rfl ?_
            refine a_aloadn dX11_signToken_96 rfl ?_
            refine b_getI (j' := 9) dX11_signToken_97 flX11_153 rfl rfl (L209 L) (fun hr97 => ?_)
            try simp (disch := omega) only [sm_n, sm_k, us_s, us_n, ← hq] at hr97 ⊢
            refine a_bipush (w := 60) dX11_signToken_100 (by decide) ?_
            refine a_icmp_ne (tgt := 115) dX11_signToken_102 (by decide) ⟨by omega, by omega⟩ ⟨by omega, by omega⟩ (fun hb102 => ?_) (fun hb102 => ?_)
            · refine a_iconst dX11_signToken_115 ?_
              refine c_istoren (ls' := [_, _, _, _]) dX11_signToken_116 (by decide) rfl rfl ?_
              refine a_iloadn dX11_signToken_117 rfl ?_
              refine a_if_ne (tgt := 125) dX11_signToken_118 (by decide) ⟨by omega, by omega⟩ (fun hb118 => ?_) (fun hb118 => ?_)
              · exfalso; omega
              · refine a_iloadn dX11_signToken_121 rfl ?_
                refine a_if_eq (tgt := 135) dX11_signToken_122 (by decide) ⟨by omega, by omega⟩ (fun hb122 => ?_) (fun hb122 => ?_)
                · refine a_aloadn dX11_signToken_135 rfl ?_
                  refine a_iconst dX11_signToken_136 ?_
                  refine a_putI (j' := 8) dX11_signToken_137 flX11_142 rfl rfl (L209 L) (by decide) rfl ⟨by omega, by omega⟩ ?_
                  refine a_aloadn dX11_signToken_140 rfl ?_
                  refine a_aloadn dX11_signToken_141 rfl ?_
                  refine b_getI (j' := 9) dX11_signToken_142 flX11_153 rfl rfl (L209 L) (fun hr142 => ?_)
                  try simp (disch := omega) only [sm_n, sm_k, us_s, us_n, ← hq] at hr142 ⊢
                  refine a_bipush (w := 61) dX11_signToken_145 (by decide) ?_
                  refine a_icmp_ne (tgt := 154) dX11_signToken_147 (by decide) ⟨by omega, by omega⟩ ⟨by omega, by omega⟩ (fun hb147 => ?_) (fun hb147 => ?_)
                  · exfalso; omega
                  · refine a_iconst dX11_signToken_150 ?_
                    refine a_goto (tgt := 192) dX11_signToken_151 (by decide) ?_
                    refine a_putI (j' := 9) dX11_signToken_192 flX11_153 rfl rfl (L209 L) (by decide) rfl ⟨by omega, by omega⟩ ?_
                    refine a_goto (tgt := 290) dX11_signToken_195 (by decide) ?_
                    exact a_return dX11_signToken_290 rfl rfl rfl (zrel_V (by
      refine ⟨?_, ?_, by simp (disch := decide) only [sm_k, us_s, us_n], ?_⟩
      · simp (disch := decide) only [sm_k, us_s, us_n] <;> omega
      · simp (disch := decide) only [sm_k, us_s, us_n]
        exact Or.inr (Or.inr (Or.inr (Or.inr (Or.inr (Or.inl ⟨rfl, rfl, by decide, by decide, by decide⟩)))))
      · repeat (first | exact Fk.rf _ | refine Fk.sm ?_ (by omega) _)))
                · exfalso; omega
            · exfalso; omega
          · exfalso; omega
        · refine a_aloadn dX11_signToken_61 rfl ?_
          refine a_getR (j' := 0) (y := 210) dX11_signToken_62 flX11_7 rfl rfl (L209 L) (p209_0 hP) ?_
          refine a_aloadn dX11_signToken_65 rfl ?_
          refine b_getI (j' := 7) dX11_signToken_66 flX11_139 rfl rfl (L209 L) (fun hr66 => ?_)
          try simp (disch := omega) only [sm_n, sm_k, us_s, us_n, ← hq] at hr66 ⊢
          refine b_iald (N := 700) dX11_signToken_69 (L210 L) (by decide) (by omega) (by omega) (fun hr69 => ?_)
          try simp (disch := omega) only [sm_n, sm_k, us_s, us_n, ← hq] at hr69 ⊢
          refine a_goto (tgt := 74) dX11_signToken_70 (by decide) ?_
          refine c_istoren (ls' := [_, _, _, _]) dX11_signToken_74 (by decide) rfl rfl ?_
          refine a_aloadn dX11_signToken_75 rfl ?_
          refine b_getI (j' := 9) dX11_signToken_76 flX11_153 rfl rfl (L209 L) (fun hr76 => ?_)
          try simp (disch := omega) only [sm_n, sm_k, us_s, us_n, ← hq] at hr76 ⊢
          refine a_bipush (w := 61) dX11_signToken_79 (by decide) ?_
          refine a_icmp_eq (tgt := 94) dX11_signToken_81 (by decide) ⟨by omega, by omega⟩ ⟨by omega, by omega⟩ (fun hb81 => ?_) (fun hb81 => ?_)
          · refine a_iconst dX11_signToken_94 ?_
            refine c_istoren (ls' := [_, _, _, _]) dX11_signToken_95 (by decide) rfl rfl ?_
            refine a_aloadn dX11_signToken_96 rfl ?_
            refine b_getI (j' := 9) dX11_signToken_97 flX11_153 rfl rfl (L209 L) (fun hr97 => ?_)
            try simp (disch := omega) only [sm_n, sm_k, us_s, us_n, ← hq] at hr97 ⊢
            refine a_bipush (w := 60) dX11_signToken_100 (by decide) ?_
            refine a_icmp_ne (tgt := 115) dX11_signToken_102 (by decide) ⟨by omega, by omega⟩ ⟨by omega, by omega⟩ (fun hb102 => ?_) (fun hb102 => ?_)
            · refine a_iconst dX11_signToken_115 ?_
              refine c_istoren (ls' := [_, _, _, _]) dX11_signToken_116 (by decide) rfl rfl ?_
              refine a_iloadn dX11_signToken_117 rfl ?_
              refine a_if_ne (tgt := 125) dX11_signToken_118 (by decide) ⟨by omega, by omega⟩ (fun hb118 => ?_) (fun hb118 => ?_)
              · exfalso; omega
              · refine a_iloadn dX11_signToken_121 rfl ?_
                refine a_if_eq (tgt := 135) dX11_signToken_122 (by decide) ⟨by omega, by omega⟩ (fun hb122 => ?_) (fun hb122 => ?_)
                · refine a_aloadn dX11_signToken_135 rfl ?_
                  refine a_iconst dX11_signToken_136 ?_
                  refine a_putI (j' := 8) dX11_signToken_137 flX11_142 rfl rfl (L209 L) (by decide) rfl ⟨by omega, by omega⟩ ?_
                  refine a_aloadn dX11_signToken_140 rfl ?_
                  refine a_aloadn dX11_signToken_141 rfl ?_
                  refine b_getI (j' := 9) dX11_signToken_142 flX11_153 rfl rfl (L209 L) (fun hr142 => ?_)
                  try simp (disch := omega) only [sm_n, sm_k, us_s, us_n, ← hq] at hr142 ⊢
                  refine a_bipush (w := 61) dX11_signToken_145 (by decide) ?_
                  refine a_icmp_ne (tgt := 154) dX11_signToken_147 (by decide) ⟨by omega, by omega⟩ ⟨by omega, by omega⟩ (fun hb147 => ?_) (fun hb147 => ?_)
                  · exfalso; omega
                  · refine a_iconst dX11_signToken_150 ?_
                    refine a_goto (tgt := 192) dX11_signToken_151 (by decide) ?_
                    refine a_putI (j' := 9) dX11_signToken_192 flX11_153 rfl rfl (L209 L) (by decide) rfl ⟨by omega, by omega⟩ ?_
                    refine a_goto (tgt := 290) dX11_signToken_195 (by decide) ?_
                    exact a_return dX11_signToken_290 rfl rfl rfl (zrel_V (by
      refine ⟨?_, ?_, by simp (disch := decide) only [sm_k, us_s, us_n], ?_⟩
      · simp (disch := decide) only [sm_k, us_s, us_n] <;> omega
      · simp (disch := decide) only [sm_k, us_s, us_n]
        exact Or.inr (Or.inr (Or.inr (Or.inr (Or.inr (Or.inl ⟨rfl, rfl, by decide, by decide, by decide⟩)))))
      · repeat (first | exact Fk.rf _ | refine Fk.sm ?_ (by omega) _)))
                · exfalso; omega
            · exfalso; omega
          · exfalso; omega

set_option maxRecDepth 100000 in
set_option maxHeartbeats 4000000 in
theorem m_signT_g {G : zG} {l : Launch} {L : Nat} {P : zP} {M : zM} {q : Int} (hP : PFok P) (hq : q = M 209 7) (hn : 0 ≤ q ∧ q < M 209 6 ∧ M 209 6 ≤ 700) (hc : M 210 q = 43) : AM G l yX11_signToken mdX11_signToken [aR 209] (LAY L) P M (zrel none (LAY L) P (fun M' => M' 209 7 = q + 1 ∧ TKq 5 9 (M' 209 8) (M' 209 9) ∧ M' 209 10 = M 209 10 ∧ Fk M M')) := by
  refine AM.go [some (aR 209), none, none, none] rfl (Nat.le_of_ble_eq_true rfl) ?_ (by decide) rfl rfl
  refine a_aloadn dX11_signToken_0 rfl ?_
  refine a_aloadn dX11_signToken_1 rfl ?_
  refine a_getR (j' := 0) (y := 210) dX11_signToken_2 flX11_7 rfl rfl (L209 L) (p209_0 hP) ?_
  refine a_aloadn dX11_signToken_5 rfl ?_
  refine b_getI (j' := 7) dX11_signToken_6 flX11_139 rfl rfl (L209 L) (fun hr6 => ?_)
  try simp (disch := omega) only [sm_n, sm_k, us_s, us_n, ← hq] at hr6 ⊢
  refine b_iald (N := 700) dX11_signToken_9 (L210 L) (by decide) (by omega) (by omega) (fun hr9 => ?_)
  try simp (disch := omega) only [sm_n, sm_k, us_s, us_n, ← hq] at hr9 ⊢
  refine a_putI (j' := 9) dX11_signToken_10 flX11_153 rfl rfl (L209 L) (by decide) rfl hr9 ?_
  refine a_aloadn dX11_signToken_13 rfl ?_
  refine a_dupR dX11_signToken_14 ?_
  refine b_getI (j' := 7) dX11_signToken_15 flX11_139 rfl rfl (L209 L) (fun hr15 => ?_)
  try simp (disch := omega) only [sm_n, sm_k, us_s, us_n, ← hq] at hr15 ⊢
  refine a_iconst dX11_signToken_18 ?_
  refine a_iadd dX11_signToken_19 ?_
  refine a_putI (j' := 7) dX11_signToken_20 flX11_139 rfl rfl (L209 L) (by decide) rfl ⟨by omega, by omega⟩ ?_
  refine a_aloadn dX11_signToken_23 rfl ?_
  refine b_getI (j' := 9) dX11_signToken_24 flX11_153 rfl rfl (L209 L) (fun hr24 => ?_)
  try simp (disch := omega) only [sm_n, sm_k, us_s, us_n, ← hq] at hr24 ⊢
  refine a_bipush (w := 60) dX11_signToken_27 (by decide) ?_
  refine a_icmp_eq (tgt := 50) dX11_signToken_29 (by decide) ⟨by omega, by omega⟩ ⟨by omega, by omega⟩ (fun hb29 => ?_) (fun hb29 => ?_)
  · exfalso; omega
  · refine a_aloadn dX11_signToken_32 rfl ?_
    refine b_getI (j' := 9) dX11_signToken_33 flX11_153 rfl rfl (L209 L) (fun hr33 => ?_)
    try simp (disch := omega) only [sm_n, sm_k, us_s, us_n, ← hq] at hr33 ⊢
    refine a_bipush (w := 62) dX11_signToken_36 (by decide) ?_
    refine a_icmp_eq (tgt := 50) dX11_signToken_38 (by decide) ⟨by omega, by omega⟩ ⟨by omega, by omega⟩ (fun hb38 => ?_) (fun hb38 => ?_)
    · exfalso; omega
    · refine a_aloadn dX11_signToken_41 rfl ?_
      refine b_getI (j' := 9) dX11_signToken_42 flX11_153 rfl rfl (L209 L) (fun hr42 => ?_)
      try simp (disch := omega) only [sm_n, sm_k, us_s, us_n, ← hq] at hr42 ⊢
      refine a_bipush (w := 61) dX11_signToken_45 (by decide) ?_
      refine a_icmp_ne (tgt := 198) dX11_signToken_47 (by decide) ⟨by omega, by omega⟩ ⟨by omega, by omega⟩ (fun hb47 => ?_) (fun hb47 => ?_)
      · refine a_aloadn dX11_signToken_198 rfl ?_
        refine b_getI (j' := 9) dX11_signToken_199 flX11_153 rfl rfl (L209 L) (fun hr199 => ?_)
        try simp (disch := omega) only [sm_n, sm_k, us_s, us_n, ← hq] at hr199 ⊢
        refine a_bipush (w := 59) dX11_signToken_202 (by decide) ?_
        refine a_icmp_eq (tgt := 270) dX11_signToken_204 (by decide) ⟨by omega, by omega⟩ ⟨by omega, by omega⟩ (fun hb204 => ?_) (fun hb204 => ?_)
        · exfalso; omega
        · refine a_aloadn dX11_signToken_207 rfl ?_
          refine b_getI (j' := 9) dX11_signToken_208 flX11_153 rfl rfl (L209 L) (fun hr208 => ?_)
          try simp (disch := omega) only [sm_n, sm_k, us_s, us_n, ← hq] at hr208 ⊢
          refine a_bipush (w := 40) dX11_signToken_211 (by decide) ?_
          refine a_icmp_eq (tgt := 270) dX11_signToken_213 (by decide) ⟨by omega, by omega⟩ ⟨by omega, by omega⟩ (fun hb213 => ?_) (fun hb213 => ?_)
          · exfalso; omega
          · refine a_aloadn dX11_signToken_216 rfl ?_
            refine b_getI (j' := 9) dX11_signToken_217 flX11_153 rfl rfl (L209 L) (fun hr217 => ?_)
            try simp (disch := omega) only [sm_n, sm_k, us_s, us_n, ← hq] at hr217 ⊢
            refine a_bipush (w := 41) dX11_signToken_220 (by decide) ?_
            refine a_icmp_eq (tgt := 270) dX11_signToken_222 (by decide) ⟨by omega, by omega⟩ ⟨by omega, by omega⟩ (fun hb222 => ?_) (fun hb222 => ?_)
            · exfalso; omega
            · refine a_aloadn dX11_signToken_225 rfl ?_
              refine b_getI (j' := 9) dX11_signToken_226 flX11_153 rfl rfl (L209 L) (fun hr226 => ?_)
              try simp (disch := omega) only [sm_n, sm_k, us_s, us_n, ← hq] at hr226 ⊢
              refine a_bipush (w := 43) dX11_signToken_229 (by decide) ?_
              refine a_icmp_eq (tgt := 270) dX11_signToken_231 (by decide) ⟨by omega, by omega⟩ ⟨by omega, by omega⟩ (fun hb231 => ?_) (fun hb231 => ?_)
              · refine a_iconst dX11_signToken_270 ?_
                refine a_goto (tgt := 275) dX11_signToken_271 (by decide) ?_
                refine c_istoren (ls' := [_, _, _, _]) dX11_signToken_275 (by decide) rfl rfl ?_
                refine a_aloadn dX11_signToken_276 rfl ?_
                refine a_iloadn dX11_signToken_277 rfl ?_
                refine a_if_eq (tgt := 285) dX11_signToken_278 (by decide) ⟨by omega, by omega⟩ (fun hb278 => ?_) (fun hb278 => ?_)
                · exfalso; omega
                · refine a_iconst dX11_signToken_281 ?_
                  refine a_goto (tgt := 287) dX11_signToken_282 (by decide) ?_
                  refine a_putI (j' := 8) dX11_signToken_287 flX11_142 rfl rfl (L209 L) (by decide) rfl ⟨by omega, by omega⟩ ?_
                  exact a_return dX11_signToken_290 rfl rfl rfl (zrel_V (by
      refine ⟨?_, ?_, by simp (disch := decide) only [sm_k, us_s, us_n], ?_⟩
      · simp (disch := decide) only [sm_k, us_s, us_n] <;> omega
      · simp (disch := decide) only [sm_k, us_s, us_n]
        exact Or.inr (Or.inr (Or.inr (Or.inr (Or.inr (Or.inr ⟨rfl, rfl, Or.inl ⟨hc, rfl⟩⟩)))))
      · repeat (first | exact Fk.rf _ | refine Fk.sm ?_ (by omega) _)))
              · exfalso; omega
      · exfalso; omega

set_option maxRecDepth 100000 in
set_option maxHeartbeats 4000000 in
theorem m_signT_h {G : zG} {l : Launch} {L : Nat} {P : zP} {M : zM} {q : Int} (hP : PFok P) (hq : q = M 209 7) (hn : 0 ≤ q ∧ q < M 209 6 ∧ M 209 6 ≤ 700) (hc : M 210 q = 45) : AM G l yX11_signToken mdX11_signToken [aR 209] (LAY L) P M (zrel none (LAY L) P (fun M' => M' 209 7 = q + 1 ∧ TKq 5 10 (M' 209 8) (M' 209 9) ∧ M' 209 10 = M 209 10 ∧ Fk M M')) := by
  refine AM.go [some (aR 209), none, none, none] rfl (Nat.le_of_ble_eq_true rfl) ?_ (by decide) rfl rfl
  refine a_aloadn dX11_signToken_0 rfl ?_
  refine a_aloadn dX11_signToken_1 rfl ?_
  refine a_getR (j' := 0) (y := 210) dX11_signToken_2 flX11_7 rfl rfl (L209 L) (p209_0 hP) ?_
  refine a_aloadn dX11_signToken_5 rfl ?_
  refine b_getI (j' := 7) dX11_signToken_6 flX11_139 rfl rfl (L209 L) (fun hr6 => ?_)
  try simp (disch := omega) only [sm_n, sm_k, us_s, us_n, ← hq] at hr6 ⊢
  refine b_iald (N := 700) dX11_signToken_9 (L210 L) (by decide) (by omega) (by omega) (fun hr9 => ?_)
  try simp (disch := omega) only [sm_n, sm_k, us_s, us_n, ← hq] at hr9 ⊢
  refine a_putI (j' := 9) dX11_signToken_10 flX11_153 rfl rfl (L209 L) (by decide) rfl hr9 ?_
  refine a_aloadn dX11_signToken_13 rfl ?_
  refine a_dupR dX11_signToken_14 ?_
  refine b_getI (j' := 7) dX11_signToken_15 flX11_139 rfl rfl (L209 L) (fun hr15 => ?_)
  try simp (disch := omega) only [sm_n, sm_k, us_s, us_n, ← hq] at hr15 ⊢
  refine a_iconst dX11_signToken_18 ?_
  refine a_iadd dX11_signToken_19 ?_
  refine a_putI (j' := 7) dX11_signToken_20 flX11_139 rfl rfl (L209 L) (by decide) rfl ⟨by omega, by omega⟩ ?_
  refine a_aloadn dX11_signToken_23 rfl ?_
  refine b_getI (j' := 9) dX11_signToken_24 flX11_153 rfl rfl (L209 L) (fun hr24 => ?_)
  try simp (disch := omega) only [sm_n, sm_k, us_s, us_n, ← hq] at hr24 ⊢
  refine a_bipush (w := 60) dX11_signToken_27 (by decide) ?_
  refine a_icmp_eq (tgt := 50) dX11_signToken_29 (by decide) ⟨by omega, by omega⟩ ⟨by omega, by omega⟩ (fun hb29 => ?_) (fun hb29 => ?_)
  · exfalso; omega
  · refine a_aloadn dX11_signToken_32 rfl ?_
    refine b_getI (j' := 9) dX11_signToken_33 flX11_153 rfl rfl (L209 L) (fun hr33 => ?_)
    try simp (disch := omega) only [sm_n, sm_k, us_s, us_n, ← hq] at hr33 ⊢
    refine a_bipush (w := 62) dX11_signToken_36 (by decide) ?_
    refine a_icmp_eq (tgt := 50) dX11_signToken_38 (by decide) ⟨by omega, by omega⟩ ⟨by omega, by omega⟩ (fun hb38 => ?_) (fun hb38 => ?_)
    · exfalso; omega
    · refine a_aloadn dX11_signToken_41 rfl ?_
      refine b_getI (j' := 9) dX11_signToken_42 flX11_153 rfl rfl (L209 L) (fun hr42 => ?_)
      try simp (disch := omega) only [sm_n, sm_k, us_s, us_n, ← hq] at hr42 ⊢
      refine a_bipush (w := 61) dX11_signToken_45 (by decide) ?_
      refine a_icmp_ne (tgt := 198) dX11_signToken_47 (by decide) ⟨by omega, by omega⟩ ⟨by omega, by omega⟩ (fun hb47 => ?_) (fun hb47 => ?_)
      · refine a_aloadn dX11_signToken_198 rfl ?_
        refine b_getI (j' := 9) dX11_signToken_199 flX11_153 rfl rfl (L209 L) (fun hr199 => ?_)
        try simp (disch := omega) only [sm_n, sm_k, us_s, us_n, ← hq] at hr199 ⊢
        refine a_bipush (w := 59) dX11_signToken_202 (by decide) ?_
        refine a_icmp_eq (tgt := 270) dX11_signToken_204 (by decide) ⟨by omega, by omega⟩ ⟨by omega, by omega⟩ (fun hb204 => ?_) (fun hb204 => ?_)
        · exfalso; omega
        · refine a_aloadn dX11_signToken_207 rfl ?_
          refine b_getI (j' := 9) dX11_signToken_208 flX11_153 rfl rfl (L209 L) (fun hr208 => ?_)
          try simp (disch := omega) only [sm_n, sm_k, us_s, us_n, ← hq] at hr208 ⊢
          refine a_bipush (w := 40) dX11_signToken_211 (by decide) ?_
          refine a_icmp_eq (tgt := 270) dX11_signToken_213 (by decide) ⟨by omega, by omega⟩ ⟨by omega, by omega⟩ (fun hb213 => ?_) (fun hb213 => ?_)
          · exfalso; omega
          · refine a_aloadn dX11_signToken_216 rfl ?_
            refine b_getI (j' := 9) dX11_signToken_217 flX11_153 rfl rfl (L209 L) (fun hr217 => ?_)
            try simp (disch := omega) only [sm_n, sm_k, us_s, us_n, ← hq] at hr217 ⊢
            refine a_bipush (w := 41) dX11_signToken_220 (by decide) ?_
            refine a_icmp_eq (tgt := 270) dX11_signToken_222 (by decide) ⟨by omega, by omega⟩ ⟨by omega, by omega⟩ (fun hb222 => ?_) (fun hb222 => ?_)
            · exfalso; omega
            · refine a_aloadn dX11_signToken_225 rfl ?_
              refine b_getI (j' := 9) dX11_signToken_226 flX11_153 rfl rfl (L209 L) (fun hr226 => ?_)
              try simp (disch := omega) only [sm_n, sm_k, us_s, us_n, ← hq] at hr226 ⊢
              refine a_bipush (w := 43) dX11_signToken_229 (by decide) ?_
              refine a_icmp_eq (tgt := 270) dX11_signToken_231 (by decide) ⟨by omega, by omega⟩ ⟨by omega, by omega⟩ (fun hb231 => ?_) (fun hb231 => ?_)
              · exfalso; omega
              · refine a_aloadn dX11_signToken_234 rfl ?_
                refine b_getI (j' := 9) dX11_signToken_235 flX11_153 rfl rfl (L209 L) (fun hr235 => ?_)
                try simp (disch := omega) only [sm_n, sm_k, us_s, us_n, ← hq] at hr235 ⊢
                refine a_bipush (w := 45) dX11_signToken_238 (by decide) ?_
                refine a_icmp_eq (tgt := 270) dX11_signToken_240 (by decide) ⟨by omega, by omega⟩ ⟨by omega, by omega⟩ (fun hb240 => ?_) (fun hb240 => ?_)
                · refine a_iconst dX11_signToken_270 ?_
                  refine a_goto (tgt := 275) dX11_signToken_271 (by decide) ?_
                  refine c_istoren (ls' := [_, _, _, _]) dX11_signToken_275 (by decide) rfl rfl ?_
                  refine a_aloadn dX11_signToken_276 rfl ?_
                  refine a_iloadn dX11_signToken_277 rfl ?_
                  refine a_if_eq (tgt := 285) dX11_signToken_278 (by decide) ⟨by omega, by omega⟩ (fun hb278 => ?_) (fun hb278 => ?_)
                  · exfalso; omega
                  · refine a_iconst dX11_signToken_281 ?_
                    refine a_goto (tgt := 287) dX11_signToken_282 (by decide) ?_
                    refine a_putI (j' := 8) dX11_signToken_287 flX11_142 rfl rfl (L209 L) (by decide) rfl ⟨by omega, by omega⟩ ?_
                    exact a_return dX11_signToken_290 rfl rfl rfl (zrel_V (by
      refine ⟨?_, ?_, by simp (disch := decide) only [sm_k, us_s, us_n], ?_⟩
      · simp (disch := decide) only [sm_k, us_s, us_n] <;> omega
      · simp (disch := decide) only [sm_k, us_s, us_n]
        exact Or.inr (Or.inr (Or.inr (Or.inr (Or.inr (Or.inr ⟨rfl, rfl, Or.inr (Or.inl ⟨hc, rfl⟩)⟩)))))
      · repeat (first | exact Fk.rf _ | refine Fk.sm ?_ (by omega) _)))
                · exfalso; omega
      · exfalso; omega

set_option maxRecDepth 100000 in
set_option maxHeartbeats 4000000 in
theorem m_signT_i {G : zG} {l : Launch} {L : Nat} {P : zP} {M : zM} {q : Int} (hP : PFok P) (hq : q = M 209 7) (hn : 0 ≤ q ∧ q < M 209 6 ∧ M 209 6 ≤ 700) (hc : M 210 q = 42) : AM G l yX11_signToken mdX11_signToken [aR 209] (LAY L) P M (zrel none (LAY L) P (fun M' => M' 209 7 = q + 1 ∧ TKq 5 11 (M' 209 8) (M' 209 9) ∧ M' 209 10 = M 209 10 ∧ Fk M M')) := by
  refine AM.go [some (aR 209), none, none, none] rfl (Nat.le_of_ble_eq_true rfl) ?_ (by decide) rfl rfl
  refine a_aloadn dX11_signToken_0 rfl ?_
  refine a_aloadn dX11_signToken_1 rfl ?_
  refine a_getR (j' := 0) (y := 210) dX11_signToken_2 flX11_7 rfl rfl (L209 L) (p209_0 hP) ?_
  refine a_aloadn dX11_signToken_5 rfl ?_
  refine b_getI (j' := 7) dX11_signToken_6 flX11_139 rfl rfl (L209 L) (fun hr6 => ?_)
  try simp (disch := omega) only [sm_n, sm_k, us_s, us_n, ← hq] at hr6 ⊢
  refine b_iald (N := 700) dX11_signToken_9 (L210 L) (by decide) (by omega) (by omega) (fun hr9 => ?_)
  try simp (disch := omega) only [sm_n, sm_k, us_s, us_n, ← hq] at hr9 ⊢
  refine a_putI (j' := 9) dX11_signToken_10 flX11_153 rfl rfl (L209 L) (by decide) rfl hr9 ?_
  refine a_aloadn dX11_signToken_13 rfl ?_
  refine a_dupR dX11_signToken_14 ?_
  refine b_getI (j' := 7) dX11_signToken_15 flX11_139 rfl rfl (L209 L) (fun hr15 => ?_)
  try simp (disch := omega) only [sm_n, sm_k, us_s, us_n, ← hq] at hr15 ⊢
  refine a_iconst dX11_signToken_18 ?_
  refine a_iadd dX11_signToken_19 ?_
  refine a_putI (j' := 7) dX11_signToken_20 flX11_139 rfl rfl (L209 L) (by decide) rfl ⟨by omega, by omega⟩ ?_
  refine a_aloadn dX11_signToken_23 rfl ?_
  refine b_getI (j' := 9) dX11_signToken_24 flX11_153 rfl rfl (L209 L) (fun hr24 => ?_)
  try simp (disch := omega) only [sm_n, sm_k, us_s, us_n, ← hq] at hr24 ⊢
  refine a_bipush (w := 60) dX11_signToken_27 (by decide) ?_
  refine a_icmp_eq (tgt := 50) dX11_signToken_29 (by decide) ⟨by omega, by omega⟩ ⟨by omega, by omega⟩ (fun hb29 => ?_) (fun hb29 => ?_)
  · exfalso; omega
  · refine a_aloadn dX11_signToken_32 rfl ?_
    refine b_getI (j' := 9) dX11_signToken_33 flX11_153 rfl rfl (L209 L) (fun hr33 => ?_)
    try simp (disch := omega) only [sm_n, sm_k, us_s, us_n, ← hq] at hr33 ⊢
    refine a_bipush (w := 62) dX11_signToken_36 (by decide) ?_
    refine a_icmp_eq (tgt := 50) dX11_signToken_38 (by decide) ⟨by omega, by omega⟩ ⟨by omega, by omega⟩ (fun hb38 => ?_) (fun hb38 => ?_)
    · exfalso; omega
    · refine a_aloadn dX11_signToken_41 rfl ?_
      refine b_getI (j' := 9) dX11_signToken_42 flX11_153 rfl rfl (L209 L) (fun hr42 => ?_)
      try simp (disch := omega) only [sm_n, sm_k, us_s, us_n, ← hq] at hr42 ⊢
      refine a_bipush (w := 61) dX11_signToken_45 (by decide) ?_
      refine a_icmp_ne (tgt := 198) dX11_signToken_47 (by decide) ⟨by omega, by omega⟩ ⟨by omega, by omega⟩ (fun hb47 => ?_) (fun hb47 => ?_)
      · refine a_aloadn dX11_signToken_198 rfl ?_
        refine b_getI (j' := 9) dX11_signToken_199 flX11_153 rfl rfl (L209 L) (fun hr199 => ?_)
        try simp (disch := omega) only [sm_n, sm_k, us_s, us_n, ← hq] at hr199 ⊢
        refine a_bipush (w := 59) dX11_signToken_202 (by decide) ?_
        refine a_icmp_eq (tgt := 270) dX11_signToken_204 (by decide) ⟨by omega, by omega⟩ ⟨by omega, by omega⟩ (fun hb204 => ?_) (fun hb204 => ?_)
        · exfalso; omega
        · refine a_aloadn dX11_signToken_207 rfl ?_
          refine b_getI (j' := 9) dX11_signToken_208 flX11_153 rfl rfl (L209 L) (fun hr208 => ?_)
          try simp (disch := omega) only [sm_n, sm_k, us_s, us_n, ← hq] at hr208 ⊢
          refine a_bipush (w := 40) dX11_signToken_211 (by decide) ?_
          refine a_icmp_eq (tgt := 270) dX11_signToken_213 (by decide) ⟨by omega, by omega⟩ ⟨by omega, by omega⟩ (fun hb213 => ?_) (fun hb213 => ?_)
          · exfalso; omega
          · refine a_aloadn dX11_signToken_216 rfl ?_
            refine b_getI (j' := 9) dX11_signToken_217 flX11_153 rfl rfl (L209 L) (fun hr217 => ?_)
            try simp (disch := omega) only [sm_n, sm_k, us_s, us_n, ← hq] at hr217 ⊢
            refine a_bipush (w := 41) dX11_signToken_220 (by decide) ?_
            refine a_icmp_eq (tgt := 270) dX11_signToken_222 (by decide) ⟨by omega, by omega⟩ ⟨by omega, by omega⟩ (fun hb222 => ?_) (fun hb222 => ?_)
            · exfalso; omega
            · refine a_aloadn dX11_signToken_225 rfl ?_
              refine b_getI (j' := 9) dX11_signToken_226 flX11_153 rfl rfl (L209 L) (fun hr226 => ?_)
              try simp (disch := omega) only [sm_n, sm_k, us_s, us_n, ← hq] at hr226 ⊢
              refine a_bipush (w := 43) dX11_signToken_229 (by decide) ?_
              refine a_icmp_eq (tgt := 270) dX11_signToken_231 (by decide) ⟨by omega, by omega⟩ ⟨by omega, by omega⟩ (fun hb231 => ?_) (fun hb231 => ?_)
              · exfalso; omega
              · refine a_aloadn dX11_signToken_234 rfl ?_
                refine b_getI (j' := 9) dX11_signToken_235 flX11_153 rfl rfl (L209 L) (fun hr235 => ?_)
                try simp (disch := omega) only [sm_n, sm_k, us_s, us_n, ← hq] at hr235 ⊢
                refine a_bipush (w := 45) dX11_signToken_238 (by decide) ?_
                refine a_icmp_eq (tgt := 270) dX11_signToken_240 (by decide) ⟨by omega, by omega⟩ ⟨by omega, by omega⟩ (fun hb240 => ?_) (fun hb240 => ?_)
                · exfalso; omega
                · refine a_aloadn dX11_signToken_243 rfl ?_
                  refine b_getI (j' := 9) dX11_signToken_244 flX11_153 rfl rfl (L209 L) (fun hr244 => ?_)
                  try simp (disch := omega) only [sm_n, sm_k, us_s, us_n, ← hq] at hr244 ⊢
                  refine a_bipush (w := 42) dX11_signToken_247 (by decide) ?_
                  refine a_icmp_eq (tgt := 270) dX11_signToken_249 (by decide) ⟨by omega, by omega⟩ ⟨by omega, by omega⟩ (fun hb249 => ?_) (fun hb249 => ?_)
                  · refine a_iconst dX11_signToken_270 ?_
                    refine a_goto (tgt := 275) dX11_signToken_271 (by decide) ?_
                    refine c_istoren (ls' := [_, _, _, _]) dX11_signToken_275 (by decide) rfl rfl ?_
                    refine a_aloadn dX11_signToken_276 rfl ?_
                    refine a_iloadn dX11_signToken_277 rfl ?_
                    refine a_if_eq (tgt := 285) dX11_signToken_278 (by decide) ⟨by omega, by omega⟩ (fun hb278 => ?_) (fun hb278 => ?_)
                    · exfalso; omega
                    · refine a_iconst dX11_signToken_281 ?_
                      refine a_goto (tgt := 287) dX11_signToken_282 (by decide) ?_
                      refine a_putI (j' := 8) dX11_signToken_287 flX11_142 rfl rfl (L209 L) (by decide) rfl ⟨by omega, by omega⟩ ?_
                      exact a_return dX11_signToken_290 rfl rfl rfl (zrel_V (by
      refine ⟨?_, ?_, by simp (disch := decide) only [sm_k, us_s, us_n], ?_⟩
      · simp (disch := decide) only [sm_k, us_s, us_n] <;> omega
      · simp (disch := decide) only [sm_k, us_s, us_n]
        exact Or.inr (Or.inr (Or.inr (Or.inr (Or.inr (Or.inr ⟨rfl, rfl, Or.inr (Or.inr (Or.inl ⟨hc, rfl⟩))⟩)))))
      · repeat (first | exact Fk.rf _ | refine Fk.sm ?_ (by omega) _)))
                  · exfalso; omega
      · exfalso; omega

set_option maxRecDepth 100000 in
set_option maxHeartbeats 4000000 in
theorem m_signT_j {G : zG} {l : Launch} {L : Nat} {P : zP} {M : zM} {q : Int} (hP : PFok P) (hq : q = M 209 7) (hn : 0 ≤ q ∧ q < M 209 6 ∧ M 209 6 ≤ 700) (hc : M 210 q = 47) : AM G l yX11_signToken mdX11_signToken [aR 209] (LAY L) P M (zrel none (LAY L) P (fun M' => M' 209 7 = q + 1 ∧ TKq 5 12 (M' 209 8) (M' 209 9) ∧ M' 209 10 = M 209 10 ∧ Fk M M')) := by
  refine AM.go [some (aR 209), none, none, none] rfl (Nat.le_of_ble_eq_true rfl) ?_ (by decide) rfl rfl
  refine a_aloadn dX11_signToken_0 rfl ?_
  refine a_aloadn dX11_signToken_1 rfl ?_
  refine a_getR (j' := 0) (y := 210) dX11_signToken_2 flX11_7 rfl rfl (L209 L) (p209_0 hP) ?_
  refine a_aloadn dX11_signToken_5 rfl ?_
  refine b_getI (j' := 7) dX11_signToken_6 flX11_139 rfl rfl (L209 L) (fun hr6 => ?_)
  try simp (disch := omega) only [sm_n, sm_k, us_s, us_n, ← hq] at hr6 ⊢
  refine b_iald (N := 700) dX11_signToken_9 (L210 L) (by decide) (by omega) (by omega) (fun hr9 => ?_)
  try simp (disch := omega) only [sm_n, sm_k, us_s, us_n, ← hq] at hr9 ⊢
  refine a_putI (j' := 9) dX11_signToken_10 flX11_153 rfl rfl (L209 L) (by decide) rfl hr9 ?_
  refine a_aloadn dX11_signToken_13 rfl ?_
  refine a_dupR dX11_signToken_14 ?_
  refine b_getI (j' := 7) dX11_signToken_15 flX11_139 rfl rfl (L209 L) (fun hr15 => ?_)
  try simp (disch := omega) only [sm_n, sm_k, us_s, us_n, ← hq] at hr15 ⊢
  refine a_iconst dX11_signToken_18 ?_
  refine a_iadd dX11_signToken_19 ?_
  refine a_putI (j' := 7) dX11_signToken_20 flX11_139 rfl rfl (L209 L) (by decide) rfl ⟨by omega, by omega⟩ ?_
  refine a_aloadn dX11_signToken_23 rfl ?_
  refine b_getI (j' := 9) dX11_signToken_24 flX11_153 rfl rfl (L209 L) (fun hr24 => ?_)
  try simp (disch := omega) only [sm_n, sm_k, us_s, us_n, ← hq] at hr24 ⊢
  refine a_bipush (w := 60) dX11_signToken_27 (by decide) ?_
  refine a_icmp_eq (tgt := 50) dX11_signToken_29 (by decide) ⟨by omega, by omega⟩ ⟨by omega, by omega⟩ (fun hb29 => ?_) (fun hb29 => ?_)
  · exfalso; omega
  · refine a_aloadn dX11_signToken_32 rfl ?_
    refine b_getI (j' := 9) dX11_signToken_33 flX11_153 rfl rfl (L209 L) (fun hr33 => ?_)
    try simp (disch := omega) only [sm_n, sm_k, us_s, us_n, ← hq] at hr33 ⊢
    refine a_bipush (w := 62) dX11_signToken_36 (by decide) ?_
    refine a_icmp_eq (tgt := 50) dX11_signToken_38 (by decide) ⟨by omega, by omega⟩ ⟨by omega, by omega⟩ (fun hb38 => ?_) (fun hb38 => ?_)
    · exfalso; omega
    · refine a_aloadn dX11_signToken_41 rfl ?_
      refine b_getI (j' := 9) dX11_signToken_42 flX11_153 rfl rfl (L209 L) (fun hr42 => ?_)
      try simp (disch := omega) only [sm_n, sm_k, us_s, us_n, ← hq] at hr42 ⊢
      refine a_bipush (w := 61) dX11_signToken_45 (by decide) ?_
      refine a_icmp_ne (tgt := 198) dX11_signToken_47 (by decide) ⟨by omega, by omega⟩ ⟨by omega, by omega⟩ (fun hb47 => ?_) (fun hb47 => ?_)
      · refine a_aloadn dX11_signToken_198 rfl ?_
        refine b_getI (j' := 9) dX11_signToken_199 flX11_153 rfl rfl (L209 L) (fun hr199 => ?_)
        try simp (disch := omega) only [sm_n, sm_k, us_s, us_n, ← hq] at hr199 ⊢
        refine a_bipush (w := 59) dX11_signToken_202 (by decide) ?_
        refine a_icmp_eq (tgt := 270) dX11_signToken_204 (by decide) ⟨by omega, by omega⟩ ⟨by omega, by omega⟩ (fun hb204 => ?_) (fun hb204 => ?_)
        · exfalso; omega
        · refine a_aloadn dX11_signToken_207 rfl ?_
          refine b_getI (j' := 9) dX11_signToken_208 flX11_153 rfl rfl (L209 L) (fun hr208 => ?_)
          try simp (disch := omega) only [sm_n, sm_k, us_s, us_n, ← hq] at hr208 ⊢
          refine a_bipush (w := 40) dX11_signToken_211 (by decide) ?_
          refine a_icmp_eq (tgt := 270) dX11_signToken_213 (by decide) ⟨by omega, by omega⟩ ⟨by omega, by omega⟩ (fun hb213 => ?_) (fun hb213 => ?_)
          · exfalso; omega
          · refine a_aloadn dX11_signToken_216 rfl ?_
            refine b_getI (j' := 9) dX11_signToken_217 flX11_153 rfl rfl (L209 L) (fun hr217 => ?_)
            try simp (disch := omega) only [sm_n, sm_k, us_s, us_n, ← hq] at hr217 ⊢
            refine a_bipush (w := 41) dX11_signToken_220 (by decide) ?_
            refine a_icmp_eq (tgt := 270) dX11_signToken_222 (by decide) ⟨by omega, by omega⟩ ⟨by omega, by omega⟩ (fun hb222 => ?_) (fun hb222 => ?_)
            · exfalso; omega
            · refine a_aloadn dX11_signToken_225 rfl ?_
              refine b_getI (j' := 9) dX11_signToken_226 flX11_153 rfl rfl (L209 L) (fun hr226 => ?_)
              try simp (disch := omega) only [sm_n, sm_k, us_s, us_n, ← hq] at hr226 ⊢
              refine a_bipush (w := 43) dX11_signToken_229 (by decide) ?_
              refine a_icmp_eq (tgt := 270) dX11_signToken_231 (by decide) ⟨by omega, by omega⟩ ⟨by omega, by omega⟩ (fun hb231 => ?_) (fun hb231 => ?_)
              · exfalso; omega
              · refine a_aloadn dX11_signToken_234 rfl ?_
                refine b_getI (j' := 9) dX11_signToken_235 flX11_153 rfl rfl (L209 L) (fun hr235 => ?_)
                try simp (disch := omega) only [sm_n, sm_k, us_s, us_n, ← hq] at hr235 ⊢
                refine a_bipush (w := 45) dX11_signToken_238 (by decide) ?_
                refine a_icmp_eq (tgt := 270) dX11_signToken_240 (by decide) ⟨by omega, by omega⟩ ⟨by omega, by omega⟩ (fun hb240 => ?_) (fun hb240 => ?_)
                · exfalso; omega
                · refine a_aloadn dX11_signToken_243 rfl ?_
                  refine b_getI (j' := 9) dX11_signToken_244 flX11_153 rfl rfl (L209 L) (fun hr244 => ?_)
                  try simp (disch := omega) only [sm_n, sm_k, us_s, us_n, ← hq] at hr244 ⊢
                  refine a_bipush (w := 42) dX11_signToken_247 (by decide) ?_
                  refine a_icmp_eq (tgt := 270) dX11_signToken_249 (by decide) ⟨by omega, by omega⟩ ⟨by omega, by omega⟩ (fun hb249 => ?_) (fun hb249 => ?_)
                  · exfalso; omega
                  · refine a_aloadn dX11_signToken_252 rfl ?_
                    refine b_getI (j' := 9) dX11_signToken_253 flX11_153 rfl rfl (L209 L) (fun hr253 => ?_)
                    try simp (disch := omega) only [sm_n, sm_k, us_s, us_n, ← hq] at hr253 ⊢
                    refine a_bipush (w := 47) dX11_signToken_256 (by decide) ?_
                    refine a_icmp_eq (tgt := 270) dX11_signToken_258 (by decide) ⟨by omega, by omega⟩ ⟨by omega, by omega⟩ (fun hb258 => ?_) (fun hb258 => ?_)
                    · refine a_iconst dX11_signToken_270 ?_
                      refine a_goto (tgt := 275) dX11_signToken_271 (by decide) ?_
                      refine c_istoren (ls' := [_, _, _, _]) dX11_signToken_275 (by decide) rfl rfl ?_
                      refine a_aloadn dX11_signToken_276 rfl ?_
                      refine a_iloadn dX11_signToken_277 rfl ?_
                      refine a_if_eq (tgt := 285) dX11_signToken_278 (by decide) ⟨by omega, by omega⟩ (fun hb278 => ?_) (fun hb278 => ?_)
                      · exfalso; omega
                      · refine a_iconst dX11_signToken_281 ?_
                        refine a_goto (tgt := 287) dX11_signToken_282 (by decide) ?_
                        refine a_putI (j' := 8) dX11_signToken_287 flX11_142 rfl rfl (L209 L) (by decide) rfl ⟨by omega, by omega⟩ ?_
                        exact a_return dX11_signToken_290 rfl rfl rfl (zrel_V (by
      refine ⟨?_, ?_, by simp (disch := decide) only [sm_k, us_s, us_n], ?_⟩
      · simp (disch := decide) only [sm_k, us_s, us_n] <;> omega
      · simp (disch := decide) only [sm_k, us_s, us_n]
        exact Or.inr (Or.inr (Or.inr (Or.inr (Or.inr (Or.inr ⟨rfl, rfl, Or.inr (Or.inr (Or.inr (Or.inl ⟨hc, rfl⟩)))⟩)))))
      · repeat (first | exact Fk.rf _ | refine Fk.sm ?_ (by omega) _)))
                    · exfalso; omega
      · exfalso; omega

set_option maxRecDepth 100000 in
set_option maxHeartbeats 4000000 in
theorem m_signT_k {G : zG} {l : Launch} {L : Nat} {P : zP} {M : zM} {q : Int} (hP : PFok P) (hq : q = M 209 7) (hn : 0 ≤ q ∧ q < M 209 6 ∧ M 209 6 ≤ 700) (hc : M 210 q = 40) : AM G l yX11_signToken mdX11_signToken [aR 209] (LAY L) P M (zrel none (LAY L) P (fun M' => M' 209 7 = q + 1 ∧ TKq 5 13 (M' 209 8) (M' 209 9) ∧ M' 209 10 = M 209 10 ∧ Fk M M')) := by
  refine AM.go [some (aR 209), none, none, none] rfl (Nat.le_of_ble_eq_true rfl) ?_ (by decide) rfl rfl
  refine a_aloadn dX11_signToken_0 rfl ?_
  refine a_aloadn dX11_signToken_1 rfl ?_
  refine a_getR (j' := 0) (y := 210) dX11_signToken_2 flX11_7 rfl rfl (L209 L) (p209_0 hP) ?_
  refine a_aloadn dX11_signToken_5 rfl ?_
  refine b_getI (j' := 7) dX11_signToken_6 flX11_139 rfl rfl (L209 L) (fun hr6 => ?_)
  try simp (disch := omega) only [sm_n, sm_k, us_s, us_n, ← hq] at hr6 ⊢
  refine b_iald (N := 700) dX11_signToken_9 (L210 L) (by decide) (by omega) (by omega) (fun hr9 => ?_)
  try simp (disch := omega) only [sm_n, sm_k, us_s, us_n, ← hq] at hr9 ⊢
  refine a_putI (j' := 9) dX11_signToken_10 flX11_153 rfl rfl (L209 L) (by decide) rfl hr9 ?_
  refine a_aloadn dX11_signToken_13 rfl ?_
  refine a_dupR dX11_signToken_14 ?_
  refine b_getI (j' := 7) dX11_signToken_15 flX11_139 rfl rfl (L209 L) (fun hr15 => ?_)
  try simp (disch := omega) only [sm_n, sm_k, us_s, us_n, ← hq] at hr15 ⊢
  refine a_iconst dX11_signToken_18 ?_
  refine a_iadd dX11_signToken_19 ?_
  refine a_putI (j' := 7) dX11_signToken_20 flX11_139 rfl rfl (L209 L) (by decide) rfl ⟨by omega, by omega⟩ ?_
  refine a_aloadn dX11_signToken_23 rfl ?_
  refine b_getI (j' := 9) dX11_signToken_24 flX11_153 rfl rfl (L209 L) (fun hr24 => ?_)
  try simp (disch := omega) only [sm_n, sm_k, us_s, us_n, ← hq] at hr24 ⊢
  refine a_bipush (w := 60) dX11_signToken_27 (by decide) ?_
  refine a_icmp_eq (tgt := 50) dX11_signToken_29 (by decide) ⟨by omega, by omega⟩ ⟨by omega, by omega⟩ (fun hb29 => ?_) (fun hb29 => ?_)
  · exfalso; omega
  · refine a_aloadn dX11_signToken_32 rfl ?_
    refine b_getI (j' := 9) dX11_signToken_33 flX11_153 rfl rfl (L209 L) (fun hr33 => ?_)
    try simp (disch := omega) only [sm_n, sm_k, us_s, us_n, ← hq] at hr33 ⊢
    refine a_bipush (w := 62) dX11_signToken_36 (by decide) ?_
    refine a_icmp_eq (tgt := 50) dX11_signToken_38 (by decide) ⟨by omega, by omega⟩ ⟨by omega, by omega⟩ (fun hb38 => ?_) (fun hb38 => ?_)
    · exfalso; omega
    · refine a_aloadn dX11_signToken_41 rfl ?_
      refine b_getI (j' := 9) dX11_signToken_42 flX11_153 rfl rfl (L209 L) (fun hr42 => ?_)
      try simp (disch := omega) only [sm_n, sm_k, us_s, us_n, ← hq] at hr42 ⊢
      refine a_bipush (w := 61) dX11_signToken_45 (by decide) ?_
      refine a_icmp_ne (tgt := 198) dX11_signToken_47 (by decide) ⟨by omega, by omega⟩ ⟨by omega, by omega⟩ (fun hb47 => ?_) (fun hb47 => ?_)
      · refine a_aloadn dX11_signToken_198 rfl ?_
        refine b_getI (j' := 9) dX11_signToken_199 flX11_153 rfl rfl (L209 L) (fun hr199 => ?_)
        try simp (disch := omega) only [sm_n, sm_k, us_s, us_n, ← hq] at hr199 ⊢
        refine a_bipush (w := 59) dX11_signToken_202 (by decide) ?_
        refine a_icmp_eq (tgt := 270) dX11_signToken_204 (by decide) ⟨by omega, by omega⟩ ⟨by omega, by omega⟩ (fun hb204 => ?_) (fun hb204 => ?_)
        · exfalso; omega
        · refine a_aloadn dX11_signToken_207 rfl ?_
          refine b_getI (j' := 9) dX11_signToken_208 flX11_153 rfl rfl (L209 L) (fun hr208 => ?_)
          try simp (disch := omega) only [sm_n, sm_k, us_s, us_n, ← hq] at hr208 ⊢
          refine a_bipush (w := 40) dX11_signToken_211 (by decide) ?_
          refine a_icmp_eq (tgt := 270) dX11_signToken_213 (by decide) ⟨by omega, by omega⟩ ⟨by omega, by omega⟩ (fun hb213 => ?_) (fun hb213 => ?_)
          · refine a_iconst dX11_signToken_270 ?_
            refine a_goto (tgt := 275) dX11_signToken_271 (by decide) ?_
            refine c_istoren (ls' := [_, _, _, _]) dX11_signToken_275 (by decide) rfl rfl ?_
            refine a_aloadn dX11_signToken_276 rfl ?_
            refine a_iloadn dX11_signToken_277 rfl ?_
            refine a_if_eq (tgt := 285) dX11_signToken_278 (by decide) ⟨by omega, by omega⟩ (fun hb278 => ?_) (fun hb278 => ?_)
            · exfalso; omega
            · refine a_iconst dX11_signToken_281 ?_
              refine a_goto (tgt := 287) dX11_signToken_282 (by decide) ?_
              refine a_putI (j' := 8) dX11_signToken_287 flX11_142 rfl rfl (L209 L) (by decide) rfl ⟨by omega, by omega⟩ ?_
              exact a_return dX11_signToken_290 rfl rfl rfl (zrel_V (by
      refine ⟨?_, ?_, by simp (disch := decide) only [sm_k, us_s, us_n], ?_⟩
      · simp (disch := decide) only [sm_k, us_s, us_n] <;> omega
      · simp (disch := decide) only [sm_k, us_s, us_n]
        exact Or.inr (Or.inr (Or.inr (Or.inr (Or.inr (Or.inr ⟨rfl, rfl, Or.inr (Or.inr (Or.inr (Or.inr (Or.inl ⟨hc, rfl⟩))))⟩)))))
      · repeat (first | exact Fk.rf _ | refine Fk.sm ?_ (by omega) _)))
          · exfalso; omega
      · exfalso; omega

set_option maxRecDepth 100000 in
set_option maxHeartbeats 4000000 in
theorem m_signT_l {G : zG} {l : Launch} {L : Nat} {P : zP} {M : zM} {q : Int} (hP : PFok P) (hq : q = M 209 7) (hn : 0 ≤ q ∧ q < M 209 6 ∧ M 209 6 ≤ 700) (hc : M 210 q = 41) : AM G l yX11_signToken mdX11_signToken [aR 209] (LAY L) P M (zrel none (LAY L) P (fun M' => M' 209 7 = q + 1 ∧ TKq 5 14 (M' 209 8) (M' 209 9) ∧ M' 209 10 = M 209 10 ∧ Fk M M')) := by
  refine AM.go [some (aR 209), none, none, none] rfl (Nat.le_of_ble_eq_true rfl) ?_ (by decide) rfl rfl
  refine a_aloadn dX11_signToken_0 rfl ?_
  refine a_aloadn dX11_signToken_1 rfl ?_
  refine a_getR (j' := 0) (y := 210) dX11_signToken_2 flX11_7 rfl rfl (L209 L) (p209_0 hP) ?_
  refine a_aloadn dX11_signToken_5 rfl ?_
  refine b_getI (j' := 7) dX11_signToken_6 flX11_139 rfl rfl (L209 L) (fun hr6 => ?_)
  try simp (disch := omega) only [sm_n, sm_k, us_s, us_n, ← hq] at hr6 ⊢
  refine b_iald (N := 700) dX11_signToken_9 (L210 L) (by decide) (by omega) (by omega) (fun hr9 => ?_)
  try simp (disch := omega) only [sm_n, sm_k, us_s, us_n, ← hq] at hr9 ⊢
  refine a_putI (j' := 9) dX11_signToken_10 flX11_153 rfl rfl (L209 L) (by decide) rfl hr9 ?_
  refine a_aloadn dX11_signToken_13 rfl ?_
  refine a_dupR dX11_signToken_14 ?_
  refine b_getI (j' := 7) dX11_signToken_15 flX11_139 rfl rfl (L209 L) (fun hr15 => ?_)
  try simp (disch := omega) only [sm_n, sm_k, us_s, us_n, ← hq] at hr15 ⊢
  refine a_iconst dX11_signToken_18 ?_
  refine a_iadd dX11_signToken_19 ?_
  refine a_putI (j' := 7) dX11_signToken_20 flX11_139 rfl rfl (L209 L) (by decide) rfl ⟨by omega, by omega⟩ ?_
  refine a_aloadn dX11_signToken_23 rfl ?_
  refine b_getI (j' := 9) dX11_signToken_24 flX11_153 rfl rfl (L209 L) (fun hr24 => ?_)
  try simp (disch := omega) only [sm_n, sm_k, us_s, us_n, ← hq] at hr24 ⊢
  refine a_bipush (w := 60) dX11_signToken_27 (by decide) ?_
  refine a_icmp_eq (tgt := 50) dX11_signToken_29 (by decide) ⟨by omega, by omega⟩ ⟨by omega, by omega⟩ (fun hb29 => ?_) (fun hb29 => ?_)
  · exfalso; omega
  · refine a_aloadn dX11_signToken_32 rfl ?_
    refine b_getI (j' := 9) dX11_signToken_33 flX11_153 rfl rfl (L209 L) (fun hr33 => ?_)
    try simp (disch := omega) only [sm_n, sm_k, us_s, us_n, ← hq] at hr33 ⊢
    refine a_bipush (w := 62) dX11_signToken_36 (by decide) ?_
    refine a_icmp_eq (tgt := 50) dX11_signToken_38 (by decide) ⟨by omega, by omega⟩ ⟨by omega, by omega⟩ (fun hb38 => ?_) (fun hb38 => ?_)
    · exfalso; omega
    · refine a_aloadn dX11_signToken_41 rfl ?_
      refine b_getI (j' := 9) dX11_signToken_42 flX11_153 rfl rfl (L209 L) (fun hr42 => ?_)
      try simp (disch := omega) only [sm_n, sm_k, us_s, us_n, ← hq] at hr42 ⊢
      refine a_bipush (w := 61) dX11_signToken_45 (by decide) ?_
      refine a_icmp_ne (tgt := 198) dX11_signToken_47 (by decide) ⟨by omega, by omega⟩ ⟨by omega, by omega⟩ (fun hb47 => ?_) (fun hb47 => ?_)
      · refine a_aloadn dX11_signToken_198 rfl ?_
        refine b_getI (j' := 9) dX11_signToken_199 flX11_153 rfl rfl (L209 L) (fun hr199 => ?_)
        try simp (disch := omega) only [sm_n, sm_k, us_s, us_n, ← hq] at hr199 ⊢
        refine a_bipush (w := 59) dX11_signToken_202 (by decide) ?_
        refine a_icmp_eq (tgt := 270) dX11_signToken_204 (by decide) ⟨by omega, by omega⟩ ⟨by omega, by omega⟩ (fun hb204 => ?_) (fun hb204 => ?_)
        · exfalso; omega
        · refine a_aloadn dX11_signToken_207 rfl ?_
          refine b_getI (j' := 9) dX11_signToken_208 flX11_153 rfl rfl (L209 L) (fun hr208 => ?_)
          try simp (disch := omega) only [sm_n, sm_k, us_s, us_n, ← hq] at hr208 ⊢
          refine a_bipush (w := 40) dX11_signToken_211 (by decide) ?_
          refine a_icmp_eq (tgt := 270) dX11_signToken_213 (by decide) ⟨by omega, by omega⟩ ⟨by omega, by omega⟩ (fun hb213 => ?_) (fun hb213 => ?_)
          · exfalso; omega
          · refine a_aloadn dX11_signToken_216 rfl ?_
            refine b_getI (j' := 9) dX11_signToken_217 flX11_153 rfl rfl (L209 L) (fun hr217 => ?_)
            try simp (disch := omega) only [sm_n, sm_k, us_s, us_n, ← hq] at hr217 ⊢
            refine a_bipush (w := 41) dX11_signToken_220 (by decide) ?_
            refine a_icmp_eq (tgt := 270) dX11_signToken_222 (by decide) ⟨by omega, by omega⟩ ⟨by omega, by omega⟩ (fun hb222 => ?_) (fun hb222 => ?_)
            · refine a_iconst dX11_signToken_270 ?_
              refine a_goto (tgt := 275) dX11_signToken_271 (by decide) ?_
              refine c_istoren (ls' := [_, _, _, _]) dX11_signToken_275 (by decide) rfl rfl ?_
              refine a_aloadn dX11_signToken_276 rfl ?_
              refine a_iloadn dX11_signToken_277 rfl ?_
              refine a_if_eq (tgt := 285) dX11_signToken_278 (by decide) ⟨by omega, by omega⟩ (fun hb278 => ?_) (fun hb278 => ?_)
              · exfalso; omega
              · refine a_iconst dX11_signToken_281 ?_
                refine a_goto (tgt := 287) dX11_signToken_282 (by decide) ?_
                refine a_putI (j' := 8) dX11_signToken_287 flX11_142 rfl rfl (L209 L) (by decide) rfl ⟨by omega, by omega⟩ ?_
                exact a_return dX11_signToken_290 rfl rfl rfl (zrel_V (by
      refine ⟨?_, ?_, by simp (disch := decide) only [sm_k, us_s, us_n], ?_⟩
      · simp (disch := decide) only [sm_k, us_s, us_n] <;> omega
      · simp (disch := decide) only [sm_k, us_s, us_n]
        exact Or.inr (Or.inr (Or.inr (Or.inr (Or.inr (Or.inr ⟨rfl, rfl, Or.inr (Or.inr (Or.inr (Or.inr (Or.inr (Or.inl ⟨hc, rfl⟩)))))⟩)))))
      · repeat (first | exact Fk.rf _ | refine Fk.sm ?_ (by omega) _)))
            · exfalso; omega
      · exfalso; omega

set_option maxRecDepth 100000 in
set_option maxHeartbeats 4000000 in
theorem m_signT_m {G : zG} {l : Launch} {L : Nat} {P : zP} {M : zM} {q : Int} (hP : PFok P) (hq : q = M 209 7) (hn : 0 ≤ q ∧ q < M 209 6 ∧ M 209 6 ≤ 700) (hc : M 210 q = 59) : AM G l yX11_signToken mdX11_signToken [aR 209] (LAY L) P M (zrel none (LAY L) P (fun M' => M' 209 7 = q + 1 ∧ TKq 5 15 (M' 209 8) (M' 209 9) ∧ M' 209 10 = M 209 10 ∧ Fk M M')) := by
  refine AM.go [some (aR 209), none, none, none] rfl (Nat.le_of_ble_eq_true rfl) ?_ (by decide) rfl rfl
  refine a_aloadn dX11_signToken_0 rfl ?_
  refine a_aloadn dX11_signToken_1 rfl ?_
  refine a_getR (j' := 0) (y := 210) dX11_signToken_2 flX11_7 rfl rfl (L209 L) (p209_0 hP) ?_
  refine a_aloadn dX11_signToken_5 rfl ?_
  refine b_getI (j' := 7) dX11_signToken_6 flX11_139 rfl rfl (L209 L) (fun hr6 => ?_)
  try simp (disch := omega) only [sm_n, sm_k, us_s, us_n, ← hq] at hr6 ⊢
  refine b_iald (N := 700) dX11_signToken_9 (L210 L) (by decide) (by omega) (by omega) (fun hr9 => ?_)
  try simp (disch := omega) only [sm_n, sm_k, us_s, us_n, ← hq] at hr9 ⊢
  refine a_putI (j' := 9) dX11_signToken_10 flX11_153 rfl rfl (L209 L) (by decide) rfl hr9 ?_
  refine a_aloadn dX11_signToken_13 rfl ?_
  refine a_dupR dX11_signToken_14 ?_
  refine b_getI (j' := 7) dX11_signToken_15 flX11_139 rfl rfl (L209 L) (fun hr15 => ?_)
  try simp (disch := omega) only [sm_n, sm_k, us_s, us_n, ← hq] at hr15 ⊢
  refine a_iconst dX11_signToken_18 ?_
  refine a_iadd dX11_signToken_19 ?_
  refine a_putI (j' := 7) dX11_signToken_20 flX11_139 rfl rfl (L209 L) (by decide) rfl ⟨by omega, by omega⟩ ?_
  refine a_aloadn dX11_signToken_23 rfl ?_
  refine b_getI (j' := 9) dX11_signToken_24 flX11_153 rfl rfl (L209 L) (fun hr24 => ?_)
  try simp (disch := omega) only [sm_n, sm_k, us_s, us_n, ← hq] at hr24 ⊢
  refine a_bipush (w := 60) dX11_signToken_27 (by decide) ?_
  refine a_icmp_eq (tgt := 50) dX11_signToken_29 (by decide) ⟨by omega, by omega⟩ ⟨by omega, by omega⟩ (fun hb29 => ?_) (fun hb29 => ?_)
  · exfalso; omega
  · refine a_aloadn dX11_signToken_32 rfl ?_
    refine b_getI (j' := 9) dX11_signToken_33 flX11_153 rfl rfl (L209 L) (fun hr33 => ?_)
    try simp (disch := omega) only [sm_n, sm_k, us_s, us_n, ← hq] at hr33 ⊢
    refine a_bipush (w := 62) dX11_signToken_36 (by decide) ?_
    refine a_icmp_eq (tgt := 50) dX11_signToken_38 (by decide) ⟨by omega, by omega⟩ ⟨by omega, by omega⟩ (fun hb38 => ?_) (fun hb38 => ?_)
    · exfalso; omega
    · refine a_aloadn dX11_signToken_41 rfl ?_
      refine b_getI (j' := 9) dX11_signToken_42 flX11_153 rfl rfl (L209 L) (fun hr42 => ?_)
      try simp (disch := omega) only [sm_n, sm_k, us_s, us_n, ← hq] at hr42 ⊢
      refine a_bipush (w := 61) dX11_signToken_45 (by decide) ?_
      refine a_icmp_ne (tgt := 198) dX11_signToken_47 (by decide) ⟨by omega, by omega⟩ ⟨by omega, by omega⟩ (fun hb47 => ?_) (fun hb47 => ?_)
      · refine a_aloadn dX11_signToken_198 rfl ?_
        refine b_getI (j' := 9) dX11_signToken_199 flX11_153 rfl rfl (L209 L) (fun hr199 => ?_)
        try simp (disch := omega) only [sm_n, sm_k, us_s, us_n, ← hq] at hr199 ⊢
        refine a_bipush (w := 59) dX11_signToken_202 (by decide) ?_
        refine a_icmp_eq (tgt := 270) dX11_signToken_204 (by decide) ⟨by omega, by omega⟩ ⟨by omega, by omega⟩ (fun hb204 => ?_) (fun hb204 => ?_)
        · refine a_iconst dX11_signToken_270 ?_
          refine a_goto (tgt := 275) dX11_signToken_271 (by decide) ?_
          refine c_istoren (ls' := [_, _, _, _]) dX11_signToken_275 (by decide) rfl rfl ?_
          refine a_aloadn dX11_signToken_276 rfl ?_
          refine a_iloadn dX11_signToken_277 rfl ?_
          refine a_if_eq (tgt := 285) dX11_signToken_278 (by decide) ⟨by omega, by omega⟩ (fun hb278 => ?_) (fun hb278 => ?_)
          · exfalso; omega
          · refine a_iconst dX11_signToken_281 ?_
            refine a_goto (tgt := 287) dX11_signToken_282 (by decide) ?_
            refine a_putI (j' := 8) dX11_signToken_287 flX11_142 rfl rfl (L209 L) (by decide) rfl ⟨by omega, by omega⟩ ?_
            exact a_return dX11_signToken_290 rfl rfl rfl (zrel_V (by
      refine ⟨?_, ?_, by simp (disch := decide) only [sm_k, us_s, us_n], ?_⟩
      · simp (disch := decide) only [sm_k, us_s, us_n] <;> omega
      · simp (disch := decide) only [sm_k, us_s, us_n]
        exact Or.inr (Or.inr (Or.inr (Or.inr (Or.inr (Or.inr ⟨rfl, rfl, Or.inr (Or.inr (Or.inr (Or.inr (Or.inr (Or.inr (⟨hc, rfl⟩))))))⟩)))))
      · repeat (first | exact Fk.rf _ | refine Fk.sm ?_ (by omega) _)))
        · exfalso; omega
      · exfalso; omega

set_option maxRecDepth 100000 in
set_option maxHeartbeats 4000000 in
theorem m_signT_n {G : zG} {l : Launch} {L : Nat} {P : zP} {M : zM} {q : Int} (hP : PFok P) (hq : q = M 209 7) (hn : 0 ≤ q ∧ q < M 209 6 ∧ M 209 6 ≤ 700) (hc : M 210 q = 37) : AM G l yX11_signToken mdX11_signToken [aR 209] (LAY L) P M (zrel none (LAY L) P (fun M' => M' 209 7 = q + 1 ∧ TKq 1 (-1) (M' 209 8) (M' 209 9) ∧ M' 209 10 = M 209 10 ∧ Fk M M')) := by
  refine AM.go [some (aR 209), none, none, none] rfl (Nat.le_of_ble_eq_true rfl) ?_ (by decide) rfl rfl
  refine a_aloadn dX11_signToken_0 rfl ?_
  refine a_aloadn dX11_signToken_1 rfl ?_
  refine a_getR (j' := 0) (y := 210) dX11_signToken_2 flX11_7 rfl rfl (L209 L) (p209_0 hP) ?_
  refine a_aloadn dX11_signToken_5 rfl ?_
  refine b_getI (j' := 7) dX11_signToken_6 flX11_139 rfl rfl (L209 L) (fun hr6 => ?_)
  try simp (disch := omega) only [sm_n, sm_k, us_s, us_n, ← hq] at hr6 ⊢
  refine b_iald (N := 700) dX11_signToken_9 (L210 L) (by decide) (by omega) (by omega) (fun hr9 => ?_)
  try simp (disch := omega) only [sm_n, sm_k, us_s, us_n, ← hq] at hr9 ⊢
  refine a_putI (j' := 9) dX11_signToken_10 flX11_153 rfl rfl (L209 L) (by decide) rfl hr9 ?_
  refine a_aloadn dX11_signToken_13 rfl ?_
  refine a_dupR dX11_signToken_14 ?_
  refine b_getI (j' := 7) dX11_signToken_15 flX11_139 rfl rfl (L209 L) (fun hr15 => ?_)
  try simp (disch := omega) only [sm_n, sm_k, us_s, us_n, ← hq] at hr15 ⊢
  refine a_iconst dX11_signToken_18 ?_
  refine a_iadd dX11_signToken_19 ?_
  refine a_putI (j' := 7) dX11_signToken_20 flX11_139 rfl rfl (L209 L) (by decide) rfl ⟨by omega, by omega⟩ ?_
  refine a_aloadn dX11_signToken_23 rfl ?_
  refine b_getI (j' := 9) dX11_signToken_24 flX11_153 rfl rfl (L209 L) (fun hr24 => ?_)
  try simp (disch := omega) only [sm_n, sm_k, us_s, us_n, ← hq] at hr24 ⊢
  refine a_bipush (w := 60) dX11_signToken_27 (by decide) ?_
  refine a_icmp_eq (tgt := 50) dX11_signToken_29 (by decide) ⟨by omega, by omega⟩ ⟨by omega, by omega⟩ (fun hb29 => ?_) (fun hb29 => ?_)
  · exfalso; omega
  · refine a_aloadn dX11_signToken_32 rfl ?_
    refine b_getI (j' := 9) dX11_signToken_33 flX11_153 rfl rfl (L209 L) (fun hr33 => ?_)
    try simp (disch := omega) only [sm_n, sm_k, us_s, us_n, ← hq] at hr33 ⊢
    refine a_bipush (w := 62) dX11_signToken_36 (by decide) ?_
    refine a_icmp_eq (tgt := 50) dX11_signToken_38 (by decide) ⟨by omega, by omega⟩ ⟨by omega, by omega⟩ (fun hb38 => ?_) (fun hb38 => ?_)
    · exfalso; omega
    · refine a_aloadn dX11_signToken_41 rfl ?_
      refine b_getI (j' := 9) dX11_signToken_42 flX11_153 rfl rfl (L209 L) (fun hr42 => ?_)
      try simp (disch := omega) only [sm_n, sm_k, us_s, us_n, ← hq] at hr42 ⊢
      refine a_bipush (w := 61) dX11_signToken_45 (by decide) ?_
      refine a_icmp_ne (tgt := 198) dX11_signToken_47 (by decide) ⟨by omega, by omega⟩ ⟨by omega, by omega⟩ (fun hb47 => ?_) (fun hb47 => ?_)
      · refine a_aloadn dX11_signToken_198 rfl ?_
        refine b_getI (j' := 9) dX11_signToken_199 flX11_153 rfl rfl (L209 L) (fun hr199 => ?_)
        try simp (disch := omega) only [sm_n, sm_k, us_s, us_n, ← hq] at hr199 ⊢
        refine a_bipush (w := 59) dX11_signToken_202 (by decide) ?_
        refine a_icmp_eq (tgt := 270) dX11_signToken_204 (by decide) ⟨by omega, by omega⟩ ⟨by omega, by omega⟩ (fun hb204 => ?_) (fun hb204 => ?_)
        · exfalso; omega
        · refine a_aloadn dX11_signToken_207 rfl ?_
          refine b_getI (j' := 9) dX11_signToken_208 flX11_153 rfl rfl (L209 L) (fun hr208 => ?_)
          try simp (disch := omega) only [sm_n, sm_k, us_s, us_n, ← hq] at hr208 ⊢
          refine a_bipush (w := 40) dX11_signToken_211 (by decide) ?_
          refine a_icmp_eq (tgt := 270) dX11_signToken_213 (by decide) ⟨by omega, by omega⟩ ⟨by omega, by omega⟩ (fun hb213 => ?_) (fun hb213 => ?_)
          · exfalso; omega
          · refine a_aloadn dX11_signToken_216 rfl ?_
            refine b_getI (j' := 9) dX11_signToken_217 flX11_153 rfl rfl (L209 L) (fun hr217 => ?_)
            try simp (disch := omega) only [sm_n, sm_k, us_s, us_n, ← hq] at hr217 ⊢
            refine a_bipush (w := 41) dX11_signToken_220 (by decide) ?_
            refine a_icmp_eq (tgt := 270) dX11_signToken_222 (by decide) ⟨by omega, by omega⟩ ⟨by omega, by omega⟩ (fun hb222 => ?_) (fun hb222 => ?_)
            · exfalso; omega
            · refine a_aloadn dX11_signToken_225 rfl ?_
              refine b_getI (j' := 9) dX11_signToken_226 flX11_153 rfl rfl (L209 L) (fun hr226 => ?_)
              try simp (disch := omega) only [sm_n, sm_k, us_s, us_n, ← hq] at hr226 ⊢
              refine a_bipush (w := 43) dX11_signToken_229 (by decide) ?_
              refine a_icmp_eq (tgt := 270) dX11_signToken_231 (by decide) ⟨by omega, by omega⟩ ⟨by omega, by omega⟩ (fun hb231 => ?_) (fun hb231 => ?_)
              · exfalso; omega
              · refine a_aloadn dX11_signToken_234 rfl ?_
                refine b_getI (j' := 9) dX11_signToken_235 flX11_153 rfl rfl (L209 L) (fun hr235 => ?_)
                try simp (disch := omega) only [sm_n, sm_k, us_s, us_n, ← hq] at hr235 ⊢
                refine a_bipush (w := 45) dX11_signToken_238 (by decide) ?_
                refine a_icmp_eq (tgt := 270) dX11_signToken_240 (by decide) ⟨by omega, by omega⟩ ⟨by omega, by omega⟩ (fun hb240 => ?_) (fun hb240 => ?_)
                · exfalso; omega
                · refine a_aloadn dX11_signToken_243 rfl ?_
                  refine b_getI (j' := 9) dX11_signToken_244 flX11_153 rfl rfl (L209 L) (fun hr244 => ?_)
                  try simp (disch := omega) only [sm_n, sm_k, us_s, us_n, ← hq] at hr244 ⊢
                  refine a_bipush (w := 42) dX11_signToken_247 (by decide) ?_
                  refine a_icmp_eq (tgt := 270) dX11_signToken_249 (by decide) ⟨by omega, by omega⟩ ⟨by omega, by omega⟩ (fun hb249 => ?_) (fun hb249 => ?_)
                  · exfalso; omega
                  · refine a_aloadn dX11_signToken_252 rfl ?_
                    refine b_getI (j' := 9) dX11_signToken_253 flX11_153 rfl rfl (L209 L) (fun hr253 => ?_)
                    try simp (disch := omega) only [sm_n, sm_k, us_s, us_n, ← hq] at hr253 ⊢
                    refine a_bipush (w := 47) dX11_signToken_256 (by decide) ?_
                    refine a_icmp_eq (tgt := 270) dX11_signToken_258 (by decide) ⟨by omega, by omega⟩ ⟨by omega, by omega⟩ (fun hb258 => ?_) (fun hb258 => ?_)
                    · exfalso; omega
                    · refine a_aloadn dX11_signToken_261 rfl ?_
                      refine b_getI (j' := 9) dX11_signToken_262 flX11_153 rfl rfl (L209 L) (fun hr262 => ?_)
                      try simp (disch := omega) only [sm_n, sm_k, us_s, us_n, ← hq] at hr262 ⊢
                      refine a_bipush (w := 37) dX11_signToken_265 (by decide) ?_
                      refine a_icmp_ne (tgt := 274) dX11_signToken_267 (by decide) ⟨by omega, by omega⟩ ⟨by omega, by omega⟩ (fun hb267 => ?_) (fun hb267 => ?_)
                      · exfalso; omega
                      · refine a_iconst dX11_signToken_270 ?_
                        refine a_goto (tgt := 275) dX11_signToken_271 (by decide) ?_
                        refine c_istoren (ls' := [_, _, _, _]) dX11_signToken_275 (by decide) rfl rfl ?_
                        refine a_aloadn dX11_signToken_276 rfl ?_
                        refine a_iloadn dX11_signToken_277 rfl ?_
                        refine a_if_eq (tgt := 285) dX11_signToken_278 (by decide) ⟨by omega, by omega⟩ (fun hb278 => ?_) (fun hb278 => ?_)
                        · exfalso; omega
                        · refine a_iconst dX11_signToken_281 ?_
                          refine a_goto (tgt := 287) dX11_signToken_282 (by decide) ?_
                          refine a_putI (j' := 8) dX11_signToken_287 flX11_142 rfl rfl (L209 L) (by decide) rfl ⟨by omega, by omega⟩ ?_
                          exact a_return dX11_signToken_290 rfl rfl rfl (zrel_V (by
      refine ⟨?_, ?_, by simp (disch := decide) only [sm_k, us_s, us_n], ?_⟩
      · simp (disch := decide) only [sm_k, us_s, us_n] <;> omega
      · simp (disch := decide) only [sm_k, us_s, us_n]
        exact Or.inr (Or.inl ⟨rfl, Or.inr ⟨rfl, hc⟩⟩)
      · repeat (first | exact Fk.rf _ | refine Fk.sm ?_ (by omega) _)))
      · exfalso; omega

set_option maxRecDepth 100000 in
set_option maxHeartbeats 4000000 in
theorem m_signT_o {G : zG} {l : Launch} {L : Nat} {P : zP} {M : zM} {q : Int} (hP : PFok P) (hq : q = M 209 7) (hn : 0 ≤ q ∧ q < M 209 6 ∧ M 209 6 ≤ 700) (hc : M 210 q ≠ 60 ∧ M 210 q ≠ 62 ∧ M 210 q ≠ 61 ∧ M 210 q ≠ 43 ∧ M 210 q ≠ 45 ∧ M 210 q ≠ 42 ∧ M 210 q ≠ 47 ∧ M 210 q ≠ 40 ∧ M 210 q ≠ 41 ∧ M 210 q ≠ 59 ∧ M 210 q ≠ 37) : AM G l yX11_signToken mdX11_signToken [aR 209] (LAY L) P M (zrel none (LAY L) P (fun M' => M' 209 7 = q + 1 ∧ TKq 1 (-1) (M' 209 8) (M' 209 9) ∧ M' 209 10 = M 209 10 ∧ Fk M M')) := by
  refine AM.go [some (aR 209), none, none, none] rfl (Nat.le_of_ble_eq_true rfl) ?_ (by decide) rfl rfl
  refine a_aloadn dX11_signToken_0 rfl ?_
  refine a_aloadn dX11_signToken_1 rfl ?_
  refine a_getR (j' := 0) (y := 210) dX11_signToken_2 flX11_7 rfl rfl (L209 L) (p209_0 hP) ?_
  refine a_aloadn dX11_signToken_5 rfl ?_
  refine b_getI (j' := 7) dX11_signToken_6 flX11_139 rfl rfl (L209 L) (fun hr6 => ?_)
  try simp (disch := omega) only [sm_n, sm_k, us_s, us_n, ← hq] at hr6 ⊢
  refine b_iald (N := 700) dX11_signToken_9 (L210 L) (by decide) (by omega) (by omega) (fun hr9 => ?_)
  try simp (disch := omega) only [sm_n, sm_k, us_s, us_n, ← hq] at hr9 ⊢
  refine a_putI (j' := 9) dX11_signToken_10 flX11_153 rfl rfl (L209 L) (by decide) rfl hr9 ?_
  refine a_aloadn dX11_signToken_13 rfl ?_
  refine a_dupR dX11_signToken_14 ?_
  refine b_getI (j' := 7) dX11_signToken_15 flX11_139 rfl rfl (L209 L) (fun hr15 => ?_)
  try simp (disch := omega) only [sm_n, sm_k, us_s, us_n, ← hq] at hr15 ⊢
  refine a_iconst dX11_signToken_18 ?_
  refine a_iadd dX11_signToken_19 ?_
  refine a_putI (j' := 7) dX11_signToken_20 flX11_139 rfl rfl (L209 L) (by decide) rfl ⟨by omega, by omega⟩ ?_
  refine a_aloadn dX11_signToken_23 rfl ?_
  refine b_getI (j' := 9) dX11_signToken_24 flX11_153 rfl rfl (L209 L) (fun hr24 => ?_)
  try simp (disch := omega) only [sm_n, sm_k, us_s, us_n, ← hq] at hr24 ⊢
  refine a_bipush (w := 60) dX11_signToken_27 (by decide) ?_
  refine a_icmp_eq (tgt := 50) dX11_signToken_29 (by decide) ⟨by omega, by omega⟩ ⟨by omega, by omega⟩ (fun hb29 => ?_) (fun hb29 => ?_)
  · exfalso; omega
  · refine a_aloadn dX11_signToken_32 rfl ?_
    refine b_getI (j' := 9) dX11_signToken_33 flX11_153 rfl rfl (L209 L) (fun hr33 => ?_)
    try simp (disch := omega) only [sm_n, sm_k, us_s, us_n, ← hq] at hr33 ⊢
    refine a_bipush (w := 62) dX11_signToken_36 (by decide) ?_
    refine a_icmp_eq (tgt := 50) dX11_signToken_38 (by decide) ⟨by omega, by omega⟩ ⟨by omega, by omega⟩ (fun hb38 => ?_) (fun hb38 => ?_)
    · exfalso; omega
    · refine a_aloadn dX11_signToken_41 rfl ?_
      refine b_getI (j' := 9) dX11_signToken_42 flX11_153 rfl rfl (L209 L) (fun hr42 => ?_)
      try simp (disch := omega) only [sm_n, sm_k, us_s, us_n, ← hq] at hr42 ⊢
      refine a_bipush (w := 61) dX11_signToken_45 (by decide) ?_
      refine a_icmp_ne (tgt := 198) dX11_signToken_47 (by decide) ⟨by omega, by omega⟩ ⟨by omega, by omega⟩ (fun hb47 => ?_) (fun hb47 => ?_)
      · refine a_aloadn dX11_signToken_198 rfl ?_
        refine b_getI (j' := 9) dX11_signToken_199 flX11_153 rfl rfl (L209 L) (fun hr199 => ?_)
        try simp (disch := omega) only [sm_n, sm_k, us_s, us_n, ← hq] at hr199 ⊢
        refine a_bipush (w := 59) dX11_signToken_202 (by decide) ?_
        refine a_icmp_eq (tgt := 270) dX11_signToken_204 (by decide) ⟨by omega, by omega⟩ ⟨by omega, by omega⟩ (fun hb204 => ?_) (fun hb204 => ?_)
        · exfalso; omega
        · refine a_aloadn dX11_signToken_207 rfl ?_
          refine b_getI (j' := 9) dX11_signToken_208 flX11_153 rfl rfl (L209 L) (fun hr208 => ?_)
          try simp (disch := omega) only [sm_n, sm_k, us_s, us_n, ← hq] at hr208 ⊢
          refine a_bipush (w := 40) dX11_signToken_211 (by decide) ?_
          refine a_icmp_eq (tgt := 270) dX11_signToken_213 (by decide) ⟨by omega, by omega⟩ ⟨by omega, by omega⟩ (fun hb213 => ?_) (fun hb213 => ?_)
          · exfalso; omega
          · refine a_aloadn dX11_signToken_216 rfl ?_
            refine b_getI (j' := 9) dX11_signToken_217 flX11_153 rfl rfl (L209 L) (fun hr217 => ?_)
            try simp (disch := omega) only [sm_n, sm_k, us_s, us_n, ← hq] at hr217 ⊢
            refine a_bipush (w := 41) dX11_signToken_220 (by decide) ?_
            refine a_icmp_eq (tgt := 270) dX11_signToken_222 (by decide) ⟨by omega, by omega⟩ ⟨by omega, by omega⟩ (fun hb222 => ?_) (fun hb222 => ?_)
            · exfalso; omega
            · refine a_aloadn dX11_signToken_225 rfl ?_
              refine b_getI (j' := 9) dX11_signToken_226 flX11_153 rfl rfl (L209 L) (fun hr226 => ?_)
              try simp (disch := omega) only [sm_n, sm_k, us_s, us_n, ← hq] at hr226 ⊢
              refine a_bipush (w := 43) dX11_signToken_229 (by decide) ?_
              refine a_icmp_eq (tgt := 270) dX11_signToken_231 (by decide) ⟨by omega, by omega⟩ ⟨by omega, by omega⟩ (fun hb231 => ?_) (fun hb231 => ?_)
              · exfalso; omega
              · refine a_aloadn dX11_signToken_234 rfl ?_
                refine b_getI (j' := 9) dX11_signToken_235 flX11_153 rfl rfl (L209 L) (fun hr235 => ?_)
                try simp (disch := omega) only [sm_n, sm_k, us_s, us_n, ← hq] at hr235 ⊢
                refine a_bipush (w := 45) dX11_signToken_238 (by decide) ?_
                refine a_icmp_eq (tgt := 270) dX11_signToken_240 (by decide) ⟨by omega, by omega⟩ ⟨by omega, by omega⟩ (fun hb240 => ?_) (fun hb240 => ?_)
                · exfalso; omega
                · refine a_aloadn dX11_signToken_243 rfl ?_
                  refine b_getI (j' := 9) dX11_signToken_244 flX11_153 rfl rfl (L209 L) (fun hr244 => ?_)
                  try simp (disch := omega) only [sm_n, sm_k, us_s, us_n, ← hq] at hr244 ⊢
                  refine a_bipush (w := 42) dX11_signToken_247 (by decide) ?_
                  refine a_icmp_eq (tgt := 270) dX11_signToken_249 (by decide) ⟨by omega, by omega⟩ ⟨by omega, by omega⟩ (fun hb249 => ?_) (fun hb249 => ?_)
                  · exfalso; omega
                  · refine a_aloadn dX11_signToken_252 rfl ?_
                    refine b_getI (j' := 9) dX11_signToken_253 flX11_153 rfl rfl (L209 L) (fun hr253 => ?_)
                    try simp (disch := omega) only [sm_n, sm_k, us_s, us_n, ← hq] at hr253 ⊢
                    refine a_bipush (w := 47) dX11_signToken_256 (by decide) ?_
                    refine a_icmp_eq (tgt := 270) dX11_signToken_258 (by decide) ⟨by omega, by omega⟩ ⟨by omega, by omega⟩ (fun hb258 => ?_) (fun hb258 => ?_)
                    · exfalso; omega
                    · refine a_aloadn dX11_signToken_261 rfl ?_
                      refine b_getI (j' := 9) dX11_signToken_262 flX11_153 rfl rfl (L209 L) (fun hr262 => ?_)
                      try simp (disch := omega) only [sm_n, sm_k, us_s, us_n, ← hq] at hr262 ⊢
                      refine a_bipush (w := 37) dX11_signToken_265 (by decide) ?_
                      refine a_icmp_ne (tgt := 274) dX11_signToken_267 (by decide) ⟨by omega, by omega⟩ ⟨by omega, by omega⟩ (fun hb267 => ?_) (fun hb267 => ?_)
                      · refine a_iconst dX11_signToken_274 ?_
                        refine c_istoren (ls' := [_, _, _, _]) dX11_signToken_275 (by decide) rfl rfl ?_
                        refine a_aloadn dX11_signToken_276 rfl ?_
                        refine a_iloadn dX11_signToken_277 rfl ?_
                        refine a_if_eq (tgt := 285) dX11_signToken_278 (by decide) ⟨by omega, by omega⟩ (fun hb278 => ?_) (fun hb278 => ?_)
                        · refine a_bipush (w := 6) dX11_signToken_285 (by decide) ?_
                          refine a_putI (j' := 8) dX11_signToken_287 flX11_142 rfl rfl (L209 L) (by decide) rfl ⟨by omega, by omega⟩ ?_
                          exact a_return dX11_signToken_290 rfl rfl rfl (zrel_V (by
      refine ⟨?_, ?_, by simp (disch := decide) only [sm_k, us_s, us_n], ?_⟩
      · simp (disch := decide) only [sm_k, us_s, us_n] <;> omega
      · simp (disch := decide) only [sm_k, us_s, us_n]
        exact Or.inr (Or.inl ⟨rfl, Or.inl rfl⟩)
      · repeat (first | exact Fk.rf _ | refine Fk.sm ?_ (by omega) _)))
                        · exfalso; omega
                      · exfalso; omega
      · exfalso; omega
