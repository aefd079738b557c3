set_option maxRecDepth 100000 in
set_option maxHeartbeats 4000000 in
theorem lpX6_err {G : zG} {l : Launch} {L : Nat} {P : zP} {M0 M : zM} {w : Nat} {i h : Int} (hP : PFok P) (hW : LwA L P w) (hw : w ≤ 40) (hI : LwI M0 w) (hE : Ew M0 M) (hi : 0 ≤ i ∧ i ≤ 100) (hl : lawS (M0 52) (M0 (w + 1)) (M0 w 1).toNat = none) : AW G l mdX6_isWorkedOut (zany (LAY L) P (fun x M' => Ew M0 M' ∧ ((x = 1 ∧ lawS (M0 52) (M0 (w + 1)) (M0 w 1).toNat = some (M' 51 2)) ∨ (x = 0 ∧ lawS (M0 52) (M0 (w + 1)) (M0 w 1).toNat = none)))) 7 [some (aR 51), some (aR w), some (aI h), some (aI 1), some (aI i), none, none, none] [] (LAY L) P M 0 0 := by
  refine a_iload dX6_isWorkedOut_7 rfl ?_
  refine a_aloadn dX6_isWorkedOut_9 rfl ?_
  refine b_getI (j' := 1) dX6_isWorkedOut_10 flX6_20 rfl rfl hW.2.1 (fun hr10 => ?_)
  refine a_icmp_ge (tgt := 194) dX6_isWorkedOut_13 (by decide) ⟨by omega, by omega⟩ ⟨by omega, by omega⟩ (fun hb13 => ?_) (fun hb13 => ?_)
  · refine a_iloadn dX6_isWorkedOut_194 rfl ?_
    refine a_if_ne (tgt := 203) dX6_isWorkedOut_195 (by decide) ⟨by omega, by omega⟩ (fun hb195 => ?_) (fun hb195 => ?_)
    · refine a_iconst dX6_isWorkedOut_203 ?_
      exact a_zreturn dX6_isWorkedOut_204 rfl rfl rfl (by omega) (zany_i ⟨hE, Or.inr ⟨rfl, hl⟩⟩)
    · exfalso; omega
  · refine a_iloadn dX6_isWorkedOut_16 rfl ?_
    refine a_if_ne (tgt := 194) dX6_isWorkedOut_17 (by decide) ⟨by omega, by omega⟩ (fun hb17 => ?_) (fun hb17 => ?_)
    · refine a_iloadn dX6_isWorkedOut_194 rfl ?_
      refine a_if_ne (tgt := 203) dX6_isWorkedOut_195 (by decide) ⟨by omega, by omega⟩ (fun hb195 => ?_) (fun hb195 => ?_)
      · refine a_iconst dX6_isWorkedOut_203 ?_
        exact a_zreturn dX6_isWorkedOut_204 rfl rfl rfl (by omega) (zany_i ⟨hE, Or.inr ⟨rfl, hl⟩⟩)
      · exfalso; omega
    · exfalso; omega

set_option maxRecDepth 100000 in
set_option maxHeartbeats 4000000 in
theorem lpX6_isWorkedOut {G : zG} {l : Launch} {L : Nat} {P : zP} {M0 : zM} {w : Nat} (hP : PFok P) (hW : LwA L P w) (hw : w ≤ 40) (hI : LwI M0 w) (hN : NmI M0) : ∀ (n : Nat) (i h : Int) (M : zM) (s : List Int) (h0 : 0 ≤ i) (h1 : i + n = M0 w 1) (hE : Ew M0 M) (hs : SR (M 53) h s) (hh : h ≤ i) (hev : evS (M0 52) (M0 (w + 1)) (M0 w 1).toNat 0 [] = evS (M0 52) (M0 (w + 1)) n i s), AW G l mdX6_isWorkedOut (zany (LAY L) P (fun x M' => Ew M0 M' ∧ ((x = 1 ∧ lawS (M0 52) (M0 (w + 1)) (M0 w 1).toNat = some (M' 51 2)) ∨ (x = 0 ∧ lawS (M0 52) (M0 (w + 1)) (M0 w 1).toNat = none)))) 7 [some (aR 51), some (aR w), some (aI h), some (aI 0), some (aI i), none, none, none] [] (LAY L) P M 0 0 := by
  intro n
  induction n with
  | zero =>
    intro i h M s h0 h1 hE hs hh hev
    refine a_iload dX6_isWorkedOut_7 rfl ?_
    refine a_aloadn dX6_isWorkedOut_9 rfl ?_
    refine b_getI (j' := 1) dX6_isWorkedOut_10 flX6_20 rfl rfl hW.2.1 (fun hr10 => ?_)
    have q1 := hI.1
    have qs : M w 1 = M0 w 1 := hE _ _ (by omega) (by omega)
    have ql := hs.len
    refine a_icmp_ge (tgt := 194) dX6_isWorkedOut_13 (by decide) ⟨by omega, by omega⟩ ⟨by omega, by omega⟩ (fun hb13 => ?_) (fun hb13 => ?_)
    · refine a_iloadn dX6_isWorkedOut_194 rfl ?_
      refine a_if_ne (tgt := 203) dX6_isWorkedOut_195 (by decide) ⟨by omega, by omega⟩ (fun hb195 => ?_) (fun hb195 => ?_)
      · exfalso; omega
      · refine a_iloadn dX6_isWorkedOut_198 rfl ?_
        refine a_iconst dX6_isWorkedOut_199 ?_
        refine a_icmp_eq (tgt := 205) dX6_isWorkedOut_200 (by decide) ⟨by omega, by omega⟩ ⟨by omega, by omega⟩ (fun hb200 => ?_) (fun hb200 => ?_)
        · refine a_aloadn dX6_isWorkedOut_205 rfl ?_
          refine a_aloadn dX6_isWorkedOut_206 rfl ?_
          refine a_getR (j' := 1) (y := 53) dX6_isWorkedOut_207 flX6_17 rfl rfl (L51 L) (p51_1 hP) ?_
          refine a_iconst dX6_isWorkedOut_210 ?_
          refine b_lald (N := 64) dX6_isWorkedOut_211 (L53 L) (by decide) (by omega) (by omega) (fun hr211 => ?_)
          refine a_putL (j' := 2) dX6_isWorkedOut_212 flX6_36 rfl rfl (L51 L) (by decide) rfl hr211 ?_
          refine a_iconst dX6_isWorkedOut_215 ?_
          exact a_zreturn dX6_isWorkedOut_216 rfl rfl rfl (by omega) (zany_i ⟨hE.val _, Or.inl ⟨rfl, by rw [lawS_of hev]; simp only [evS]; match s, hs, ql with | [], _, ql => (simp at ql; omega) | [v], hs, _ => (have hv := hs.top.1; rw [show h - 1 = 0 by omega] at hv; rw [sm_s, hv]; rfl) | _ :: _ :: _, _, ql => (simp at ql; omega)⟩⟩)
        · refine a_iconst dX6_isWorkedOut_203 ?_
          exact a_zreturn dX6_isWorkedOut_204 rfl rfl rfl (by omega) (zany_i ⟨hE, Or.inr ⟨rfl, by rw [lawS_of hev]; simp only [evS]; match s, ql with | [], _ => rfl | [v], ql => (simp at ql; omega) | _ :: _ :: _, _ => rfl⟩⟩)
    · exfalso; omega
  | succ n ih =>
    intro i h M s h0 h1 hE hs hh hev
    refine a_iload dX6_isWorkedOut_7 rfl ?_
    refine a_aloadn dX6_isWorkedOut_9 rfl ?_
    refine b_getI (j' := 1) dX6_isWorkedOut_10 flX6_20 rfl rfl hW.2.1 (fun hr10 => ?_)
    have q1 := hI.1
    have qs : M w 1 = M0 w 1 := hE _ _ (by omega) (by omega)
    have ql := hs.len
    refine a_icmp_ge (tgt := 194) dX6_isWorkedOut_13 (by decide) ⟨by omega, by omega⟩ ⟨by omega, by omega⟩ (fun hb13 => ?_) (fun hb13 => ?_)
    · exfalso; omega
    · refine a_iloadn dX6_isWorkedOut_16 rfl ?_
      refine a_if_ne (tgt := 194) dX6_isWorkedOut_17 (by decide) ⟨by omega, by omega⟩ (fun hb17 => ?_) (fun hb17 => ?_)
      · exfalso; omega
      · refine a_aloadn dX6_isWorkedOut_20 rfl ?_
        refine a_getR (j' := 0) (y := (w + 1)) dX6_isWorkedOut_21 flX6_24 rfl rfl hW.2.1 hW.2.2.2 ?_
        refine a_iload dX6_isWorkedOut_24 rfl ?_
        refine b_iald (N := 64) dX6_isWorkedOut_26 hW.2.2.1 (by decide) (by omega) (by omega) (fun hr26 => ?_)
        have ek : M (w + 1) i = M0 (w + 1) i := hE _ _ (by omega) (by omega)
        have qk := hI.2 i (by omega) (by omega)
        unfold kok at qk
        rw [ek] at hr26
        rw [ek]
        refine c_istore (ls' := [_, _, _, _, _, _, _, _]) dX6_isWorkedOut_27 (by decide) rfl rfl ?_
        refine a_iload dX6_isWorkedOut_29 rfl ?_
        refine a_sipush (w := 20000) dX6_isWorkedOut_31 (by decide) ?_
        refine a_icmp_ge (tgt := 74) dX6_isWorkedOut_34 (by decide) ⟨by omega, by omega⟩ ⟨by omega, by omega⟩ (fun hb34 => ?_) (fun hb34 => ?_)
        · refine a_iload dX6_isWorkedOut_74 rfl ?_
          refine a_sipush (w := 20002) dX6_isWorkedOut_76 (by decide) ?_
          refine a_icmp_ne (tgt := 116) dX6_isWorkedOut_79 (by decide) ⟨by omega, by omega⟩ ⟨by omega, by omega⟩ (fun hb79 => ?_) (fun hb79 => ?_)
          · refine a_iloadn dX6_isWorkedOut_116 rfl ?_
            refine a_iconst dX6_isWorkedOut_117 ?_
            refine a_icmp_lt (tgt := 186) dX6_isWorkedOut_118 (by decide) ⟨by omega, by omega⟩ ⟨by omega, by omega⟩ (fun hb118 => ?_) (fun hb118 => ?_)
            · refine a_iconst dX6_isWorkedOut_186 ?_
              refine c_istoren (ls' := [_, _, _, _, _, _, _, _]) dX6_isWorkedOut_187 (by decide) rfl rfl ?_
              have hno : stS (M0 52) (M0 (w + 1) i) s = none := by
                have hlen := hs.len
                match s, hlen with
                | [], _ => exact stS_0 (by omega)
                | [a], hlen =>
                  have hl9 : h = 1 := by simpa using hlen
                  exact stS_1 (by omega) (by omega)
                | a :: b :: r, hlen => simp at hlen; omega
              refine c_iinc (ls' := [_, _, _, _, _, _, none, none]) dX6_isWorkedOut_188 rfl (by decide) rfl rfl ?_
              refine a_goto (tgt := 7) dX6_isWorkedOut_191 (by decide) ?_
              refine a_forget [5] (ls' := [_, _, _, _, _, none, none, none]) rfl ?_
              exact lpX6_err hP hW hw hI hE ⟨by omega, by omega⟩ (lawS_of (hev.trans (evS_e hno)))
            · have hb79' : M0 (w + 1) i ≠ 20002 := by omega
              obtain ⟨a, b, r, rfl⟩ := hs.c2 (by omega)
              have qt := hs.top
              have qn := hs.snd
              refine c_iinc (ls' := [_, _, _, _, _, _, _, _]) dX6_isWorkedOut_121 rfl (by decide) rfl rfl ?_
              refine a_iload dX6_isWorkedOut_124 rfl ?_
              refine a_sipush (w := 20000) dX6_isWorkedOut_126 (by decide) ?_
              refine a_isub dX6_isWorkedOut_129 ?_
              refine a_aloadn dX6_isWorkedOut_130 rfl ?_
              refine a_getR (j' := 1) (y := 53) dX6_isWorkedOut_131 flX6_17 rfl rfl (L51 L) (p51_1 hP) ?_
              refine a_iloadn dX6_isWorkedOut_134 rfl ?_
              refine a_iconst dX6_isWorkedOut_135 ?_
              refine a_isub dX6_isWorkedOut_136 ?_
              refine b_lald (N := 64) dX6_isWorkedOut_137 (L53 L) (by decide) (by omega) (by omega) (fun hr137 => ?_)
              refine a_aloadn dX6_isWorkedOut_138 rfl ?_
              refine a_getR (j' := 1) (y := 53) dX6_isWorkedOut_139 flX6_17 rfl rfl (L51 L) (p51_1 hP) ?_
              refine a_iloadn dX6_isWorkedOut_142 rfl ?_
              refine b_lald (N := 64) dX6_isWorkedOut_143 (L53 L) (by decide) (by omega) (by omega) (fun hr143 => ?_)
              have e1 : M 53 (h + -1 - 1) = b := by rw [show h + -1 - 1 = h - 2 by omega]; exact qn.1
              have e2 : M 53 (h + -1) = a := by rw [show h + -1 = h - 1 by omega]; exact qt.1
              rw [e1, e2]
              have qj := jn_in (s := M0 (w + 1) i - 20000) qn.2 qt.2
              refine a_callS (as := [_, _, _]) dX6_isWorkedOut_144 mvX6_28 ⟨by decide, by decide⟩ rfl rfl (Nat.le_of_ble_eq_true rfl) ⟨rfl, rfl⟩ ⟨by decide, by decide⟩ (m_X6_joined ⟨by omega, by omega⟩ qn.2 qt.2) ?_
              refine c_lstore (ls' := [_, _, _, _, _, _, _, _]) dX6_isWorkedOut_147 (by decide) rfl rfl ?_
              refine a_lload dX6_isWorkedOut_149 rfl ?_
              refine a_ldc2 (w := 1000000000000) dX6_isWorkedOut_151 knX6_32 (by decide) ?_
              refine c_lcmp dX6_isWorkedOut_154 ⟨by omega, by omega⟩ ⟨by omega, by omega⟩ (fun r154 hq154 => ?_)
              refine a_if_gt (tgt := 167) dX6_isWorkedOut_155 (by decide) ⟨by omega, by omega⟩ (fun hb155 => ?_) (fun hb155 => ?_)
              · refine a_iconst dX6_isWorkedOut_167 ?_
                refine a_goto (tgt := 172) dX6_isWorkedOut_168 (by decide) ?_
                refine c_istoren (ls' := [_, _, _, _, _, _, _, _]) dX6_isWorkedOut_172 (by decide) rfl rfl ?_
                refine a_aloadn dX6_isWorkedOut_173 rfl ?_
                refine a_getR (j' := 1) (y := 53) dX6_isWorkedOut_174 flX6_17 rfl rfl (L51 L) (p51_1 hP) ?_
                refine a_iloadn dX6_isWorkedOut_177 rfl ?_
                refine a_iconst dX6_isWorkedOut_178 ?_
                refine a_isub dX6_isWorkedOut_179 ?_
                refine a_lload dX6_isWorkedOut_180 rfl ?_
                refine a_last (N := 64) dX6_isWorkedOut_182 (L53 L) (by decide) (by decide) (by omega) (by omega) ⟨by omega, by omega⟩ ?_
                refine a_goto (tgt := 188) dX6_isWorkedOut_183 (by decide) ?_
                refine c_iinc (ls' := [_, _, _, _, _, _, _, none]) dX6_isWorkedOut_188 rfl (by decide) rfl rfl ?_
                refine a_goto (tgt := 7) dX6_isWorkedOut_191 (by decide) ?_
                refine a_forget [5, 6] (ls' := [_, _, _, _, _, none, none, none]) rfl ?_
                first
                | exact ih _ _ _ (jn (M0 (w + 1) i - 20000) b a :: r) (by omega) (by omega) (hE.st _ _) (by rw [sm_k]; exact hs.bin ⟨by omega, by omega⟩ (by omega) (by omega)) (by omega) (hev.trans (evS_k (by rw [stS_j (by omega) hb79', if_neg (by omega)])))
                | exact lpX6_err hP hW hw hI (hE.st _ _) ⟨by omega, by omega⟩ (lawS_of (hev.trans (evS_e (by rw [stS_j (by omega) hb79', if_pos (by omega)]))))
              · refine a_lload dX6_isWorkedOut_158 rfl ?_
                refine a_ldc2 (w := -1000000000000) dX6_isWorkedOut_160 knX6_34 (by decide) ?_
                refine c_lcmp dX6_isWorkedOut_163 ⟨by omega, by omega⟩ ⟨by omega, by omega⟩ (fun r163 hq163 => ?_)
                refine a_if_ge (tgt := 171) dX6_isWorkedOut_164 (by decide) ⟨by omega, by omega⟩ (fun hb164 => ?_) (fun hb164 => ?_)
                · refine a_iconst dX6_isWorkedOut_171 ?_
                  refine c_istoren (ls' := [_, _, _, _, _, _, _, _]) dX6_isWorkedOut_172 (by decide) rfl rfl ?_
                  refine a_aloadn dX6_isWorkedOut_173 rfl ?_
                  refine a_getR (j' := 1) (y := 53) dX6_isWorkedOut_174 flX6_17 rfl rfl (L51 L) (p51_1 hP) ?_
                  refine a_iloadn dX6_isWorkedOut_177 rfl ?_
                  refine a_iconst dX6_isWorkedOut_178 ?_
                  refine a_isub dX6_isWorkedOut_179 ?_
                  refine a_lload dX6_isWorkedOut_180 rfl ?_
                  refine a_last (N := 64) dX6_isWorkedOut_182 (L53 L) (by decide) (by decide) (by omega) (by omega) ⟨by omega, by omega⟩ ?_
                  refine a_goto (tgt := 188) dX6_isWorkedOut_183 (by decide) ?_
                  refine c_iinc (ls' := [_, _, _, _, _, _, _, none]) dX6_isWorkedOut_188 rfl (by decide) rfl rfl ?_
                  refine a_goto (tgt := 7) dX6_isWorkedOut_191 (by decide) ?_
                  refine a_forget [5, 6] (ls' := [_, _, _, _, _, none, none, none]) rfl ?_
                  first
                  | exact ih _ _ _ (jn (M0 (w + 1) i - 20000) b a :: r) (by omega) (by omega) (hE.st _ _) (by rw [sm_k]; exact hs.bin ⟨by omega, by omega⟩ (by omega) (by omega)) (by omega) (hev.trans (evS_k (by rw [stS_j (by omega) hb79', if_neg (by omega)])))
                  | exact lpX6_err hP hW hw hI (hE.st _ _) ⟨by omega, by omega⟩ (lawS_of (hev.trans (evS_e (by rw [stS_j (by omega) hb79', if_pos (by omega)]))))
                · refine a_iconst dX6_isWorkedOut_167 ?_
                  refine a_goto (tgt := 172) dX6_isWorkedOut_168 (by decide) ?_
                  refine c_istoren (ls' := [_, _, _, _, _, _, _, _]) dX6_isWorkedOut_172 (by decide) rfl rfl ?_
                  refine a_aloadn dX6_isWorkedOut_173 rfl ?_
                  refine a_getR (j' := 1) (y := 53) dX6_isWorkedOut_174 flX6_17 rfl rfl (L51 L) (p51_1 hP) ?_
                  refine a_iloadn dX6_isWorkedOut_177 rfl ?_
                  refine a_iconst dX6_isWorkedOut_178 ?_
                  refine a_isub dX6_isWorkedOut_179 ?_
                  refine a_lload dX6_isWorkedOut_180 rfl ?_
                  refine a_last (N := 64) dX6_isWorkedOut_182 (L53 L) (by decide) (by decide) (by omega) (by omega) ⟨by omega, by omega⟩ ?_
                  refine a_goto (tgt := 188) dX6_isWorkedOut_183 (by decide) ?_
                  refine c_iinc (ls' := [_, _, _, _, _, _, _, none]) dX6_isWorkedOut_188 rfl (by decide) rfl rfl ?_
                  refine a_goto (tgt := 7) dX6_isWorkedOut_191 (by decide) ?_
                  refine a_forget [5, 6] (ls' := [_, _, _, _, _, none, none, none]) rfl ?_
                  first
                  | exact ih _ _ _ (jn (M0 (w + 1) i - 20000) b a :: r) (by omega) (by omega) (hE.st _ _) (by rw [sm_k]; exact hs.bin ⟨by omega, by omega⟩ (by omega) (by omega)) (by omega) (hev.trans (evS_k (by rw [stS_j (by omega) hb79', if_neg (by omega)])))
                  | exact lpX6_err hP hW hw hI (hE.st _ _) ⟨by omega, by omega⟩ (lawS_of (hev.trans (evS_e (by rw [stS_j (by omega) hb79', if_pos (by omega)]))))
          · refine a_iloadn dX6_isWorkedOut_82 rfl ?_
            refine a_iconst dX6_isWorkedOut_83 ?_
            refine a_icmp_lt (tgt := 116) dX6_isWorkedOut_84 (by decide) ⟨by omega, by omega⟩ ⟨by omega, by omega⟩ (fun hb84 => ?_) (fun hb84 => ?_)
            · refine a_iloadn dX6_isWorkedOut_116 rfl ?_
              refine a_iconst dX6_isWorkedOut_117 ?_
              refine a_icmp_lt (tgt := 186) dX6_isWorkedOut_118 (by decide) ⟨by omega, by omega⟩ ⟨by omega, by omega⟩ (fun hb118 => ?_) (fun hb118 => ?_)
              · refine a_iconst dX6_isWorkedOut_186 ?_
                refine c_istoren (ls' := [_, _, _, _, _, _, _, _]) dX6_isWorkedOut_187 (by decide) rfl rfl ?_
                have hno : stS (M0 52) (M0 (w + 1) i) s = none := by
                  have hlen := hs.len
                  match s, hlen with
                  | [], _ => exact stS_0 (by omega)
                  | [a], hlen =>
                    have hl9 : h = 1 := by simpa using hlen
                    exact stS_1 (by omega) (by omega)
                  | a :: b :: r, hlen => simp at hlen; omega
                refine c_iinc (ls' := [_, _, _, _, _, _, none, none]) dX6_isWorkedOut_188 rfl (by decide) rfl rfl ?_
                refine a_goto (tgt := 7) dX6_isWorkedOut_191 (by decide) ?_
                refine a_forget [5] (ls' := [_, _, _, _, _, none, none, none]) rfl ?_
                exact lpX6_err hP hW hw hI hE ⟨by omega, by omega⟩ (lawS_of (hev.trans (evS_e hno)))
              · have hb79' : M0 (w + 1) i ≠ 20002 := by omega
                obtain ⟨a, b, r, rfl⟩ := hs.c2 (by omega)
                have qt := hs.top
                have qn := hs.snd
                refine c_iinc (ls' := [_, _, _, _, _, _, _, _]) dX6_isWorkedOut_121 rfl (by decide) rfl rfl ?_
                refine a_iload dX6_isWorkedOut_124 rfl ?_
                refine a_sipush (w := 20000) dX6_isWorkedOut_126 (by decide) ?_
                refine a_isub dX6_isWorkedOut_129 ?_
                refine a_aloadn dX6_isWorkedOut_130 rfl ?_
                refine a_getR (j' := 1) (y := 53) dX6_isWorkedOut_131 flX6_17 rfl rfl (L51 L) (p51_1 hP) ?_
                refine a_iloadn dX6_isWorkedOut_134 rfl ?_
                refine a_iconst dX6_isWorkedOut_135 ?_
                refine a_isub dX6_isWorkedOut_136 ?_
                refine b_lald (N := 64) dX6_isWorkedOut_137 (L53 L) (by decide) (by omega) (by omega) (fun hr137 => ?_)
                refine a_aloadn dX6_isWorkedOut_138 rfl ?_
                refine a_getR (j' := 1) (y := 53) dX6_isWorkedOut_139 flX6_17 rfl rfl (L51 L) (p51_1 hP) ?_
                refine a_iloadn dX6_isWorkedOut_142 rfl ?_
                refine b_lald (N := 64) dX6_isWorkedOut_143 (L53 L) (by decide) (by omega) (by omega) (fun hr143 => ?_)
                have e1 : M 53 (h + -1 - 1) = b := by rw [show h + -1 - 1 = h - 2 by omega]; exact qn.1
                have e2 : M 53 (h + -1) = a := by rw [show h + -1 = h - 1 by omega]; exact qt.1
                rw [e1, e2]
                have qj := jn_in (s := M0 (w + 1) i - 20000) qn.2 qt.2
                refine a_callS (as := [_, _, _]) dX6_isWorkedOut_144 mvX6_28 ⟨by decide, by decide⟩ rfl rfl (Nat.le_of_ble_eq_true rfl) ⟨rfl, rfl⟩ ⟨by decide, by decide⟩ (m_X6_joined ⟨by omega, by omega⟩ qn.2 qt.2) ?_
                refine c_lstore (ls' := [_, _, _, _, _, _, _, _]) dX6_isWorkedOut_147 (by decide) rfl rfl ?_
                refine a_lload dX6_isWorkedOut_149 rfl ?_
                refine a_ldc2 (w := 1000000000000) dX6_isWorkedOut_151 knX6_32 (by decide) ?_
                refine c_lcmp dX6_isWorkedOut_154 ⟨by omega, by omega⟩ ⟨by omega, by omega⟩ (fun r154 hq154 => ?_)
                refine a_if_gt (tgt := 167) dX6_isWorkedOut_155 (by decide) ⟨by omega, by omega⟩ (fun hb155 => ?_) (fun hb155 => ?_)
                · refine a_iconst dX6_isWorkedOut_167 ?_
                  refine a_goto (tgt := 172) dX6_isWorkedOut_168 (by decide) ?_
                  refine c_istoren (ls' := [_, _, _, _, _, _, _, _]) dX6_isWorkedOut_172 (by decide) rfl rfl ?_
                  refine a_aloadn dX6_isWorkedOut_173 rfl ?_
                  refine a_getR (j' := 1) (y := 53) dX6_isWorkedOut_174 flX6_17 rfl rfl (L51 L) (p51_1 hP) ?_
                  refine a_iloadn dX6_isWorkedOut_177 rfl ?_
                  refine a_iconst dX6_isWorkedOut_178 ?_
                  refine a_isub dX6_isWorkedOut_179 ?_
                  refine a_lload dX6_isWorkedOut_180 rfl ?_
                  refine a_last (N := 64) dX6_isWorkedOut_182 (L53 L) (by decide) (by decide) (by omega) (by omega) ⟨by omega, by omega⟩ ?_
                  refine a_goto (tgt := 188) dX6_isWorkedOut_183 (by decide) ?_
                  refine c_iinc (ls' := [_, _, _, _, _, _, _, none]) dX6_isWorkedOut_188 rfl (by decide) rfl rfl ?_
                  refine a_goto (tgt := 7) dX6_isWorkedOut_191 (by decide) ?_
                  refine a_forget [5, 6] (ls' := [_, _, _, _, _, none, none, none]) rfl ?_
                  first
                  | exact ih _ _ _ (jn (M0 (w + 1) i - 20000) b a :: r) (by omega) (by omega) (hE.st _ _) (by rw [sm_k]; exact hs.bin ⟨by omega, by omega⟩ (by omega) (by omega)) (by omega) (hev.trans (evS_k (by rw [stS_j (by omega) hb79', if_neg (by omega)])))
                  | exact lpX6_err hP hW hw hI (hE.st _ _) ⟨by omega, by omega⟩ (lawS_of (hev.trans (evS_e (by rw [stS_j (by omega) hb79', if_pos (by omega)]))))
                · refine a_lload dX6_isWorkedOut_158 rfl ?_
                  refine a_ldc2 (w := -1000000000000) dX6_isWorkedOut_160 knX6_34 (by decide) ?_
                  refine c_lcmp dX6_isWorkedOut_163 ⟨by omega, by omega⟩ ⟨by omega, by omega⟩ (fun r163 hq163 => ?_)
                  refine a_if_ge (tgt := 171) dX6_isWorkedOut_164 (by decide) ⟨by omega, by omega⟩ (fun hb164 => ?_) (fun hb164 => ?_)
                  · refine a_iconst dX6_isWorkedOut_171 ?_
                    refine c_istoren (ls' := [_, _, _, _, _, _, _, _]) dX6_isWorkedOut_172 (by decide) rfl rfl ?_
                    refine a_aloadn dX6_isWorkedOut_173 rfl ?_
                    refine a_getR (j' := 1) (y := 53) dX6_isWorkedOut_174 flX6_17 rfl rfl (L51 L) (p51_1 hP) ?_
                    refine a_iloadn dX6_isWorkedOut_177 rfl ?_
                    refine a_iconst dX6_isWorkedOut_178 ?_
                    refine a_isub dX6_isWorkedOut_179 ?_
                    refine a_lload dX6_isWorkedOut_180 rfl ?_
                    refine a_last (N := 64) dX6_isWorkedOut_182 (L53 L) (by decide) (by decide) (by omega) (by omega) ⟨by omega, by omega⟩ ?_
                    refine a_goto (tgt := 188) dX6_isWorkedOut_183 (by decide) ?_
                    refine c_iinc (ls' := [_, _, _, _, _, _, _, none]) dX6_isWorkedOut_188 rfl (by decide) rfl rfl ?_
                    refine a_goto (tgt := 7) dX6_isWorkedOut_191 (by decide) ?_
                    refine a_forget [5, 6] (ls' := [_, _, _, _, _, none, none, none]) rfl ?_
                    first
                    | exact ih _ _ _ (jn (M0 (w + 1) i - 20000) b a :: r) (by omega) (by omega) (hE.st _ _) (by rw [sm_k]; exact hs.bin ⟨by omega, by omega⟩ (by omega) (by omega)) (by omega) (hev.trans (evS_k (by rw [stS_j (by omega) hb79', if_neg (by omega)])))
                    | exact lpX6_err hP hW hw hI (hE.st _ _) ⟨by omega, by omega⟩ (lawS_of (hev.trans (evS_e (by rw [stS_j (by omega) hb79', if_pos (by omega)]))))
                  · refine a_iconst dX6_isWorkedOut_167 ?_
                    refine a_goto (tgt := 172) dX6_isWorkedOut_168 (by decide) ?_
                    refine c_istoren (ls' := [_, _, _, _, _, _, _, _]) dX6_isWorkedOut_172 (by decide) rfl rfl ?_
                    refine a_aloadn dX6_isWorkedOut_173 rfl ?_
                    refine a_getR (j' := 1) (y := 53) dX6_isWorkedOut_174 flX6_17 rfl rfl (L51 L) (p51_1 hP) ?_
                    refine a_iloadn dX6_isWorkedOut_177 rfl ?_
                    refine a_iconst dX6_isWorkedOut_178 ?_
                    refine a_isub dX6_isWorkedOut_179 ?_
                    refine a_lload dX6_isWorkedOut_180 rfl ?_
                    refine a_last (N := 64) dX6_isWorkedOut_182 (L53 L) (by decide) (by decide) (by omega) (by omega) ⟨by omega, by omega⟩ ?_
                    refine a_goto (tgt := 188) dX6_isWorkedOut_183 (by decide) ?_
                    refine c_iinc (ls' := [_, _, _, _, _, _, _, none]) dX6_isWorkedOut_188 rfl (by decide) rfl rfl ?_
                    refine a_goto (tgt := 7) dX6_isWorkedOut_191 (by decide) ?_
                    refine a_forget [5, 6] (ls' := [_, _, _, _, _, none, none, none]) rfl ?_
                    first
                    | exact ih _ _ _ (jn (M0 (w + 1) i - 20000) b a :: r) (by omega) (by omega) (hE.st _ _) (by rw [sm_k]; exact hs.bin ⟨by omega, by omega⟩ (by omega) (by omega)) (by omega) (hev.trans (evS_k (by rw [stS_j (by omega) hb79', if_neg (by omega)])))
                    | exact lpX6_err hP hW hw hI (hE.st _ _) ⟨by omega, by omega⟩ (lawS_of (hev.trans (evS_e (by rw [stS_j (by omega) hb79', if_pos (by omega)]))))
            · obtain ⟨a, r, rfl⟩ := hs.c1 (by omega)
              have qt := hs.top
              refine a_aloadn dX6_isWorkedOut_87 rfl ?_
              refine a_getR (j' := 1) (y := 53) dX6_isWorkedOut_88 flX6_17 rfl rfl (L51 L) (p51_1 hP) ?_
              refine a_iloadn dX6_isWorkedOut_91 rfl ?_
              refine a_iconst dX6_isWorkedOut_92 ?_
              refine a_isub dX6_isWorkedOut_93 ?_
              refine a_aloadn dX6_isWorkedOut_94 rfl ?_
              refine a_getR (j' := 1) (y := 53) dX6_isWorkedOut_95 flX6_17 rfl rfl (L51 L) (p51_1 hP) ?_
              refine a_iloadn dX6_isWorkedOut_98 rfl ?_
              refine a_iconst dX6_isWorkedOut_99 ?_
              refine a_isub dX6_isWorkedOut_100 ?_
              refine b_lald (N := 64) dX6_isWorkedOut_101 (L53 L) (by decide) (by omega) (by omega) (fun hr101 => ?_)
              refine a_lconst (w := 0) dX6_isWorkedOut_102 (by decide) ?_
              refine c_lcmp dX6_isWorkedOut_103 ⟨by omega, by omega⟩ ⟨by omega, by omega⟩ (fun r103 hq103 => ?_)
              rw [qt.1] at hq103
              refine a_if_ne (tgt := 111) dX6_isWorkedOut_104 (by decide) ⟨by omega, by omega⟩ (fun hb104 => ?_) (fun hb104 => ?_)
              · refine a_lconst (w := 0) dX6_isWorkedOut_111 (by decide) ?_
                refine a_last (N := 64) dX6_isWorkedOut_112 (L53 L) (by decide) (by decide) (by omega) (by omega) ⟨by omega, by omega⟩ ?_
                refine a_goto (tgt := 188) dX6_isWorkedOut_113 (by decide) ?_
                refine c_iinc (ls' := [_, _, _, _, _, _, none, none]) dX6_isWorkedOut_188 rfl (by decide) rfl rfl ?_
                refine a_goto (tgt := 7) dX6_isWorkedOut_191 (by decide) ?_
                refine a_forget [5] (ls' := [_, _, _, _, _, none, none, none]) rfl ?_
                first
                | exact ih _ _ _ (1 :: r) (by omega) (by omega) (hE.st _ _) (by rw [sm_k]; exact hs.rep ⟨by decide, by decide⟩ rfl) (by omega) (hev.trans (evS_k (by rw [stS_not hb79, if_pos (by omega)])))
                | exact ih _ _ _ (0 :: r) (by omega) (by omega) (hE.st _ _) (by rw [sm_k]; exact hs.rep ⟨by decide, by decide⟩ rfl) (by omega) (hev.trans (evS_k (by rw [stS_not hb79, if_neg (by omega)])))
              · refine a_lconst (w := 1) dX6_isWorkedOut_107 (by decide) ?_
                refine a_goto (tgt := 112) dX6_isWorkedOut_108 (by decide) ?_
                refine a_last (N := 64) dX6_isWorkedOut_112 (L53 L) (by decide) (by decide) (by omega) (by omega) ⟨by omega, by omega⟩ ?_
                refine a_goto (tgt := 188) dX6_isWorkedOut_113 (by decide) ?_
                refine c_iinc (ls' := [_, _, _, _, _, _, none, none]) dX6_isWorkedOut_188 rfl (by decide) rfl rfl ?_
                refine a_goto (tgt := 7) dX6_isWorkedOut_191 (by decide) ?_
                refine a_forget [5] (ls' := [_, _, _, _, _, none, none, none]) rfl ?_
                first
                | exact ih _ _ _ (1 :: r) (by omega) (by omega) (hE.st _ _) (by rw [sm_k]; exact hs.rep ⟨by decide, by decide⟩ rfl) (by omega) (hev.trans (evS_k (by rw [stS_not hb79, if_pos (by omega)])))
                | exact ih _ _ _ (0 :: r) (by omega) (by omega) (hE.st _ _) (by rw [sm_k]; exact hs.rep ⟨by decide, by decide⟩ rfl) (by omega) (hev.trans (evS_k (by rw [stS_not hb79, if_neg (by omega)])))
        · refine a_aloadn dX6_isWorkedOut_37 rfl ?_
          refine a_getR (j' := 1) (y := 53) dX6_isWorkedOut_38 flX6_17 rfl rfl (L51 L) (p51_1 hP) ?_
          refine a_iloadn dX6_isWorkedOut_41 rfl ?_
          refine a_iload dX6_isWorkedOut_42 rfl ?_
          refine a_sipush (w := 10000) dX6_isWorkedOut_44 (by decide) ?_
          refine a_icmp_ge (tgt := 56) dX6_isWorkedOut_47 (by decide) ⟨by omega, by omega⟩ ⟨by omega, by omega⟩ (fun hb47 => ?_) (fun hb47 => ?_)
          · refine a_aloadn dX6_isWorkedOut_56 rfl ?_
            refine a_getR (j' := 0) (y := 52) dX6_isWorkedOut_57 flX6_13 rfl rfl (L51 L) (p51_0 hP) ?_
            refine a_iload dX6_isWorkedOut_60 rfl ?_
            refine a_sipush (w := 10000) dX6_isWorkedOut_62 (by decide) ?_
            refine a_isub dX6_isWorkedOut_65 ?_
            refine b_lald (N := 7) dX6_isWorkedOut_66 (L52 L) (by decide) (by omega) (by omega) (fun hr66 => ?_)
            first | (have en : M 52 (M0 (w + 1) i - 10000) = M0 52 (M0 (w + 1) i - 10000) := hE _ _ (by omega) (by omega); rw [en]; have qn := hN (M0 (w + 1) i - 10000) (by omega) (by omega)) | skip
            refine a_last (N := 64) dX6_isWorkedOut_67 (L53 L) (by decide) (by decide) (by omega) (by omega) ⟨by omega, by omega⟩ ?_
            refine c_iinc (ls' := [_, _, _, _, _, _, _, _]) dX6_isWorkedOut_68 rfl (by decide) rfl rfl ?_
            refine a_goto (tgt := 188) dX6_isWorkedOut_71 (by decide) ?_
            refine c_iinc (ls' := [_, _, _, _, _, _, none, none]) dX6_isWorkedOut_188 rfl (by decide) rfl rfl ?_
            refine a_goto (tgt := 7) dX6_isWorkedOut_191 (by decide) ?_
            refine a_forget [5] (ls' := [_, _, _, _, _, none, none, none]) rfl ?_
            first
            | exact ih _ _ _ (M0 (w + 1) i :: s) (by omega) (by omega) (hE.st _ _) (by rw [sm_k]; exact hs.push ⟨by omega, by omega⟩ rfl) (by omega) (hev.trans (evS_k (stS_c s (by omega))))
            | exact ih _ _ _ (M0 52 (M0 (w + 1) i - 10000) :: s) (by omega) (by omega) (hE.st _ _) (by rw [sm_k]; exact hs.push (hN _ (by omega) (by omega)) rfl) (by omega) (hev.trans (evS_k (stS_n s (by omega) (by omega))))
          · refine a_iload dX6_isWorkedOut_50 rfl ?_
            refine a_i2l dX6_isWorkedOut_52 ⟨by omega, by omega⟩ ?_
            refine a_goto (tgt := 67) dX6_isWorkedOut_53 (by decide) ?_
            first | (have en : M 52 (M0 (w + 1) i - 10000) = M0 52 (M0 (w + 1) i - 10000) := hE _ _ (by omega) (by omega); rw [en]; have qn := hN (M0 (w + 1) i - 10000) (by omega) (by omega)) | skip
            refine a_last (N := 64) dX6_isWorkedOut_67 (L53 L) (by decide) (by decide) (by omega) (by omega) ⟨by omega, by omega⟩ ?_
            refine c_iinc (ls' := [_, _, _, _, _, _, _, _]) dX6_isWorkedOut_68 rfl (by decide) rfl rfl ?_
            refine a_goto (tgt := 188) dX6_isWorkedOut_71 (by decide) ?_
            refine c_iinc (ls' := [_, _, _, _, _, _, none, none]) dX6_isWorkedOut_188 rfl (by decide) rfl rfl ?_
            refine a_goto (tgt := 7) dX6_isWorkedOut_191 (by decide) ?_
            refine a_forget [5] (ls' := [_, _, _, _, _, none, none, none]) rfl ?_
            first
            | exact ih _ _ _ (M0 (w + 1) i :: s) (by omega) (by omega) (hE.st _ _) (by rw [sm_k]; exact hs.push ⟨by omega, by omega⟩ rfl) (by omega) (hev.trans (evS_k (stS_c s (by omega))))
            | exact ih _ _ _ (M0 52 (M0 (w + 1) i - 10000) :: s) (by omega) (by omega) (hE.st _ _) (by rw [sm_k]; exact hs.push (hN _ (by omega) (by omega)) rfl) (by omega) (hev.trans (evS_k (stS_n s (by omega) (by omega))))

set_option maxRecDepth 100000 in
set_option maxHeartbeats 4000000 in
theorem m_X6_isWorkedOut {G : zG} {l : Launch} {L : Nat} {P : zP} {M : zM} {w : Nat} (hP : PFok P) (hW : LwA L P w) (hw : w ≤ 40) (hI : LwI M w) (hN : NmI M) : AM G l yX6_isWorkedOut mdX6_isWorkedOut [aR 51, aR w] (LAY L) P M (zany (LAY L) P (fun x M' => Ew M M' ∧ ((x = 1 ∧ lawS (M 52) (M (w + 1)) (M w 1).toNat = some (M' 51 2)) ∨ (x = 0 ∧ lawS (M 52) (M (w + 1)) (M w 1).toNat = none)))) := by
  refine AM.go [some (aR 51), some (aR w), none, none, none, none, none, none] rfl (Nat.le_of_ble_eq_true rfl) ?_ (by decide) rfl rfl
  refine a_iconst dX6_isWorkedOut_0 ?_
  refine c_istoren (ls' := [_, _, _, _, _, _, _, _]) dX6_isWorkedOut_1 (by decide) rfl rfl ?_
  refine a_iconst dX6_isWorkedOut_2 ?_
  refine c_istoren (ls' := [_, _, _, _, _, _, _, _]) dX6_isWorkedOut_3 (by decide) rfl rfl ?_
  refine a_iconst dX6_isWorkedOut_4 ?_
  refine c_istore (ls' := [_, _, _, _, _, _, _, _]) dX6_isWorkedOut_5 (by decide) rfl rfl ?_
  exact lpX6_isWorkedOut hP hW hw hI hN (M w 1).toNat 0 0 M [] (by omega) (by have := hI.1; omega) (Ew.rf M) (SR.nil _) (by omega) rfl
