set_option maxRecDepth 100000 in
set_option maxHeartbeats 4000000 in
theorem m_X11_valueOf {G : zG} {l : Launch} {L : Nat} {P : zP} {M : zM} {i : Int} (hP : PFok P) (hi : 0 ≤ i ∧ i < 64) (hk : 0 ≤ M 226 i ∧ M 226 i ≤ 14) (k0 : M 226 i = 0 → 0 ≤ M 227 i ∧ M 227 i ≤ 9999) (k1 : M 226 i = 1 → 0 ≤ M 227 i ∧ M 227 i ≤ 6) (k2 : 2 ≤ M 226 i → 0 ≤ M 227 i ∧ M 227 i < 64 ∧ lim (M 232 (M 227 i))) (k3 : 3 ≤ M 226 i → 0 ≤ M 228 i ∧ M 228 i < 64 ∧ lim (M 232 (M 228 i))) : AM G l yX11_valueOf mdX11_valueOf [aR 209, aI i] (LAY L) P M (zanyL (LAY L) P (fun x M' => (∀ (k : Nat) (j : Int), ¬ (k = 209 ∧ j = 47) → M' k j = M k j) ∧ M' 209 47 = (if M 226 i < 11 then M 209 47 else vE (M 226) (M 227) (M 228) (M 232) (M 209 47) i) ∧ x = vV (M 231) (M 226) (M 227) (M 228) (M 232) (M 209 47) i)) := by
  refine AM.go [some (aR 209), some (aI i), none, none, none, none] rfl (Nat.le_of_ble_eq_true rfl) ?_ (by decide) rfl rfl
  refine a_aloadn dX11_valueOf_0 rfl ?_
  refine a_getR (j' := 34) (y := 226) dX11_valueOf_1 flX11_63 rfl rfl (L209 L) (p209_34 hP) ?_
  refine a_iloadn dX11_valueOf_4 rfl ?_
  refine b_iald (N := 128) dX11_valueOf_5 (L226 L) (by decide) (by omega) (by omega) (fun hr5 => ?_)
  refine a_if_ne (tgt := 17) dX11_valueOf_6 (by decide) hr5 (fun hb6 => ?_) (fun hb6 => ?_)
  · refine a_aloadn dX11_valueOf_17 rfl ?_
    refine a_getR (j' := 34) (y := 226) dX11_valueOf_18 flX11_63 rfl rfl (L209 L) (p209_34 hP) ?_
    refine a_iloadn dX11_valueOf_21 rfl ?_
    refine b_iald (N := 128) dX11_valueOf_22 (L226 L) (by decide) (by omega) (by omega) (fun hr22 => ?_)
    refine a_iconst dX11_valueOf_23 ?_
    refine a_icmp_ne (tgt := 39) dX11_valueOf_24 (by decide) ⟨by omega, by omega⟩ ⟨by omega, by omega⟩ (fun hb24 => ?_) (fun hb24 => ?_)
    · have q2 := k2 (by omega)
      refine a_aloadn dX11_valueOf_39 rfl ?_
      refine a_getR (j' := 46) (y := 232) dX11_valueOf_40 flX11_82 rfl rfl (L209 L) (p209_46 hP) ?_
      refine a_aloadn dX11_valueOf_43 rfl ?_
      refine a_getR (j' := 35) (y := 227) dX11_valueOf_44 flX11_66 rfl rfl (L209 L) (p209_35 hP) ?_
      refine a_iloadn dX11_valueOf_47 rfl ?_
      refine b_iald (N := 128) dX11_valueOf_48 (L227 L) (by decide) (by omega) (by omega) (fun hr48 => ?_)
      refine b_lald (N := 64) dX11_valueOf_49 (L232 L) (by decide) (by omega) (by omega) (fun hr49 => ?_)
      refine c_lstoren (ls' := [_, _, _, _, _, _]) dX11_valueOf_50 (by decide) rfl rfl ?_
      refine a_aloadn dX11_valueOf_51 rfl ?_
      refine a_getR (j' := 34) (y := 226) dX11_valueOf_52 flX11_63 rfl rfl (L209 L) (p209_34 hP) ?_
      refine a_iloadn dX11_valueOf_55 rfl ?_
      refine b_iald (N := 128) dX11_valueOf_56 (L226 L) (by decide) (by omega) (by omega) (fun hr56 => ?_)
      refine a_iconst dX11_valueOf_57 ?_
      refine a_icmp_ne (tgt := 73) dX11_valueOf_58 (by decide) ⟨by omega, by omega⟩ ⟨by omega, by omega⟩ (fun hb58 => ?_) (fun hb58 => ?_)
      · have q3 := k3 (by omega)
        refine a_aloadn dX11_valueOf_73 rfl ?_
        refine a_getR (j' := 46) (y := 232) dX11_valueOf_74 flX11_82 rfl rfl (L209 L) (p209_46 hP) ?_
        refine a_aloadn dX11_valueOf_77 rfl ?_
        refine a_getR (j' := 36) (y := 228) dX11_valueOf_78 flX11_69 rfl rfl (L209 L) (p209_36 hP) ?_
        refine a_iloadn dX11_valueOf_81 rfl ?_
        refine b_iald (N := 128) dX11_valueOf_82 (L228 L) (by decide) (by omega) (by omega) (fun hr82 => ?_)
        refine b_lald (N := 64) dX11_valueOf_83 (L232 L) (by decide) (by omega) (by omega) (fun hr83 => ?_)
        refine c_lstore (ls' := [_, _, _, _, _, _]) dX11_valueOf_84 (by decide) rfl rfl ?_
        refine a_aloadn dX11_valueOf_86 rfl ?_
        refine a_getR (j' := 34) (y := 226) dX11_valueOf_87 flX11_63 rfl rfl (L209 L) (p209_34 hP) ?_
        refine a_iloadn dX11_valueOf_90 rfl ?_
        refine b_iald (N := 128) dX11_valueOf_91 (L226 L) (by decide) (by omega) (by omega) (fun hr91 => ?_)
        rcases (show M 226 i = 3 ∨ M 226 i = 4 ∨ M 226 i = 5 ∨ M 226 i = 6 ∨ M 226 i = 7 ∨ M 226 i = 8 ∨ M 226 i = 9 ∨ M 226 i = 10 ∨ M 226 i = 11 ∨ M 226 i = 12 ∨ M 226 i = 13 ∨ M 226 i = 14 by omega) with e | e | e | e | e | e | e | e | e | e | e | e
        · refine c_tabIn (tgt := 156) (off := 64) e dX11_valueOf_92 ⟨by decide, by decide⟩ (by decide) (by decide) rfl (by decide) ?_
          refine a_lloadn dX11_valueOf_156 rfl ?_
          refine a_lconst (w := 0) dX11_valueOf_157 (by decide) ?_
          refine c_lcmp dX11_valueOf_158 ⟨by omega, by omega⟩ ⟨by omega, by omega⟩ (fun r158 hq158 => ?_)
          refine a_if_eq (tgt := 173) dX11_valueOf_159 (by decide) ⟨by omega, by omega⟩ (fun hb159 => ?_) (fun hb159 => ?_)
          · refine a_lconst (w := 0) dX11_valueOf_173 (by decide) ?_
            exact a_lreturn dX11_valueOf_174 rfl rfl rfl (zanyL_i ⟨fun _ _ _ => rfl, by rw [if_pos (by omega)], by rw [vV_lo (by omega) (by omega) (s := 1) (by unfold sgn; rw [e]; rfl)]; show _ = (if M 232 (M 227 i) ≠ 0 ∧ M 232 (M 228 i) ≠ 0 then (1 : Int) else 0); first | (rw [if_pos (by omega)]; done) | (rw [if_neg (by omega)]; done)⟩)
          · refine a_lload dX11_valueOf_162 rfl ?_
            refine a_lconst (w := 0) dX11_valueOf_164 (by decide) ?_
            refine c_lcmp dX11_valueOf_165 ⟨by omega, by omega⟩ ⟨by omega, by omega⟩ (fun r165 hq165 => ?_)
            refine a_if_eq (tgt := 173) dX11_valueOf_166 (by decide) ⟨by omega, by omega⟩ (fun hb166 => ?_) (fun hb166 => ?_)
            · refine a_lconst (w := 0) dX11_valueOf_173 (by decide) ?_
              exact a_lreturn dX11_valueOf_174 rfl rfl rfl (zanyL_i ⟨fun _ _ _ => rfl, by rw [if_pos (by omega)], by rw [vV_lo (by omega) (by omega) (s := 1) (by unfold sgn; rw [e]; rfl)]; show _ = (if M 232 (M 227 i) ≠ 0 ∧ M 232 (M 228 i) ≠ 0 then (1 : Int) else 0); first | (rw [if_pos (by omega)]; done) | (rw [if_neg (by omega)]; done)⟩)
            · refine a_lconst (w := 1) dX11_valueOf_169 (by decide) ?_
              refine a_goto (tgt := 174) dX11_valueOf_170 (by decide) ?_
              exact a_lreturn dX11_valueOf_174 rfl rfl rfl (zanyL_i ⟨fun _ _ _ => rfl, by rw [if_pos (by omega)], by rw [vV_lo (by omega) (by omega) (s := 1) (by unfold sgn; rw [e]; rfl)]; show _ = (if M 232 (M 227 i) ≠ 0 ∧ M 232 (M 228 i) ≠ 0 then (1 : Int) else 0); first | (rw [if_pos (by omega)]; done) | (rw [if_neg (by omega)]; done)⟩)
        · refine c_tabIn (tgt := 175) (off := 83) e dX11_valueOf_92 ⟨by decide, by decide⟩ (by decide) (by decide) rfl (by decide) ?_
          refine a_lloadn dX11_valueOf_175 rfl ?_
          refine a_lconst (w := 0) dX11_valueOf_176 (by decide) ?_
          refine c_lcmp dX11_valueOf_177 ⟨by omega, by omega⟩ ⟨by omega, by omega⟩ (fun r177 hq177 => ?_)
          refine a_if_ne (tgt := 188) dX11_valueOf_178 (by decide) ⟨by omega, by omega⟩ (fun hb178 => ?_) (fun hb178 => ?_)
          · refine a_lconst (w := 1) dX11_valueOf_188 (by decide) ?_
            refine a_goto (tgt := 193) dX11_valueOf_189 (by decide) ?_
            exact a_lreturn dX11_valueOf_193 rfl rfl rfl (zanyL_i ⟨fun _ _ _ => rfl, by rw [if_pos (by omega)], by rw [vV_lo (by omega) (by omega) (s := 0) (by unfold sgn; rw [e]; rfl)]; show _ = (if M 232 (M 227 i) ≠ 0 ∨ M 232 (M 228 i) ≠ 0 then (1 : Int) else 0); first | (rw [if_pos (by omega)]; done) | (rw [if_neg (by omega)]; done)⟩)
          · refine a_lload dX11_valueOf_181 rfl ?_
            refine a_lconst (w := 0) dX11_valueOf_183 (by decide) ?_
            refine c_lcmp dX11_valueOf_184 ⟨by omega, by omega⟩ ⟨by omega, by omega⟩ (fun r184 hq184 => ?_)
            refine a_if_eq (tgt := 192) dX11_valueOf_185 (by decide) ⟨by omega, by omega⟩ (fun hb185 => ?_) (fun hb185 => ?_)
            · refine a_lconst (w := 0) dX11_valueOf_192 (by decide) ?_
              exact a_lreturn dX11_valueOf_193 rfl rfl rfl (zanyL_i ⟨fun _ _ _ => rfl, by rw [if_pos (by omega)], by rw [vV_lo (by omega) (by omega) (s := 0) (by unfold sgn; rw [e]; rfl)]; show _ = (if M 232 (M 227 i) ≠ 0 ∨ M 232 (M 228 i) ≠ 0 then (1 : Int) else 0); first | (rw [if_pos (by omega)]; done) | (rw [if_neg (by omega)]; done)⟩)
            · refine a_lconst (w := 1) dX11_valueOf_188 (by decide) ?_
              refine a_goto (tgt := 193) dX11_valueOf_189 (by decide) ?_
              exact a_lreturn dX11_valueOf_193 rfl rfl rfl (zanyL_i ⟨fun _ _ _ => rfl, by rw [if_pos (by omega)], by rw [vV_lo (by omega) (by omega) (s := 0) (by unfold sgn; rw [e]; rfl)]; show _ = (if M 232 (M 227 i) ≠ 0 ∨ M 232 (M 228 i) ≠ 0 then (1 : Int) else 0); first | (rw [if_pos (by omega)]; done) | (rw [if_neg (by omega)]; done)⟩)
        · refine c_tabIn (tgt := 259) (off := 167) e dX11_valueOf_92 ⟨by decide, by decide⟩ (by decide) (by decide) rfl (by decide) ?_
          refine a_aloadn dX11_valueOf_259 rfl ?_
          refine a_getR (j' := 34) (y := 226) dX11_valueOf_260 flX11_63 rfl rfl (L209 L) (p209_34 hP) ?_
          refine a_iloadn dX11_valueOf_263 rfl ?_
          refine b_iald (N := 128) dX11_valueOf_264 (L226 L) (by decide) (by omega) (by omega) (fun hr264 => ?_)
          refine a_lloadn dX11_valueOf_265 rfl ?_
          refine a_lload dX11_valueOf_266 rfl ?_
          refine a_callS (as := [_, _, _]) dX11_valueOf_268 mvX11_311 ⟨by decide, by decide⟩ rfl rfl (Nat.le_of_ble_eq_true rfl) ⟨rfl, rfl⟩ ⟨by decide, by decide⟩ (m_X11_compares ⟨by omega, by omega⟩ q2.2.2 q3.2.2) ?_
          refine a_if_eq (tgt := 278) dX11_valueOf_271 (by decide) (by have q9 := jn_cmp (s := M 226 i - 2) (a := M 232 (M 227 i)) (b := M 232 (M 228 i)) (by omega) (by omega) (by omega); exact ⟨by omega, by omega⟩) (fun hb271 => ?_) (fun hb271 => ?_)
          · refine a_lconst (w := 0) dX11_valueOf_278 (by decide) ?_
            exact a_lreturn dX11_valueOf_279 rfl rfl rfl (zanyL_i ⟨fun _ _ _ => rfl, by rw [if_pos (by omega)], by rw [vV_lo (by omega) (by omega) (s := M 226 i - 2) (by unfold sgn; rw [if_neg (by omega), if_neg (by omega)])]; have q9 := jn_cmp (s := M 226 i - 2) (a := M 232 (M 227 i)) (b := M 232 (M 228 i)) (by omega) (by omega) (by omega); omega⟩)
          · refine a_lconst (w := 1) dX11_valueOf_274 (by decide) ?_
            refine a_goto (tgt := 279) dX11_valueOf_275 (by decide) ?_
            exact a_lreturn dX11_valueOf_279 rfl rfl rfl (zanyL_i ⟨fun _ _ _ => rfl, by rw [if_pos (by omega)], by rw [vV_lo (by omega) (by omega) (s := M 226 i - 2) (by unfold sgn; rw [if_neg (by omega), if_neg (by omega)])]; have q9 := jn_cmp (s := M 226 i - 2) (a := M 232 (M 227 i)) (b := M 232 (M 228 i)) (by omega) (by omega) (by omega); omega⟩)
        · refine c_tabIn (tgt := 259) (off := 167) e dX11_valueOf_92 ⟨by decide, by decide⟩ (by decide) (by decide) rfl (by decide) ?_
          refine a_aloadn dX11_valueOf_259 rfl ?_
          refine a_getR (j' := 34) (y := 226) dX11_valueOf_260 flX11_63 rfl rfl (L209 L) (p209_34 hP) ?_
          refine a_iloadn dX11_valueOf_263 rfl ?_
          refine b_iald (N := 128) dX11_valueOf_264 (L226 L) (by decide) (by omega) (by omega) (fun hr264 => ?_)
          refine a_lloadn dX11_valueOf_265 rfl ?_
          refine a_lload dX11_valueOf_266 rfl ?_
          refine a_callS (as := [_, _, _]) dX11_valueOf_268 mvX11_311 ⟨by decide, by decide⟩ rfl rfl (Nat.le_of_ble_eq_true rfl) ⟨rfl, rfl⟩ ⟨by decide, by decide⟩ (m_X11_compares ⟨by omega, by omega⟩ q2.2.2 q3.2.2) ?_
          refine a_if_eq (tgt := 278) dX11_valueOf_271 (by decide) (by have q9 := jn_cmp (s := M 226 i - 2) (a := M 232 (M 227 i)) (b := M 232 (M 228 i)) (by omega) (by omega) (by omega); exact ⟨by omega, by omega⟩) (fun hb271 => ?_) (fun hb271 => ?_)
          · refine a_lconst (w := 0) dX11_valueOf_278 (by decide) ?_
            exact a_lreturn dX11_valueOf_279 rfl rfl rfl (zanyL_i ⟨fun _ _ _ => rfl, by rw [if_pos (by omega)], by rw [vV_lo (by omega) (by omega) (s := M 226 i - 2) (by unfold sgn; rw [if_neg (by omega), if_neg (by omega)])]; have q9 := jn_cmp (s := M 226 i - 2) (a := M 232 (M 227 i)) (b := M 232 (M 228 i)) (by omega) (by omega) (by omega); omega⟩)
          · refine a_lconst (w := 1) dX11_valueOf_274 (by decide) ?_
            refine a_goto (tgt := 279) dX11_valueOf_275 (by decide) ?_
            exact a_lreturn dX11_valueOf_279 rfl rfl rfl (zanyL_i ⟨fun _ _ _ => rfl, by rw [if_pos (by omega)], by rw [vV_lo (by omega) (by omega) (s := M 226 i - 2) (by unfold sgn; rw [if_neg (by omega), if_neg (by omega)])]; have q9 := jn_cmp (s := M 226 i - 2) (a := M 232 (M 227 i)) (b := M 232 (M 228 i)) (by omega) (by omega) (by omega); omega⟩)
        · refine c_tabIn (tgt := 259) (off := 167) e dX11_valueOf_92 ⟨by decide, by decide⟩ (by decide) (by decide) rfl (by decide) ?_
          refine a_aloadn dX11_valueOf_259 rfl ?_
          refine a_getR (j' := 34) (y := 226) dX11_valueOf_260 flX11_63 rfl rfl (L209 L) (p209_34 hP) ?_
          refine a_iloadn dX11_valueOf_263 rfl ?_
          refine b_iald (N := 128) dX11_valueOf_264 (L226 L) (by decide) (by omega) (by omega) (fun hr264 => ?_)
          refine a_lloadn dX11_valueOf_265 rfl ?_
          refine a_lload dX11_valueOf_266 rfl ?_
          refine a_callS (as := [_, _, _]) dX11_valueOf_268 mvX11_311 ⟨by decide, by decide⟩ rfl rfl (Nat.le_of_ble_eq_true rfl) ⟨rfl, rfl⟩ ⟨by decide, by decide⟩ (m_X11_compares ⟨by omega, by omega⟩ q2.2.2 q3.2.2) ?_
          refine a_if_eq (tgt := 278) dX11_valueOf_271 (by decide) (by have q9 := jn_cmp (s := M 226 i - 2) (a := M 232 (M 227 i)) (b := M 232 (M 228 i)) (by omega) (by omega) (by omega); exact ⟨by omega, by omega⟩) (fun hb271 => ?_) (fun hb271 => ?_)
          · refine a_lconst (w := 0) dX11_valueOf_278 (by decide) ?_
            exact a_lreturn dX11_valueOf_279 rfl rfl rfl (zanyL_i ⟨fun _ _ _ => rfl, by rw [if_pos (by omega)], by rw [vV_lo (by omega) (by omega) (s := M 226 i - 2) (by unfold sgn; rw [if_neg (by omega), if_neg (by omega)])]; have q9 := jn_cmp (s := M 226 i - 2) (a := M 232 (M 227 i)) (b := M 232 (M 228 i)) (by omega) (by omega) (by omega); omega⟩)
          · refine a_lconst (w := 1) dX11_valueOf_274 (by decide) ?_
            refine a_goto (tgt := 279) dX11_valueOf_275 (by decide) ?_
            exact a_lreturn dX11_valueOf_279 rfl rfl rfl (zanyL_i ⟨fun _ _ _ => rfl, by rw [if_pos (by omega)], by rw [vV_lo (by omega) (by omega) (s := M 226 i - 2) (by unfold sgn; rw [if_neg (by omega), if_neg (by omega)])]; have q9 := jn_cmp (s := M 226 i - 2) (a := M 232 (M 227 i)) (b := M 232 (M 228 i)) (by omega) (by omega) (by omega); omega⟩)
        · refine c_tabIn (tgt := 259) (off := 167) e dX11_valueOf_92 ⟨by decide, by decide⟩ (by decide) (by decide) rfl (by decide) ?_
          refine a_aloadn dX11_valueOf_259 rfl ?_
          refine a_getR (j' := 34) (y := 226) dX11_valueOf_260 flX11_63 rfl rfl (L209 L) (p209_34 hP) ?_
          refine a_iloadn dX11_valueOf_263 rfl ?_
          refine b_iald (N := 128) dX11_valueOf_264 (L226 L) (by decide) (by omega) (by omega) (fun hr264 => ?_)
          refine a_lloadn dX11_valueOf_265 rfl ?_
          refine a_lload dX11_valueOf_266 rfl ?_
          refine a_callS (as := [_, _, _]) dX11_valueOf_268 mvX11_311 ⟨by decide, by decide⟩ rfl rfl (Nat.le_of_ble_eq_true rfl) ⟨rfl, rfl⟩ ⟨by decide, by decide⟩ (m_X11_compares ⟨by omega, by omega⟩ q2.2.2 q3.2.2) ?_
          refine a_if_eq (tgt := 278) dX11_valueOf_271 (by decide) (by have q9 := jn_cmp (s := M 226 i - 2) (a := M 232 (M 227 i)) (b := M 232 (M 228 i)) (by omega) (by omega) (by omega); exact ⟨by omega, by omega⟩) (fun hb271 => ?_) (fun hb271 => ?_)
          · refine a_lconst (w := 0) dX11_valueOf_278 (by decide) ?_
            exact a_lreturn dX11_valueOf_279 rfl rfl rfl (zanyL_i ⟨fun _ _ _ => rfl, by rw [if_pos (by omega)], by rw [vV_lo (by omega) (by omega) (s := M 226 i - 2) (by unfold sgn; rw [if_neg (by omega), if_neg (by omega)])]; have q9 := jn_cmp (s := M 226 i - 2) (a := M 232 (M 227 i)) (b := M 232 (M 228 i)) (by omega) (by omega) (by omega); omega⟩)
          · refine a_lconst (w := 1) dX11_valueOf_274 (by decide) ?_
            refine a_goto (tgt := 279) dX11_valueOf_275 (by decide) ?_
            exact a_lreturn dX11_valueOf_279 rfl rfl rfl (zanyL_i ⟨fun _ _ _ => rfl, by rw [if_pos (by omega)], by rw [vV_lo (by omega) (by omega) (s := M 226 i - 2) (by unfold sgn; rw [if_neg (by omega), if_neg (by omega)])]; have q9 := jn_cmp (s := M 226 i - 2) (a := M 232 (M 227 i)) (b := M 232 (M 228 i)) (by omega) (by omega) (by omega); omega⟩)
        · refine c_tabIn (tgt := 259) (off := 167) e dX11_valueOf_92 ⟨by decide, by decide⟩ (by decide) (by decide) rfl (by decide) ?_
          refine a_aloadn dX11_valueOf_259 rfl ?_
          refine a_getR (j' := 34) (y := 226) dX11_valueOf_260 flX11_63 rfl rfl (L209 L) (p209_34 hP) ?_
          refine a_iloadn dX11_valueOf_263 rfl ?_
          refine b_iald (N := 128) dX11_valueOf_264 (L226 L) (by decide) (by omega) (by omega) (fun hr264 => ?_)
          refine a_lloadn dX11_valueOf_265 rfl ?_
          refine a_lload dX11_valueOf_266 rfl ?_
          refine a_callS (as := [_, _, _]) dX11_valueOf_268 mvX11_311 ⟨by decide, by decide⟩ rfl rfl (Nat.le_of_ble_eq_true rfl) ⟨rfl, rfl⟩ ⟨by decide, by decide⟩ (m_X11_compares ⟨by omega, by omega⟩ q2.2.2 q3.2.2) ?_
          refine a_if_eq (tgt := 278) dX11_valueOf_271 (by decide) (by have q9 := jn_cmp (s := M 226 i - 2) (a := M 232 (M 227 i)) (b := M 232 (M 228 i)) (by omega) (by omega) (by omega); exact ⟨by omega, by omega⟩) (fun hb271 => ?_) (fun hb271 => ?_)
          · refine a_lconst (w := 0) dX11_valueOf_278 (by decide) ?_
            exact a_lreturn dX11_valueOf_279 rfl rfl rfl (zanyL_i ⟨fun _ _ _ => rfl, by rw [if_pos (by omega)], by rw [vV_lo (by omega) (by omega) (s := M 226 i - 2) (by unfold sgn; rw [if_neg (by omega), if_neg (by omega)])]; have q9 := jn_cmp (s := M 226 i - 2) (a := M 232 (M 227 i)) (b := M 232 (M 228 i)) (by omega) (by omega) (by omega); omega⟩)
          · refine a_lconst (w := 1) dX11_valueOf_274 (by decide) ?_
            refine a_goto (tgt := 279) dX11_valueOf_275 (by decide) ?_
            exact a_lreturn dX11_valueOf_279 rfl rfl rfl (zanyL_i ⟨fun _ _ _ => rfl, by rw [if_pos (by omega)], by rw [vV_lo (by omega) (by omega) (s := M 226 i - 2) (by unfold sgn; rw [if_neg (by omega), if_neg (by omega)])]; have q9 := jn_cmp (s := M 226 i - 2) (a := M 232 (M 227 i)) (b := M 232 (M 228 i)) (by omega) (by omega) (by omega); omega⟩)
        · refine c_tabIn (tgt := 259) (off := 167) e dX11_valueOf_92 ⟨by decide, by decide⟩ (by decide) (by decide) rfl (by decide) ?_
          refine a_aloadn dX11_valueOf_259 rfl ?_
          refine a_getR (j' := 34) (y := 226) dX11_valueOf_260 flX11_63 rfl rfl (L209 L) (p209_34 hP) ?_
          refine a_iloadn dX11_valueOf_263 rfl ?_
          refine b_iald (N := 128) dX11_valueOf_264 (L226 L) (by decide) (by omega) (by omega) (fun hr264 => ?_)
          refine a_lloadn dX11_valueOf_265 rfl ?_
          refine a_lload dX11_valueOf_266 rfl ?_
          refine a_callS (as := [_, _, _]) dX11_valueOf_268 mvX11_311 ⟨by decide, by decide⟩ rfl rfl (Nat.le_of_ble_eq_true rfl) ⟨rfl, rfl⟩ ⟨by decide, by decide⟩ (m_X11_compares ⟨by omega, by omega⟩ q2.2.2 q3.2.2) ?_
          refine a_if_eq (tgt := 278) dX11_valueOf_271 (by decide) (by have q9 := jn_cmp (s := M 226 i - 2) (a := M 232 (M 227 i)) (b := M 232 (M 228 i)) (by omega) (by omega) (by omega); exact ⟨by omega, by omega⟩) (fun hb271 => ?_) (fun hb271 => ?_)
          · refine a_lconst (w := 0) dX11_valueOf_278 (by decide) ?_
            exact a_lreturn dX11_valueOf_279 rfl rfl rfl (zanyL_i ⟨fun _ _ _ => rfl, by rw [if_pos (by omega)], by rw [vV_lo (by omega) (by omega) (s := M 226 i - 2) (by unfold sgn; rw [if_neg (by omega), if_neg (by omega)])]; have q9 := jn_cmp (s := M 226 i - 2) (a := M 232 (M 227 i)) (b := M 232 (M 228 i)) (by omega) (by omega) (by omega); omega⟩)
          · refine a_lconst (w := 1) dX11_valueOf_274 (by decide) ?_
            refine a_goto (tgt := 279) dX11_valueOf_275 (by decide) ?_
            exact a_lreturn dX11_valueOf_279 rfl rfl rfl (zanyL_i ⟨fun _ _ _ => rfl, by rw [if_pos (by omega)], by rw [vV_lo (by omega) (by omega) (s := M 226 i - 2) (by unfold sgn; rw [if_neg (by omega), if_neg (by omega)])]; have q9 := jn_cmp (s := M 226 i - 2) (a := M 232 (M 227 i)) (b := M 232 (M 228 i)) (by omega) (by omega) (by omega); omega⟩)
        · refine c_tabIn (tgt := 194) (off := 102) e dX11_valueOf_92 ⟨by decide, by decide⟩ (by decide) (by decide) rfl (by decide) ?_
          refine a_aloadn dX11_valueOf_194 rfl ?_
          refine a_lloadn dX11_valueOf_195 rfl ?_
          refine a_lload dX11_valueOf_196 rfl ?_
          refine a_ladd dX11_valueOf_198 ?_
          refine a_callV (as := [_]) (q := 209) dX11_valueOf_199 mvX11_303 ⟨by decide, by decide⟩ (L209 L) rfl rfl rfl (Nat.le_of_ble_eq_true rfl) ⟨rfl, rfl⟩ ⟨by decide, by decide⟩ (m_X11_bounded ⟨by omega, by omega⟩) ?_
          exact a_lreturn dX11_valueOf_202 rfl rfl rfl (zanyL_i ⟨er1, by rw [sm_s, show (if M 226 i < 11 then M 209 47 else vE (M 226) (M 227) (M 228) (M 232) (M 209 47) i) = vE (M 226) (M 227) (M 228) (M 232) (M 209 47) i from if_neg (by omega), vE_hi (by omega) (s := 9) (by unfold sgn; rw [e]; rfl)]; exact ifl _ _ _ _, by rw [vV_hi (by omega) (s := 9) (by unfold sgn; rw [e]; rfl)]; exact ifl _ _ _ _⟩)
        · refine c_tabIn (tgt := 203) (off := 111) e dX11_valueOf_92 ⟨by decide, by decide⟩ (by decide) (by decide) rfl (by decide) ?_
          refine a_aloadn dX11_valueOf_203 rfl ?_
          refine a_lloadn dX11_valueOf_204 rfl ?_
          refine a_lload dX11_valueOf_205 rfl ?_
          refine a_lsub dX11_valueOf_207 ?_
          refine a_callV (as := [_]) (q := 209) dX11_valueOf_208 mvX11_303 ⟨by decide, by decide⟩ (L209 L) rfl rfl rfl (Nat.le_of_ble_eq_true rfl) ⟨rfl, rfl⟩ ⟨by decide, by decide⟩ (m_X11_bounded ⟨by omega, by omega⟩) ?_
          exact a_lreturn dX11_valueOf_211 rfl rfl rfl (zanyL_i ⟨er1, by rw [sm_s, show (if M 226 i < 11 then M 209 47 else vE (M 226) (M 227) (M 228) (M 232) (M 209 47) i) = vE (M 226) (M 227) (M 228) (M 232) (M 209 47) i from if_neg (by omega), vE_hi (by omega) (s := 10) (by unfold sgn; rw [e]; rfl)]; exact ifl _ _ _ _, by rw [vV_hi (by omega) (s := 10) (by unfold sgn; rw [e]; rfl)]; exact ifl _ _ _ _⟩)
        · refine c_tabIn (tgt := 212) (off := 120) e dX11_valueOf_92 ⟨by decide, by decide⟩ (by decide) (by decide) rfl (by decide) ?_
          refine a_aloadn dX11_valueOf_212 rfl ?_
          refine a_lloadn dX11_valueOf_213 rfl ?_
          refine a_lload dX11_valueOf_214 rfl ?_
          refine a_callV (as := [_, _]) (q := 209) dX11_valueOf_216 mvX11_307 ⟨by decide, by decide⟩ (L209 L) rfl rfl rfl (Nat.le_of_ble_eq_true rfl) ⟨rfl, rfl⟩ ⟨by decide, by decide⟩ (m_X11_times q2.2.2 q3.2.2) ?_
          exact a_lreturn dX11_valueOf_219 rfl rfl rfl (zanyL_i ⟨er1, by rw [sm_s, show (if M 226 i < 11 then M 209 47 else vE (M 226) (M 227) (M 228) (M 232) (M 209 47) i) = vE (M 226) (M 227) (M 228) (M 232) (M 209 47) i from if_neg (by omega), vE_hi (by omega) (s := 11) (by unfold sgn; rw [e]; rfl)]; exact ifm _ _ _ _ _, by rw [vV_hi (by omega) (s := 11) (by unfold sgn; rw [e]; rfl)]; exact ifm2 _ _ _⟩)
        · refine c_tabIn (tgt := 220) (off := 128) e dX11_valueOf_92 ⟨by decide, by decide⟩ (by decide) (by decide) rfl (by decide) ?_
          refine a_aloadn dX11_valueOf_220 rfl ?_
          refine a_aloadn dX11_valueOf_221 rfl ?_
          refine b_getZ (j' := 47) dX11_valueOf_222 flX11_296 rfl rfl (L209 L) (fun hr222 => ?_)
          refine a_if_ne (tgt := 235) dX11_valueOf_225 (by decide) (by rcases hr222 with z | z <;> exact ⟨by omega, by omega⟩) (fun hb225 => ?_) (fun hb225 => ?_)
          · refine a_iconst dX11_valueOf_235 ?_
            refine a_goto (tgt := 240) dX11_valueOf_236 (by decide) ?_
            refine a_putZ (j' := 47) dX11_valueOf_240 flX11_296 rfl rfl (L209 L) (by decide) rfl (by omega) ?_
            refine a_aloadn dX11_valueOf_243 rfl ?_
            refine b_getZ (j' := 47) dX11_valueOf_244 flX11_296 rfl rfl (L209 L) (fun hr244 => ?_)
            rw [sm_s] at hr244
            rw [sm_s]
            refine a_if_eq (tgt := 254) dX11_valueOf_247 (by decide) ⟨by omega, by omega⟩ (fun hb247 => ?_) (fun hb247 => ?_)
            · refine a_lloadn dX11_valueOf_254 rfl ?_
              refine a_lload dX11_valueOf_255 rfl ?_
              refine a_ldiv dX11_valueOf_257 ⟨by omega, by omega⟩ ⟨by omega, by omega⟩ (by omega) (by omega) ?_
              exact a_lreturn dX11_valueOf_258 rfl rfl rfl (zanyL_i ⟨er1, by rw [sm_s, show (if M 226 i < 11 then M 209 47 else vE (M 226) (M 227) (M 228) (M 232) (M 209 47) i) = vE (M 226) (M 227) (M 228) (M 232) (M 209 47) i from if_neg (by omega), vE_hi (by omega) (s := 12) (by unfold sgn; rw [e]; rfl)]; first | (exfalso; omega) | (rw [if_pos (Or.inl (by omega))]; done) | (rw [if_pos (Or.inr ((div_bad (k2 (by omega)).2.2).mp (by omega)))]; done) | (rw [if_neg (fun z => by rcases z with z | z; (omega); exact absurd ((div_bad (k2 (by omega)).2.2).mpr z) (by omega))]; done), by rw [vV_hi (by omega) (s := 12) (by unfold sgn; rw [e]; rfl)]; first | (exfalso; omega) | (rw [if_pos (Or.inl (by omega))]; done) | (rw [if_pos (Or.inr ((div_bad (k2 (by omega)).2.2).mp (by omega)))]; done) | (rw [if_neg (fun z => by rcases z with z | z; (omega); exact absurd ((div_bad (k2 (by omega)).2.2).mpr z) (by omega)), jn_div, if_neg (by omega)]; done)⟩)
            · refine a_lconst (w := 0) dX11_valueOf_250 (by decide) ?_
              refine a_goto (tgt := 258) dX11_valueOf_251 (by decide) ?_
              exact a_lreturn dX11_valueOf_258 rfl rfl rfl (zanyL_i ⟨er1, by rw [sm_s, show (if M 226 i < 11 then M 209 47 else vE (M 226) (M 227) (M 228) (M 232) (M 209 47) i) = vE (M 226) (M 227) (M 228) (M 232) (M 209 47) i from if_neg (by omega), vE_hi (by omega) (s := 12) (by unfold sgn; rw [e]; rfl)]; first | (exfalso; omega) | (rw [if_pos (Or.inl (by omega))]; done) | (rw [if_pos (Or.inr ((div_bad (k2 (by omega)).2.2).mp (by omega)))]; done) | (rw [if_neg (fun z => by rcases z with z | z; (omega); exact absurd ((div_bad (k2 (by omega)).2.2).mpr z) (by omega))]; done), by rw [vV_hi (by omega) (s := 12) (by unfold sgn; rw [e]; rfl)]; first | (exfalso; omega) | (rw [if_pos (Or.inl (by omega))]; done) | (rw [if_pos (Or.inr ((div_bad (k2 (by omega)).2.2).mp (by omega)))]; done) | (rw [if_neg (fun z => by rcases z with z | z; (omega); exact absurd ((div_bad (k2 (by omega)).2.2).mpr z) (by omega)), jn_div, if_neg (by omega)]; done)⟩)
          · refine a_lload dX11_valueOf_228 rfl ?_
            refine a_lconst (w := 0) dX11_valueOf_230 (by decide) ?_
            refine c_lcmp dX11_valueOf_231 ⟨by omega, by omega⟩ ⟨by omega, by omega⟩ (fun r231 hq231 => ?_)
            refine a_if_ne (tgt := 239) dX11_valueOf_232 (by decide) ⟨by omega, by omega⟩ (fun hb232 => ?_) (fun hb232 => ?_)
            · refine a_iconst dX11_valueOf_239 ?_
              refine a_putZ (j' := 47) dX11_valueOf_240 flX11_296 rfl rfl (L209 L) (by decide) rfl (by omega) ?_
              refine a_aloadn dX11_valueOf_243 rfl ?_
              refine b_getZ (j' := 47) dX11_valueOf_244 flX11_296 rfl rfl (L209 L) (fun hr244 => ?_)
              rw [sm_s] at hr244
              rw [sm_s]
              refine a_if_eq (tgt := 254) dX11_valueOf_247 (by decide) ⟨by omega, by omega⟩ (fun hb247 => ?_) (fun hb247 => ?_)
              · refine a_lloadn dX11_valueOf_254 rfl ?_
                refine a_lload dX11_valueOf_255 rfl ?_
                refine a_ldiv dX11_valueOf_257 ⟨by omega, by omega⟩ ⟨by omega, by omega⟩ (by omega) (by omega) ?_
                exact a_lreturn dX11_valueOf_258 rfl rfl rfl (zanyL_i ⟨er1, by rw [sm_s, show (if M 226 i < 11 then M 209 47 else vE (M 226) (M 227) (M 228) (M 232) (M 209 47) i) = vE (M 226) (M 227) (M 228) (M 232) (M 209 47) i from if_neg (by omega), vE_hi (by omega) (s := 12) (by unfold sgn; rw [e]; rfl)]; first | (exfalso; omega) | (rw [if_pos (Or.inl (by omega))]; done) | (rw [if_pos (Or.inr ((div_bad (k2 (by omega)).2.2).mp (by omega)))]; done) | (rw [if_neg (fun z => by rcases z with z | z; (omega); exact absurd ((div_bad (k2 (by omega)).2.2).mpr z) (by omega))]; done), by rw [vV_hi (by omega) (s := 12) (by unfold sgn; rw [e]; rfl)]; first | (exfalso; omega) | (rw [if_pos (Or.inl (by omega))]; done) | (rw [if_pos (Or.inr ((div_bad (k2 (by omega)).2.2).mp (by omega)))]; done) | (rw [if_neg (fun z => by rcases z with z | z; (omega); exact absurd ((div_bad (k2 (by omega)).2.2).mpr z) (by omega)), jn_div, if_neg (by omega)]; done)⟩)
              · refine a_lconst (w := 0) dX11_valueOf_250 (by decide) ?_
                refine a_goto (tgt := 258) dX11_valueOf_251 (by decide) ?_
                exact a_lreturn dX11_valueOf_258 rfl rfl rfl (zanyL_i ⟨er1, by rw [sm_s, show (if M 226 i < 11 then M 209 47 else vE (M 226) (M 227) (M 228) (M 232) (M 209 47) i) = vE (M 226) (M 227) (M 228) (M 232) (M 209 47) i from if_neg (by omega), vE_hi (by omega) (s := 12) (by unfold sgn; rw [e]; rfl)]; first | (exfalso; omega) | (rw [if_pos (Or.inl (by omega))]; done) | (rw [if_pos (Or.inr ((div_bad (k2 (by omega)).2.2).mp (by omega)))]; done) | (rw [if_neg (fun z => by rcases z with z | z; (omega); exact absurd ((div_bad (k2 (by omega)).2.2).mpr z) (by omega))]; done), by rw [vV_hi (by omega) (s := 12) (by unfold sgn; rw [e]; rfl)]; first | (exfalso; omega) | (rw [if_pos (Or.inl (by omega))]; done) | (rw [if_pos (Or.inr ((div_bad (k2 (by omega)).2.2).mp (by omega)))]; done) | (rw [if_neg (fun z => by rcases z with z | z; (omega); exact absurd ((div_bad (k2 (by omega)).2.2).mpr z) (by omega)), jn_div, if_neg (by omega)]; done)⟩)
            · refine a_iconst dX11_valueOf_235 ?_
              refine a_goto (tgt := 240) dX11_valueOf_236 (by decide) ?_
              refine a_putZ (j' := 47) dX11_valueOf_240 flX11_296 rfl rfl (L209 L) (by decide) rfl (by omega) ?_
              refine a_aloadn dX11_valueOf_243 rfl ?_
              refine b_getZ (j' := 47) dX11_valueOf_244 flX11_296 rfl rfl (L209 L) (fun hr244 => ?_)
              rw [sm_s] at hr244
              rw [sm_s]
              refine a_if_eq (tgt := 254) dX11_valueOf_247 (by decide) ⟨by omega, by omega⟩ (fun hb247 => ?_) (fun hb247 => ?_)
              · refine a_lloadn dX11_valueOf_254 rfl ?_
                refine a_lload dX11_valueOf_255 rfl ?_
                refine a_ldiv dX11_valueOf_257 ⟨by omega, by omega⟩ ⟨by omega, by omega⟩ (by omega) (by omega) ?_
                exact a_lreturn dX11_valueOf_258 rfl rfl rfl (zanyL_i ⟨er1, by rw [sm_s, show (if M 226 i < 11 then M 209 47 else vE (M 226) (M 227) (M 228) (M 232) (M 209 47) i) = vE (M 226) (M 227) (M 228) (M 232) (M 209 47) i from if_neg (by omega), vE_hi (by omega) (s := 12) (by unfold sgn; rw [e]; rfl)]; first | (exfalso; omega) | (rw [if_pos (Or.inl (by omega))]; done) | (rw [if_pos (Or.inr ((div_bad (k2 (by omega)).2.2).mp (by omega)))]; done) | (rw [if_neg (fun z => by rcases z with z | z; (omega); exact absurd ((div_bad (k2 (by omega)).2.2).mpr z) (by omega))]; done), by rw [vV_hi (by omega) (s := 12) (by unfold sgn; rw [e]; rfl)]; first | (exfalso; omega) | (rw [if_pos (Or.inl (by omega))]; done) | (rw [if_pos (Or.inr ((div_bad (k2 (by omega)).2.2).mp (by omega)))]; done) | (rw [if_neg (fun z => by rcases z with z | z; (omega); exact absurd ((div_bad (k2 (by omega)).2.2).mpr z) (by omega)), jn_div, if_neg (by omega)]; done)⟩)
              · refine a_lconst (w := 0) dX11_valueOf_250 (by decide) ?_
                refine a_goto (tgt := 258) dX11_valueOf_251 (by decide) ?_
                exact a_lreturn dX11_valueOf_258 rfl rfl rfl (zanyL_i ⟨er1, by rw [sm_s, show (if M 226 i < 11 then M 209 47 else vE (M 226) (M 227) (M 228) (M 232) (M 209 47) i) = vE (M 226) (M 227) (M 228) (M 232) (M 209 47) i from if_neg (by omega), vE_hi (by omega) (s := 12) (by unfold sgn; rw [e]; rfl)]; first | (exfalso; omega) | (rw [if_pos (Or.inl (by omega))]; done) | (rw [if_pos (Or.inr ((div_bad (k2 (by omega)).2.2).mp (by omega)))]; done) | (rw [if_neg (fun z => by rcases z with z | z; (omega); exact absurd ((div_bad (k2 (by omega)).2.2).mpr z) (by omega))]; done), by rw [vV_hi (by omega) (s := 12) (by unfold sgn; rw [e]; rfl)]; first | (exfalso; omega) | (rw [if_pos (Or.inl (by omega))]; done) | (rw [if_pos (Or.inr ((div_bad (k2 (by omega)).2.2).mp (by omega)))]; done) | (rw [if_neg (fun z => by rcases z with z | z; (omega); exact absurd ((div_bad (k2 (by omega)).2.2).mpr z) (by omega)), jn_div, if_neg (by omega)]; done)⟩)
      · refine a_lloadn dX11_valueOf_61 rfl ?_
        refine a_lconst (w := 0) dX11_valueOf_62 (by decide) ?_
        refine c_lcmp dX11_valueOf_63 ⟨by omega, by omega⟩ ⟨by omega, by omega⟩ (fun r63 hq63 => ?_)
        refine a_if_ne (tgt := 71) dX11_valueOf_64 (by decide) ⟨by omega, by omega⟩ (fun hb64 => ?_) (fun hb64 => ?_)
        · refine a_lconst (w := 0) dX11_valueOf_71 (by decide) ?_
          exact a_lreturn dX11_valueOf_72 rfl rfl rfl (zanyL_i ⟨fun _ _ _ => rfl, by rw [if_pos (by omega)], by unfold vV; rw [if_neg (by omega), if_neg (by omega), if_pos hb58]; first | (rw [if_pos (by omega)]; done) | (rw [if_neg (by omega)]; done)⟩)
        · refine a_lconst (w := 1) dX11_valueOf_67 (by decide) ?_
          refine a_goto (tgt := 72) dX11_valueOf_68 (by decide) ?_
          exact a_lreturn dX11_valueOf_72 rfl rfl rfl (zanyL_i ⟨fun _ _ _ => rfl, by rw [if_pos (by omega)], by unfold vV; rw [if_neg (by omega), if_neg (by omega), if_pos hb58]; first | (rw [if_pos (by omega)]; done) | (rw [if_neg (by omega)]; done)⟩)
    · refine a_aloadn dX11_valueOf_27 rfl ?_
      refine a_getR (j' := 45) (y := 231) dX11_valueOf_28 flX11_78 rfl rfl (L209 L) (p209_45 hP) ?_
      refine a_aloadn dX11_valueOf_31 rfl ?_
      refine a_getR (j' := 35) (y := 227) dX11_valueOf_32 flX11_66 rfl rfl (L209 L) (p209_35 hP) ?_
      refine a_iloadn dX11_valueOf_35 rfl ?_
      refine b_iald (N := 128) dX11_valueOf_36 (L227 L) (by decide) (by omega) (by omega) (fun hr36 => ?_)
      refine b_lald (N := 7) dX11_valueOf_37 (L231 L) (by decide) (by omega) (by omega) (fun hr37 => ?_)
      exact a_lreturn dX11_valueOf_38 rfl rfl rfl (zanyL_i ⟨fun _ _ _ => rfl, by rw [if_pos (by omega)], by unfold vV; rw [if_neg (by omega), if_pos hb24]⟩)
  · refine a_aloadn dX11_valueOf_9 rfl ?_
    refine a_getR (j' := 35) (y := 227) dX11_valueOf_10 flX11_66 rfl rfl (L209 L) (p209_35 hP) ?_
    refine a_iloadn dX11_valueOf_13 rfl ?_
    refine b_iald (N := 128) dX11_valueOf_14 (L227 L) (by decide) (by omega) (by omega) (fun hr14 => ?_)
    refine a_i2l dX11_valueOf_15 hr14 ?_
    exact a_lreturn dX11_valueOf_16 rfl rfl rfl (zanyL_i ⟨fun _ _ _ => rfl, by rw [if_pos (by omega)], by unfold vV; rw [if_pos hb6]⟩)

set_option maxRecDepth 100000 in
set_option maxHeartbeats 4000000 in
theorem lpX11_lawOf {G : zG} {l : Launch} {L : Nat} {P : zP} {M0 : zM} {w : Int} (hP : PFok P) (hw : 0 ≤ w ∧ w < 3) (hL : LrI M0 w) (ht : M0 223 w ≠ 0) : ∀ (n : Nat) (i : Int) (M : zM) (V : Int → Int) (e : Int) (g0 : M0 224 w ≤ i) (g1 : i + n = M0 225 w) (hE : Er M0 M) (hV : ∀ j : Int, M0 224 w ≤ j → j < i → M 232 j = V j ∧ lim (V j)) (he : M 209 47 = e) (hr : rV (M0 231) (M0 226) (M0 227) (M0 228) (M0 225 w - M0 224 w).toNat (M0 224 w) (fun _ => 0) 0 = rV (M0 231) (M0 226) (M0 227) (M0 228) n i V e) (hN : NrI M0), AW G l mdX11_lawOf (zanyL (LAY L) P (fun x M' => (Er M0 M' ∧ lim x) ∧ ((M' 209 47 = 0 ∧ rLaw (M0 231) (M0 226) (M0 227) (M0 228) (M0 224 w) (M0 225 w - M0 224 w).toNat = some x) ∨ (M' 209 47 = 1 ∧ rLaw (M0 231) (M0 226) (M0 227) (M0 228) (M0 224 w) (M0 225 w - M0 224 w).toNat = none ∧ x = 0)))) 12 [some (aR 209), some (aI w), some (aI i)] [] (LAY L) P M 0 0 := by
  intro n
  induction n with
  | zero =>
    intro i M V e g0 g1 hE hV he hr hN
    have q1 := (hL ht).1
    have q2 := (hL ht).2
    refine a_iloadn dX11_lawOf_12 rfl ?_
    refine a_aloadn dX11_lawOf_13 rfl ?_
    refine a_getR (j' := 33) (y := 225) dX11_lawOf_14 flX11_60 rfl rfl (L209 L) (p209_33 hP) ?_
    refine a_iloadn dX11_lawOf_17 rfl ?_
    refine b_iald (N := 6) dX11_lawOf_18 (L225 L) (by decide) (by omega) (by omega) (fun hr18 => ?_)
    have e18 : M 225 w = M0 225 w := hE _ _ (by decide) (by omega)
    rw [e18] at hr18
    rw [e18]
    refine a_icmp_ge (tgt := 39) dX11_lawOf_19 (by decide) ⟨by omega, by omega⟩ ⟨by omega, by omega⟩ (fun hb19 => ?_) (fun hb19 => ?_)
    · refine a_aloadn dX11_lawOf_39 rfl ?_
      refine b_getZ (j' := 47) dX11_lawOf_40 flX11_296 rfl rfl (L209 L) (fun hr40 => ?_)
      refine a_if_eq (tgt := 50) dX11_lawOf_43 (by decide) (by rcases hr40 with z | z <;> exact ⟨by omega, by omega⟩) (fun hb43 => ?_) (fun hb43 => ?_)
      · refine a_aloadn dX11_lawOf_50 rfl ?_
        refine a_getR (j' := 46) (y := 232) dX11_lawOf_51 flX11_82 rfl rfl (L209 L) (p209_46 hP) ?_
        refine a_aloadn dX11_lawOf_54 rfl ?_
        refine a_getR (j' := 33) (y := 225) dX11_lawOf_55 flX11_60 rfl rfl (L209 L) (p209_33 hP) ?_
        refine a_iloadn dX11_lawOf_58 rfl ?_
        refine b_iald (N := 6) dX11_lawOf_59 (L225 L) (by decide) (by omega) (by omega) (fun hr59 => ?_)
        have e59 : M 225 w = M0 225 w := hE _ _ (by decide) (by omega)
        rw [e59] at hr59
        rw [e59]
        refine a_iconst dX11_lawOf_60 ?_
        refine a_isub dX11_lawOf_61 ?_
        refine b_lald (N := 64) dX11_lawOf_62 (L232 L) (by decide) (by omega) (by omega) (fun hr62 => ?_)
        exact a_lreturn dX11_lawOf_63 rfl rfl rfl (by first
      | exact zanyL_i ⟨⟨hE, by rw [(hV (M0 225 w - 1) (by omega) (by omega)).1]; exact (hV (M0 225 w - 1) (by omega) (by omega)).2⟩, Or.inl ⟨by omega, by rw [rLaw_of hr, if_pos (show e = 0 by omega), (hV (M0 225 w - 1) (by omega) (by omega)).1, show M0 224 w + ((M0 225 w - M0 224 w).toNat : Int) - 1 = M0 225 w - 1 by omega]⟩⟩
      | exact zanyL_i ⟨⟨hE, ⟨by decide, by decide⟩⟩, Or.inr ⟨by omega, by rw [rLaw_of hr, if_neg (show e ≠ 0 by omega)], rfl⟩⟩)
      · refine a_lconst (w := 0) dX11_lawOf_46 (by decide) ?_
        refine a_goto (tgt := 63) dX11_lawOf_47 (by decide) ?_
        exact a_lreturn dX11_lawOf_63 rfl rfl rfl (by first
      | exact zanyL_i ⟨⟨hE, by rw [(hV (M0 225 w - 1) (by omega) (by omega)).1]; exact (hV (M0 225 w - 1) (by omega) (by omega)).2⟩, Or.inl ⟨by omega, by rw [rLaw_of hr, if_pos (show e = 0 by omega), (hV (M0 225 w - 1) (by omega) (by omega)).1, show M0 224 w + ((M0 225 w - M0 224 w).toNat : Int) - 1 = M0 225 w - 1 by omega]⟩⟩
      | exact zanyL_i ⟨⟨hE, ⟨by decide, by decide⟩⟩, Or.inr ⟨by omega, by rw [rLaw_of hr, if_neg (show e ≠ 0 by omega)], rfl⟩⟩)
    · exfalso; omega
  | succ n ih =>
    intro i M V e g0 g1 hE hV he hr hN
    have q1 := (hL ht).1
    have q2 := (hL ht).2
    refine a_iloadn dX11_lawOf_12 rfl ?_
    refine a_aloadn dX11_lawOf_13 rfl ?_
    refine a_getR (j' := 33) (y := 225) dX11_lawOf_14 flX11_60 rfl rfl (L209 L) (p209_33 hP) ?_
    refine a_iloadn dX11_lawOf_17 rfl ?_
    refine b_iald (N := 6) dX11_lawOf_18 (L225 L) (by decide) (by omega) (by omega) (fun hr18 => ?_)
    have e18 : M 225 w = M0 225 w := hE _ _ (by decide) (by omega)
    rw [e18] at hr18
    rw [e18]
    refine a_icmp_ge (tgt := 39) dX11_lawOf_19 (by decide) ⟨by omega, by omega⟩ ⟨by omega, by omega⟩ (fun hb19 => ?_) (fun hb19 => ?_)
    · exfalso; omega
    · refine a_aloadn dX11_lawOf_22 rfl ?_
      refine a_getR (j' := 46) (y := 232) dX11_lawOf_23 flX11_82 rfl rfl (L209 L) (p209_46 hP) ?_
      refine a_iloadn dX11_lawOf_26 rfl ?_
      have qk := q2.2 i (by omega) (by omega)
      have r226 : M 226 = M0 226 := funext fun j => hE _ j (by decide) (by omega)
      have r227 : M 227 = M0 227 := funext fun j => hE _ j (by decide) (by omega)
      have r228 : M 228 = M0 228 := funext fun j => hE _ j (by decide) (by omega)
      have r231 : M 231 = M0 231 := funext fun j => hE _ j (by decide) (by omega)
      have va : 2 ≤ M0 226 i → M 232 (M0 227 i) = V (M0 227 i) ∧ lim (V (M0 227 i)) := fun z => hV _ (qk.2.2.2.1 z).1 (qk.2.2.2.1 z).2
      have vb : 3 ≤ M0 226 i → M 232 (M0 228 i) = V (M0 228 i) ∧ lim (V (M0 228 i)) := fun z => hV _ (qk.2.2.2.2 z).1 (qk.2.2.2.2 z).2
      refine a_aloadn dX11_lawOf_27 rfl ?_
      refine a_iloadn dX11_lawOf_28 rfl ?_
      refine a_anyLV (as := [_]) (q := 209) dX11_lawOf_29 mvX11_361 ⟨by decide, by decide⟩ (L209 L) rfl rfl rfl (Nat.le_of_ble_eq_true rfl) ⟨rfl, rfl⟩ ⟨by decide, by decide⟩ (m_X11_valueOf hP ⟨by omega, by omega⟩ (r226 ▸ qk.1) (fun z => by rw [r226] at z; rw [r227]; exact qk.2.1 z) (fun z => by rw [r226] at z; rw [r227]; exact qk.2.2.1 z) (fun z => by rw [r226] at z; rw [r227, (va z).1]; have := qk.2.2.2.1 z; exact ⟨by omega, by omega, (va z).2⟩) (fun z => by rw [r226] at z; rw [r228, (vb z).1]; have := qk.2.2.2.2 z; exact ⟨by omega, by omega, (vb z).2⟩)) (fun x9 M1 hM1 => ?_)
      have ek : (if M 226 i < 11 then M 209 47 else vE (M 226) (M 227) (M 228) (M 232) (M 209 47) i) = (if M0 226 i < 11 then M 209 47 else vE (M0 226) (M0 227) (M0 228) (M 232) (M 209 47) i) := by rw [r226, r227, r228]
      have hev : (if M0 226 i < 11 then M 209 47 else vE (M0 226) (M0 227) (M0 228) (M 232) (M 209 47) i) = (if M0 226 i < 11 then e else vE (M0 226) (M0 227) (M0 228) V e i) := by
        rw [he]
        by_cases c : M0 226 i < 11
        · rw [if_pos c, if_pos c]
        · rw [if_neg c, if_neg c]
          unfold vE
          rw [(va (by omega)).1, (vb (by omega)).1]
      have hxv : x9 = vV (M0 231) (M0 226) (M0 227) (M0 228) V e i := by
        rw [hM1.2.2, r226, r227, r228, r231, he]
        by_cases c3 : 3 ≤ M0 226 i
        · unfold vV vE
          rw [(va (by omega)).1, (vb c3).1]
        by_cases c2 : M0 226 i = 2
        · rw [vV_2 c2, vV_2 c2, (va (by omega)).1]
        by_cases c1 : M0 226 i = 1
        · rw [vV_1 c1, vV_1 c1]
        · rw [vV_0 (by omega), vV_0 (by omega)]
      have hlim : lim (vV (M0 231) (M0 226) (M0 227) (M0 228) V e i) := by
        by_cases c0 : M0 226 i = 0
        · unfold vV; rw [if_pos c0]; have := qk.2.1 c0; exact ⟨by omega, by omega⟩
        by_cases c1 : M0 226 i = 1
        · unfold vV; rw [if_neg c0, if_pos c1]; have := qk.2.2.1 c1; exact hN _ (by omega) (by omega)
        by_cases c2 : M0 226 i = 2
        · unfold vV; rw [if_neg c0, if_neg c1, if_pos c2]; exact lim01 _
        by_cases c3 : M0 226 i < 11
        · rw [vV_lo (by omega) c3 rfl]
          have := jn_cmp (s := sgn (M0 226 i)) (a := V (M0 227 i)) (b := V (M0 228 i)) (by unfold sgn; split <;> (try split) <;> omega) (by unfold sgn; split <;> (try split) <;> omega) (by unfold sgn; split <;> (try split) <;> omega)
          exact ⟨by omega, by omega⟩
        · rw [vV_hi (by omega) rfl]
          split
          · exact ⟨by decide, by decide⟩
          · rename_i c
            exact Classical.byContradiction fun z => c (Or.inr z)
      refine a_last (N := 64) dX11_lawOf_32 (L232 L) (by decide) (by decide) (by omega) (by omega) (by rw [hxv]; exact ⟨by omega, by omega⟩) ?_
      refine c_iinc (ls' := [_, _, _]) dX11_lawOf_33 rfl (by decide) rfl rfl ?_
      refine a_goto (tgt := 12) dX11_lawOf_36 (by decide) ?_
      refine ih _ _ (us V i (vV (M0 231) (M0 226) (M0 227) (M0 228) V e i)) (if M0 226 i < 11 then e else vE (M0 226) (M0 227) (M0 228) V e i) (by omega) (by omega) (fun k j a1 a2 => by rw [sm_n a1, hM1.1 k j a2]; exact hE k j a1 a2) (fun j j0 j1 => ?_) ?_ hr hN
      · rw [sm_k]
        unfold us
        by_cases ej : j = i
        · rw [if_pos ej, if_pos ej]
          exact ⟨hxv, hlim⟩
        · rw [if_neg ej, if_neg ej, hM1.1 232 j (by omega)]
          exact hV j j0 (by omega)
      · rw [sm_n (by decide), hM1.2.1, ek, hev]

set_option maxRecDepth 100000 in
set_option maxHeartbeats 4000000 in
theorem m_X11_lawOf {G : zG} {l : Launch} {L : Nat} {P : zP} {M : zM} {w : Int} (hP : PFok P) (hw : 0 ≤ w ∧ w < 3) (hL : LrI M w) (ht : M 223 w ≠ 0) (hN : NrI M) : AM G l yX11_lawOf mdX11_lawOf [aR 209, aI w] (LAY L) P M (zanyL (LAY L) P (fun x M' => (Er M M' ∧ lim x) ∧ ((M' 209 47 = 0 ∧ rLaw (M 231) (M 226) (M 227) (M 228) (M 224 w) (M 225 w - M 224 w).toNat = some x) ∨ (M' 209 47 = 1 ∧ rLaw (M 231) (M 226) (M 227) (M 228) (M 224 w) (M 225 w - M 224 w).toNat = none ∧ x = 0)))) := by
  refine AM.go [some (aR 209), some (aI w), none] rfl (Nat.le_of_ble_eq_true rfl) ?_ (by decide) rfl rfl
  refine a_aloadn dX11_lawOf_0 rfl ?_
  refine a_iconst dX11_lawOf_1 ?_
  refine a_putZ (j' := 47) dX11_lawOf_2 flX11_296 rfl rfl (L209 L) (by decide) rfl (by omega) ?_
  refine a_aloadn dX11_lawOf_5 rfl ?_
  refine a_getR (j' := 32) (y := 224) dX11_lawOf_6 flX11_57 rfl rfl (L209 L) (p209_32 hP) ?_
  refine a_iloadn dX11_lawOf_9 rfl ?_
  refine b_iald (N := 6) dX11_lawOf_10 (L224 L) (by decide) (by omega) (by omega) (fun hr10 => ?_)
  have e10 : sm M 209 47 0 224 w = M 224 w := by rw [sm_n (by decide)]
  rw [e10] at hr10
  rw [e10]
  refine c_istoren (ls' := [_, _, _]) dX11_lawOf_11 (by decide) rfl rfl ?_
  have q1 := (hL ht).1
  exact lpX11_lawOf hP hw hL ht (M 225 w - M 224 w).toNat (M 224 w) (sm M 209 47 0) (fun _ => 0) 0 (by omega) (by omega) ((Er.rf M).e 0) (fun j j0 j1 => by omega) (by rw [sm_s]) rfl hN
