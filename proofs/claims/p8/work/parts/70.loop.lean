set_option maxHeartbeats 40000000 in
set_option maxRecDepth 100000 in
theorem lw_loop {p : Program} {l : Launch} {e : Env} {s : State} {m : MethodId} {below : List Frame} {meth : Method} {cd : Code} {b L : Nat} {xs : Nat → Int32} {E : pEt} {D : va_G} {cB cI cZ : ClassId} {A : Nat → Prop} {Q : State → Prop} (Cx : lwC p s m meth cd b L xs E D cB cI cZ A) (hL : L ≤ 3072) {q q9 : Nat} (hend : ∀ (H : Heap) (locs : List Loc) (ls : Array Slot), va_S A s.heap H locs → W p l e room_1 s m #[Value.ref b] below meth cd H locs 63 9573 Q (F0 m 474 ls [.int 1])) (nn : Nat) : ∀ (ix : Nat) (k : lwK) (wx w9 : va_W), ix ≤ 3100 → lwX cB cI cZ q k wx → lw9 cB cI cZ q9 k w9 → L - ix < nn → ∀ (H : Heap) (locs : List Loc) (ls : Array Slot), va_P D vwCl (wx ++ w9) H → va_D A (wx ++ w9) → va_S A s.heap H locs → lv_has ls 4 [(0, .ref b), (1, .ref q), (2, .ref q9), (3, .int (nI ix))] → W p l e room_1 s m #[Value.ref b] below meth cd H locs 63 9573 Q (F0 m 18 ls []) := by
  obtain ⟨hx, hb, hml, hown, hts, hX, hbl, hbA, hK, hA, hE⟩ := id Cx
  induction nn with
  | zero => intro ix k wx w9 _ _ _ h9; exact absurd h9 (Nat.not_lt_zero _)
  | succ nn ih =>
    intro ix k wx w9 hix hWx hW9 hmu H locs ls hP hD hS hl
    refine lv_iload_n hx hb dL_law_18 rfl (lv_at hl 3 rfl) ?_
    refine lv_aload_n hx hb dL_law_19 rfl (lv_at hl 0 rfl) ?_
    refine va_slen hx hb hX hbl hbA hS dL_law_20 ?_
    refine lv_topi (fun z_1 ez_1 => ?_)
    obtain rfl : z_1 = nI L := ez_1.trans (rfl)
    refine lv_bipush (v := 6) hx hb dL_law_21 (by decide) ?_
    refine lv_isub hx hb dL_law_23 ?_
    refine lv_icmp_gt (tgt := 473) hx hb dL_law_24 (by decide) (fun c_2 => ?_) (fun c_2 => ?_)
    · refine lv_iconst (v := 1) hx hb dL_law_473 (by decide) ?_
      exact hend _ _ _ hS
    · have hIL : ix + 6 ≤ L := lwIx hL hix c_2
      refine lv_aload_n hx hb dL_law_27 rfl (lv_at hl 0 rfl) ?_
      refine lv_iload_n hx hb dL_law_28 rfl (lv_at hl 3 rfl) ?_
      refine va_sld hx hb hX hbl hbA hS (vp_in_nI (by omega) (by omega)) dL_law_29 ?_
      refine lv_topi (fun v_3 ev_3 => ?_)
      refine lv_bipush (v := 15) hx hb dL_law_30 (by decide) ?_
      refine lv_iand hx hb dL_law_32 ?_
      obtain ⟨j, hj, ej⟩ := pk_andE v_3 (m := 15) 4 (by decide)
      refine lv_topi (fun zj ezj => ?_)
      obtain rfl : zj = nI j := ezj.trans ej
      rcases (show j = 0 ∨ j = 1 ∨ j = 2 ∨ j = 3 ∨ j = 4 ∨ j = 5 ∨ j = 6 ∨ j = 7 ∨ j = 8 ∨ j = 9 ∨ j = 10 ∨ j = 11 ∨ j = 12 ∨ j = 13 ∨ j = 14 ∨ j = 15 by omega) with rfl | rfl | rfl | rfl | rfl | rfl | rfl | rfl | rfl | rfl | rfl | rfl | rfl | rfl | rfl | rfl
      · refine lv_tableIn (tgt := 100) hx hb dL_law_33 (by decide) (by decide) rfl (by decide) ?_
        refine lv_aload_n hx hb dL_law_100 rfl (lv_at hl 1 rfl) ?_
        refine lv_aload_n hx hb dL_law_101 rfl (lv_at hl 0 rfl) ?_
        refine lv_iload_n hx hb dL_law_102 rfl (lv_at hl 3 rfl) ?_
        refine lv_iconst (v := 1) hx hb dL_law_103 (by decide) ?_
        refine lv_iadd hx hb dL_law_104 ?_
        refine lv_topi (fun z_4 ez_4 => ?_)
        obtain rfl : z_4 = nI (ix + 1) := ez_4.trans (nI_add ix 1)
        refine va_sld hx hb hX hbl hbA hS (vp_in_nI (by omega) (by omega)) dL_law_105 ?_
        refine lv_topi (fun v_5 ev_5 => ?_)
        refine lv_aload_n hx hb dL_law_106 rfl (lv_at hl 0 rfl) ?_
        refine lv_iload_n hx hb dL_law_107 rfl (lv_at hl 3 rfl) ?_
        refine lv_iconst (v := 2) hx hb dL_law_108 (by decide) ?_
        refine lv_iadd hx hb dL_law_109 ?_
        refine lv_topi (fun z_6 ez_6 => ?_)
        obtain rfl : z_6 = nI (ix + 2) := ez_6.trans (nI_add ix 2)
        refine va_sld hx hb hX hbl hbA hS (vp_in_nI (by omega) (by omega)) dL_law_110 ?_
        refine lv_topi (fun v_7 ev_7 => ?_)
        refine lv_aload_n hx hb dL_law_111 rfl (lv_at hl 0 rfl) ?_
        refine lv_iload_n hx hb dL_law_112 rfl (lv_at hl 3 rfl) ?_
        refine lv_iconst (v := 3) hx hb dL_law_113 (by decide) ?_
        refine lv_iadd hx hb dL_law_114 ?_
        refine lv_topi (fun z_8 ez_8 => ?_)
        obtain rfl : z_8 = nI (ix + 3) := ez_8.trans (nI_add ix 3)
        refine va_sld hx hb hX hbl hbA hS (vp_in_nI (by omega) (by omega)) dL_law_115 ?_
        refine lv_topi (fun v_9 ev_9 => ?_)
        refine lv_aload_n hx hb dL_law_116 rfl (lv_at hl 0 rfl) ?_
        refine lv_iload_n hx hb dL_law_117 rfl (lv_at hl 3 rfl) ?_
        refine lv_iconst (v := 4) hx hb dL_law_118 (by decide) ?_
        refine lv_iadd hx hb dL_law_119 ?_
        refine lv_topi (fun z_10 ez_10 => ?_)
        obtain rfl : z_10 = nI (ix + 4) := ez_10.trans (nI_add ix 4)
        refine va_sld hx hb hX hbl hbA hS (vp_in_nI (by omega) (by omega)) dL_law_120 ?_
        refine lv_topi (fun v_11 ev_11 => ?_)
        refine lv_aload_n hx hb dL_law_121 rfl (lv_at hl 0 rfl) ?_
        refine lv_iload_n hx hb dL_law_122 rfl (lv_at hl 3 rfl) ?_
        refine lv_iconst (v := 5) hx hb dL_law_123 (by decide) ?_
        refine lv_iadd hx hb dL_law_124 ?_
        refine lv_topi (fun z_12 ez_12 => ?_)
        obtain rfl : z_12 = nI (ix + 5) := ez_12.trans (nI_add ix 5)
        refine va_sld hx hb hX hbl hbA hS (vp_in_nI (by omega) (by omega)) dL_law_125 ?_
        refine lv_topi (fun v_13 ev_13 => ?_)
        refine lx_feed Cx hl.1 hWx hP hD hS v_5 v_7 v_9 v_11 v_13  (fun r14 k14 w14 H14 L14 hk14 hWx hP hD hS => ?_)
        refine lv_pop hx hb dL_law_129 rfl ?_
        refine lv_aload_n hx hb dL_law_130 rfl (lv_at hl 2 rfl) ?_
        refine lv_aload_n hx hb dL_law_131 rfl (lv_at hl 0 rfl) ?_
        refine lv_iload_n hx hb dL_law_132 rfl (lv_at hl 3 rfl) ?_
        refine lv_iconst (v := 1) hx hb dL_law_133 (by decide) ?_
        refine lv_iadd hx hb dL_law_134 ?_
        refine lv_topi (fun z_15 ez_15 => ?_)
        obtain rfl : z_15 = nI (ix + 1) := ez_15.trans (nI_add ix 1)
        refine va_sld hx hb hX hbl hbA hS (vp_in_nI (by omega) (by omega)) dL_law_135 ?_
        refine lv_topi (fun z_16 ez_16 => ?_)
        obtain rfl : v_5 = z_16 := (ez_16.trans (ev_5.symm)).symm
        refine lv_aload_n hx hb dL_law_136 rfl (lv_at hl 0 rfl) ?_
        refine lv_iload_n hx hb dL_law_137 rfl (lv_at hl 3 rfl) ?_
        refine lv_iconst (v := 2) hx hb dL_law_138 (by decide) ?_
        refine lv_iadd hx hb dL_law_139 ?_
        refine lv_topi (fun z_17 ez_17 => ?_)
        obtain rfl : z_17 = nI (ix + 2) := ez_17.trans (nI_add ix 2)
        refine va_sld hx hb hX hbl hbA hS (vp_in_nI (by omega) (by omega)) dL_law_140 ?_
        refine lv_topi (fun z_18 ez_18 => ?_)
        obtain rfl : v_7 = z_18 := (ez_18.trans (ev_7.symm)).symm
        refine lv_aload_n hx hb dL_law_141 rfl (lv_at hl 0 rfl) ?_
        refine lv_iload_n hx hb dL_law_142 rfl (lv_at hl 3 rfl) ?_
        refine lv_iconst (v := 3) hx hb dL_law_143 (by decide) ?_
        refine lv_iadd hx hb dL_law_144 ?_
        refine lv_topi (fun z_19 ez_19 => ?_)
        obtain rfl : z_19 = nI (ix + 3) := ez_19.trans (nI_add ix 3)
        refine va_sld hx hb hX hbl hbA hS (vp_in_nI (by omega) (by omega)) dL_law_145 ?_
        refine lv_topi (fun z_20 ez_20 => ?_)
        obtain rfl : v_9 = z_20 := (ez_20.trans (ev_9.symm)).symm
        refine lv_aload_n hx hb dL_law_146 rfl (lv_at hl 0 rfl) ?_
        refine lv_iload_n hx hb dL_law_147 rfl (lv_at hl 3 rfl) ?_
        refine lv_iconst (v := 4) hx hb dL_law_148 (by decide) ?_
        refine lv_iadd hx hb dL_law_149 ?_
        refine lv_topi (fun z_21 ez_21 => ?_)
        obtain rfl : z_21 = nI (ix + 4) := ez_21.trans (nI_add ix 4)
        refine va_sld hx hb hX hbl hbA hS (vp_in_nI (by omega) (by omega)) dL_law_150 ?_
        refine lv_topi (fun z_22 ez_22 => ?_)
        obtain rfl : v_11 = z_22 := (ez_22.trans (ev_11.symm)).symm
        refine lv_aload_n hx hb dL_law_151 rfl (lv_at hl 0 rfl) ?_
        refine lv_iload_n hx hb dL_law_152 rfl (lv_at hl 3 rfl) ?_
        refine lv_iconst (v := 5) hx hb dL_law_153 (by decide) ?_
        refine lv_iadd hx hb dL_law_154 ?_
        refine lv_topi (fun z_23 ez_23 => ?_)
        obtain rfl : z_23 = nI (ix + 5) := ez_23.trans (nI_add ix 5)
        refine va_sld hx hb hX hbl hbA hS (vp_in_nI (by omega) (by omega)) dL_law_155 ?_
        refine lv_topi (fun z_24 ez_24 => ?_)
        obtain rfl : v_13 = z_24 := (ez_24.trans (ev_13.symm)).symm
        refine l9_feed Cx hl.1 hW9 hP hD hS v_5 v_7 v_9 v_11 v_13  (fun r25 k25 w25 H25 L25 hk25 hW9 hP hD hS => ?_)
        obtain rfl : k14 = k25 := hk14.trans hk25.symm
        refine lv_pop hx hb dL_law_159 rfl ?_
        refine lv_goto (tgt := 467) hx hb dL_law_160 (by decide) ?_
        refine lv_iinc (v := nI (ix + 6)) (lv' := [(3, .int (nI (ix + 6))), (0, .ref b), (1, .ref q), (2, .ref q9)]) hx hb dL_law_467 hl (k := 3) rfl (nI_add ix 6) (by decide) rfl (fun ls hl => ?_)
        refine lv_goto (tgt := 18) hx hb dL_law_470 (by decide) ?_
        exact ih (ix + 6) k14 _ _ (by omega) hWx hW9 (by omega) H25 _ ls hP hD hS (lv_sub hl [1, 2, 3, 0] rfl)
      · refine lv_tableIn (tgt := 163) hx hb dL_law_33 (by decide) (by decide) rfl (by decide) ?_
        refine lv_aload_n hx hb dL_law_163 rfl (lv_at hl 1 rfl) ?_
        refine lv_aload_n hx hb dL_law_164 rfl (lv_at hl 0 rfl) ?_
        refine lv_iload_n hx hb dL_law_165 rfl (lv_at hl 3 rfl) ?_
        refine lv_iconst (v := 1) hx hb dL_law_166 (by decide) ?_
        refine lv_iadd hx hb dL_law_167 ?_
        refine lv_topi (fun z_26 ez_26 => ?_)
        obtain rfl : z_26 = nI (ix + 1) := ez_26.trans (nI_add ix 1)
        refine va_sld hx hb hX hbl hbA hS (vp_in_nI (by omega) (by omega)) dL_law_168 ?_
        refine lv_topi (fun v_27 ev_27 => ?_)
        refine lx_end Cx hl.1 hWx hP hD hS v_27  (fun r28 k28 w28 H28 L28 hk28 hWx hP hD hS => ?_)
        refine lv_pop hx hb dL_law_172 rfl ?_
        refine lv_aload_n hx hb dL_law_173 rfl (lv_at hl 2 rfl) ?_
        refine lv_aload_n hx hb dL_law_174 rfl (lv_at hl 0 rfl) ?_
        refine lv_iload_n hx hb dL_law_175 rfl (lv_at hl 3 rfl) ?_
        refine lv_iconst (v := 1) hx hb dL_law_176 (by decide) ?_
        refine lv_iadd hx hb dL_law_177 ?_
        refine lv_topi (fun z_29 ez_29 => ?_)
        obtain rfl : z_29 = nI (ix + 1) := ez_29.trans (nI_add ix 1)
        refine va_sld hx hb hX hbl hbA hS (vp_in_nI (by omega) (by omega)) dL_law_178 ?_
        refine lv_topi (fun z_30 ez_30 => ?_)
        obtain rfl : v_27 = z_30 := (ez_30.trans (ev_27.symm)).symm
        refine l9_end Cx hl.1 hW9 hP hD hS v_27  (fun r31 k31 w31 H31 L31 hk31 hW9 hP hD hS => ?_)
        obtain rfl : k28 = k31 := hk28.trans hk31.symm
        refine lv_pop hx hb dL_law_182 rfl ?_
        refine lv_goto (tgt := 467) hx hb dL_law_183 (by decide) ?_
        refine lv_iinc (v := nI (ix + 6)) (lv' := [(3, .int (nI (ix + 6))), (0, .ref b), (1, .ref q), (2, .ref q9)]) hx hb dL_law_467 hl (k := 3) rfl (nI_add ix 6) (by decide) rfl (fun ls hl => ?_)
        refine lv_goto (tgt := 18) hx hb dL_law_470 (by decide) ?_
        exact ih (ix + 6) k28 _ _ (by omega) hWx hW9 (by omega) H31 _ ls hP hD hS (lv_sub hl [1, 2, 3, 0] rfl)
      · refine lv_tableIn (tgt := 186) hx hb dL_law_33 (by decide) (by decide) rfl (by decide) ?_
        refine lv_aload_n hx hb dL_law_186 rfl (lv_at hl 1 rfl) ?_
        refine lx_read Cx hl.1 hWx hP hD hS   (fun r32 k32 w32 H32 L32 hk32 hWx hP hD hS => ?_)
        refine lv_pop hx hb dL_law_190 rfl ?_
        refine lv_aload_n hx hb dL_law_191 rfl (lv_at hl 2 rfl) ?_
        refine l9_read Cx hl.1 hW9 hP hD hS   (fun r33 k33 w33 H33 L33 hk33 hW9 hP hD hS => ?_)
        obtain rfl : k32 = k33 := hk32.trans hk33.symm
        refine lv_pop hx hb dL_law_195 rfl ?_
        refine lv_goto (tgt := 467) hx hb dL_law_196 (by decide) ?_
        refine lv_iinc (v := nI (ix + 6)) (lv' := [(3, .int (nI (ix + 6))), (0, .ref b), (1, .ref q), (2, .ref q9)]) hx hb dL_law_467 hl (k := 3) rfl (nI_add ix 6) (by decide) rfl (fun ls hl => ?_)
        refine lv_goto (tgt := 18) hx hb dL_law_470 (by decide) ?_
        exact ih (ix + 6) k32 _ _ (by omega) hWx hW9 (by omega) H33 _ ls hP hD hS (lv_sub hl [1, 2, 3, 0] rfl)
      · refine lv_tableIn (tgt := 199) hx hb dL_law_33 (by decide) (by decide) rfl (by decide) ?_
        refine lv_aload_n hx hb dL_law_199 rfl (lv_at hl 1 rfl) ?_
        refine lv_aload_n hx hb dL_law_200 rfl (lv_at hl 0 rfl) ?_
        refine lv_iload_n hx hb dL_law_201 rfl (lv_at hl 3 rfl) ?_
        refine lv_iconst (v := 1) hx hb dL_law_202 (by decide) ?_
        refine lv_iadd hx hb dL_law_203 ?_
        refine lv_topi (fun z_34 ez_34 => ?_)
        obtain rfl : z_34 = nI (ix + 1) := ez_34.trans (nI_add ix 1)
        refine va_sld hx hb hX hbl hbA hS (vp_in_nI (by omega) (by omega)) dL_law_204 ?_
        refine lv_topi (fun v_35 ev_35 => ?_)
        refine lx_tell Cx hl.1 hWx hP hD hS v_35  (fun r36 k36 w36 H36 L36 hk36 hWx hP hD hS => ?_)
        refine lv_pop hx hb dL_law_208 rfl ?_
        refine lv_aload_n hx hb dL_law_209 rfl (lv_at hl 2 rfl) ?_
        refine lv_aload_n hx hb dL_law_210 rfl (lv_at hl 0 rfl) ?_
        refine lv_iload_n hx hb dL_law_211 rfl (lv_at hl 3 rfl) ?_
        refine lv_iconst (v := 1) hx hb dL_law_212 (by decide) ?_
        refine lv_iadd hx hb dL_law_213 ?_
        refine lv_topi (fun z_37 ez_37 => ?_)
        obtain rfl : z_37 = nI (ix + 1) := ez_37.trans (nI_add ix 1)
        refine va_sld hx hb hX hbl hbA hS (vp_in_nI (by omega) (by omega)) dL_law_214 ?_
        refine lv_topi (fun z_38 ez_38 => ?_)
        obtain rfl : v_35 = z_38 := (ez_38.trans (ev_35.symm)).symm
        refine l9_tell Cx hl.1 hW9 hP hD hS v_35  (fun r39 k39 w39 H39 L39 hk39 hW9 hP hD hS => ?_)
        obtain rfl : k36 = k39 := hk36.trans hk39.symm
        refine lv_pop hx hb dL_law_218 rfl ?_
        refine lv_goto (tgt := 467) hx hb dL_law_219 (by decide) ?_
        refine lv_iinc (v := nI (ix + 6)) (lv' := [(3, .int (nI (ix + 6))), (0, .ref b), (1, .ref q), (2, .ref q9)]) hx hb dL_law_467 hl (k := 3) rfl (nI_add ix 6) (by decide) rfl (fun ls hl => ?_)
        refine lv_goto (tgt := 18) hx hb dL_law_470 (by decide) ?_
        exact ih (ix + 6) k36 _ _ (by omega) hWx hW9 (by omega) H39 _ ls hP hD hS (lv_sub hl [1, 2, 3, 0] rfl)
      · refine lv_tableIn (tgt := 222) hx hb dL_law_33 (by decide) (by decide) rfl (by decide) ?_
        refine lv_aload_n hx hb dL_law_222 rfl (lv_at hl 1 rfl) ?_
        refine lx_forget Cx hl.1 hWx hP hD hS   (fun k40 w40 H40 L40 hk40 hWx hP hD hS => ?_)
        refine lv_aload_n hx hb dL_law_226 rfl (lv_at hl 2 rfl) ?_
        refine l9_forget Cx hl.1 hW9 hP hD hS   (fun k41 w41 H41 L41 hk41 hW9 hP hD hS => ?_)
        obtain rfl : k40 = k41 := hk40.trans hk41.symm
        refine lv_goto (tgt := 467) hx hb dL_law_230 (by decide) ?_
        refine lv_iinc (v := nI (ix + 6)) (lv' := [(3, .int (nI (ix + 6))), (0, .ref b), (1, .ref q), (2, .ref q9)]) hx hb dL_law_467 hl (k := 3) rfl (nI_add ix 6) (by decide) rfl (fun ls hl => ?_)
        refine lv_goto (tgt := 18) hx hb dL_law_470 (by decide) ?_
        exact ih (ix + 6) k40 _ _ (by omega) hWx hW9 (by omega) H41 _ ls hP hD hS (lv_sub hl [1, 2, 3, 0] rfl)
      · refine lv_tableIn (tgt := 233) hx hb dL_law_33 (by decide) (by decide) rfl (by decide) ?_
        refine lv_aload_n hx hb dL_law_233 rfl (lv_at hl 1 rfl) ?_
        refine lv_aload_n hx hb dL_law_234 rfl (lv_at hl 0 rfl) ?_
        refine lv_iload_n hx hb dL_law_235 rfl (lv_at hl 3 rfl) ?_
        refine lv_iconst (v := 1) hx hb dL_law_236 (by decide) ?_
        refine lv_iadd hx hb dL_law_237 ?_
        refine lv_topi (fun z_42 ez_42 => ?_)
        obtain rfl : z_42 = nI (ix + 1) := ez_42.trans (nI_add ix 1)
        refine va_sld hx hb hX hbl hbA hS (vp_in_nI (by omega) (by omega)) dL_law_238 ?_
        refine lv_topi (fun v_43 ev_43 => ?_)
        refine lv_aload_n hx hb dL_law_239 rfl (lv_at hl 0 rfl) ?_
        refine lv_iload_n hx hb dL_law_240 rfl (lv_at hl 3 rfl) ?_
        refine lv_iconst (v := 2) hx hb dL_law_241 (by decide) ?_
        refine lv_iadd hx hb dL_law_242 ?_
        refine lv_topi (fun z_44 ez_44 => ?_)
        obtain rfl : z_44 = nI (ix + 2) := ez_44.trans (nI_add ix 2)
        refine va_sld hx hb hX hbl hbA hS (vp_in_nI (by omega) (by omega)) dL_law_243 ?_
        refine lv_topi (fun v_45 ev_45 => ?_)
        refine lx_pin Cx hl.1 hWx hP hD hS v_43 v_45  (fun r46 k46 w46 H46 L46 hk46 hWx hP hD hS => ?_)
        refine lv_pop hx hb dL_law_247 rfl ?_
        refine lv_aload_n hx hb dL_law_248 rfl (lv_at hl 2 rfl) ?_
        refine lv_aload_n hx hb dL_law_249 rfl (lv_at hl 0 rfl) ?_
        refine lv_iload_n hx hb dL_law_250 rfl (lv_at hl 3 rfl) ?_
        refine lv_iconst (v := 1) hx hb dL_law_251 (by decide) ?_
        refine lv_iadd hx hb dL_law_252 ?_
        refine lv_topi (fun z_47 ez_47 => ?_)
        obtain rfl : z_47 = nI (ix + 1) := ez_47.trans (nI_add ix 1)
        refine va_sld hx hb hX hbl hbA hS (vp_in_nI (by omega) (by omega)) dL_law_253 ?_
        refine lv_topi (fun z_48 ez_48 => ?_)
        obtain rfl : v_43 = z_48 := (ez_48.trans (ev_43.symm)).symm
        refine lv_aload_n hx hb dL_law_254 rfl (lv_at hl 0 rfl) ?_
        refine lv_iload_n hx hb dL_law_255 rfl (lv_at hl 3 rfl) ?_
        refine lv_iconst (v := 2) hx hb dL_law_256 (by decide) ?_
        refine lv_iadd hx hb dL_law_257 ?_
        refine lv_topi (fun z_49 ez_49 => ?_)
        obtain rfl : z_49 = nI (ix + 2) := ez_49.trans (nI_add ix 2)
        refine va_sld hx hb hX hbl hbA hS (vp_in_nI (by omega) (by omega)) dL_law_258 ?_
        refine lv_topi (fun z_50 ez_50 => ?_)
        obtain rfl : v_45 = z_50 := (ez_50.trans (ev_45.symm)).symm
        refine l9_pin Cx hl.1 hW9 hP hD hS v_43 v_45  (fun r51 k51 w51 H51 L51 hk51 hW9 hP hD hS => ?_)
        obtain rfl : k46 = k51 := hk46.trans hk51.symm
        refine lv_pop hx hb dL_law_262 rfl ?_
        refine lv_goto (tgt := 467) hx hb dL_law_263 (by decide) ?_
        refine lv_iinc (v := nI (ix + 6)) (lv' := [(3, .int (nI (ix + 6))), (0, .ref b), (1, .ref q), (2, .ref q9)]) hx hb dL_law_467 hl (k := 3) rfl (nI_add ix 6) (by decide) rfl (fun ls hl => ?_)
        refine lv_goto (tgt := 18) hx hb dL_law_470 (by decide) ?_
        exact ih (ix + 6) k46 _ _ (by omega) hWx hW9 (by omega) H51 _ ls hP hD hS (lv_sub hl [1, 2, 3, 0] rfl)
      · refine lv_tableIn (tgt := 266) hx hb dL_law_33 (by decide) (by decide) rfl (by decide) ?_
        refine lv_aload_n hx hb dL_law_266 rfl (lv_at hl 1 rfl) ?_
        refine lv_aload_n hx hb dL_law_267 rfl (lv_at hl 0 rfl) ?_
        refine lv_iload_n hx hb dL_law_268 rfl (lv_at hl 3 rfl) ?_
        refine lv_iconst (v := 1) hx hb dL_law_269 (by decide) ?_
        refine lv_iadd hx hb dL_law_270 ?_
        refine lv_topi (fun z_52 ez_52 => ?_)
        obtain rfl : z_52 = nI (ix + 1) := ez_52.trans (nI_add ix 1)
        refine va_sld hx hb hX hbl hbA hS (vp_in_nI (by omega) (by omega)) dL_law_271 ?_
        refine lv_topi (fun v_53 ev_53 => ?_)
        refine lx_loose Cx hl.1 hWx hP hD hS v_53  (fun r54 k54 w54 H54 L54 hk54 hr54 hWx hP hD hS => ?_)
        refine lv_aload_n hx hb dL_law_275 rfl (lv_at hl 2 rfl) ?_
        refine lv_aload_n hx hb dL_law_276 rfl (lv_at hl 0 rfl) ?_
        refine lv_iload_n hx hb dL_law_277 rfl (lv_at hl 3 rfl) ?_
        refine lv_iconst (v := 1) hx hb dL_law_278 (by decide) ?_
        refine lv_iadd hx hb dL_law_279 ?_
        refine lv_topi (fun z_55 ez_55 => ?_)
        obtain rfl : z_55 = nI (ix + 1) := ez_55.trans (nI_add ix 1)
        refine va_sld hx hb hX hbl hbA hS (vp_in_nI (by omega) (by omega)) dL_law_280 ?_
        refine lv_topi (fun z_56 ez_56 => ?_)
        obtain rfl : v_53 = z_56 := (ez_56.trans (ev_53.symm)).symm
        refine l9_loose Cx hl.1 hW9 hP hD hS v_53 r54 (fun r57 k57 w57 H57 L57 hk57 hr57 hW9 hP hD hS => ?_)
        obtain rfl : k54 = k57 := hk54.trans hk57.symm
        obtain rfl : r54 = r57 := hr54.trans hr57.symm
        refine lv_icmp_eq (tgt := 467) hx hb dL_law_284 (by decide) (fun c_58 => ?_) (fun c_58 => ?_)
        · refine lv_iinc (v := nI (ix + 6)) (lv' := [(3, .int (nI (ix + 6))), (0, .ref b), (1, .ref q), (2, .ref q9)]) hx hb dL_law_467 hl (k := 3) rfl (nI_add ix 6) (by decide) rfl (fun ls hl => ?_)
          refine lv_goto (tgt := 18) hx hb dL_law_470 (by decide) ?_
          exact ih (ix + 6) k54 _ _ (by omega) hWx hW9 (by omega) H57 _ ls hP hD hS (lv_sub hl [1, 2, 3, 0] rfl)
        · exact False.elim (by exact c_58 rfl)
      · refine lv_tableIn (tgt := 289) hx hb dL_law_33 (by decide) (by decide) rfl (by decide) ?_
        refine lv_aload_n hx hb dL_law_289 rfl (lv_at hl 1 rfl) ?_
        refine lv_aload_n hx hb dL_law_290 rfl (lv_at hl 0 rfl) ?_
        refine lv_iload_n hx hb dL_law_291 rfl (lv_at hl 3 rfl) ?_
        refine lv_iconst (v := 1) hx hb dL_law_292 (by decide) ?_
        refine lv_iadd hx hb dL_law_293 ?_
        refine lv_topi (fun z_59 ez_59 => ?_)
        obtain rfl : z_59 = nI (ix + 1) := ez_59.trans (nI_add ix 1)
        refine va_sld hx hb hX hbl hbA hS (vp_in_nI (by omega) (by omega)) dL_law_294 ?_
        refine lv_topi (fun v_60 ev_60 => ?_)
        refine lx_look Cx hl.1 hWx hP hD hS v_60  (fun r61 k61 w61 H61 L61 hk61 hWx hP hD hS => ?_)
        refine lv_pop hx hb dL_law_298 rfl ?_
        refine lv_aload_n hx hb dL_law_299 rfl (lv_at hl 2 rfl) ?_
        refine lv_aload_n hx hb dL_law_300 rfl (lv_at hl 0 rfl) ?_
        refine lv_iload_n hx hb dL_law_301 rfl (lv_at hl 3 rfl) ?_
        refine lv_iconst (v := 1) hx hb dL_law_302 (by decide) ?_
        refine lv_iadd hx hb dL_law_303 ?_
        refine lv_topi (fun z_62 ez_62 => ?_)
        obtain rfl : z_62 = nI (ix + 1) := ez_62.trans (nI_add ix 1)
        refine va_sld hx hb hX hbl hbA hS (vp_in_nI (by omega) (by omega)) dL_law_304 ?_
        refine lv_topi (fun z_63 ez_63 => ?_)
        obtain rfl : v_60 = z_63 := (ez_63.trans (ev_60.symm)).symm
        refine l9_look Cx hl.1 hW9 hP hD hS v_60  (fun r64 k64 w64 H64 L64 hk64 hW9 hP hD hS => ?_)
        obtain rfl : k61 = k64 := hk61.trans hk64.symm
        refine lv_pop hx hb dL_law_308 rfl ?_
        refine lv_goto (tgt := 467) hx hb dL_law_309 (by decide) ?_
        refine lv_iinc (v := nI (ix + 6)) (lv' := [(3, .int (nI (ix + 6))), (0, .ref b), (1, .ref q), (2, .ref q9)]) hx hb dL_law_467 hl (k := 3) rfl (nI_add ix 6) (by decide) rfl (fun ls hl => ?_)
        refine lv_goto (tgt := 18) hx hb dL_law_470 (by decide) ?_
        exact ih (ix + 6) k61 _ _ (by omega) hWx hW9 (by omega) H64 _ ls hP hD hS (lv_sub hl [1, 2, 3, 0] rfl)
      · refine lv_tableIn (tgt := 312) hx hb dL_law_33 (by decide) (by decide) rfl (by decide) ?_
        refine lv_aload_n hx hb dL_law_312 rfl (lv_at hl 1 rfl) ?_
        refine lv_aload_n hx hb dL_law_313 rfl (lv_at hl 0 rfl) ?_
        refine lv_iload_n hx hb dL_law_314 rfl (lv_at hl 3 rfl) ?_
        refine lv_iconst (v := 1) hx hb dL_law_315 (by decide) ?_
        refine lv_iadd hx hb dL_law_316 ?_
        refine lv_topi (fun z_65 ez_65 => ?_)
        obtain rfl : z_65 = nI (ix + 1) := ez_65.trans (nI_add ix 1)
        refine va_sld hx hb hX hbl hbA hS (vp_in_nI (by omega) (by omega)) dL_law_317 ?_
        refine lv_topi (fun v_66 ev_66 => ?_)
        refine lv_aload_n hx hb dL_law_318 rfl (lv_at hl 0 rfl) ?_
        refine lv_iload_n hx hb dL_law_319 rfl (lv_at hl 3 rfl) ?_
        refine lv_iconst (v := 2) hx hb dL_law_320 (by decide) ?_
        refine lv_iadd hx hb dL_law_321 ?_
        refine lv_topi (fun z_67 ez_67 => ?_)
        obtain rfl : z_67 = nI (ix + 2) := ez_67.trans (nI_add ix 2)
        refine va_sld hx hb hX hbl hbA hS (vp_in_nI (by omega) (by omega)) dL_law_322 ?_
        refine lv_topi (fun v_68 ev_68 => ?_)
        refine lx_mention Cx hl.1 hWx hP hD hS v_66 v_68  (fun r69 k69 w69 H69 L69 hk69 hWx hP hD hS => ?_)
        refine lv_pop hx hb dL_law_326 rfl ?_
        refine lv_aload_n hx hb dL_law_327 rfl (lv_at hl 2 rfl) ?_
        refine lv_aload_n hx hb dL_law_328 rfl (lv_at hl 0 rfl) ?_
        refine lv_iload_n hx hb dL_law_329 rfl (lv_at hl 3 rfl) ?_
        refine lv_iconst (v := 1) hx hb dL_law_330 (by decide) ?_
        refine lv_iadd hx hb dL_law_331 ?_
        refine lv_topi (fun z_70 ez_70 => ?_)
        obtain rfl : z_70 = nI (ix + 1) := ez_70.trans (nI_add ix 1)
        refine va_sld hx hb hX hbl hbA hS (vp_in_nI (by omega) (by omega)) dL_law_332 ?_
        refine lv_topi (fun z_71 ez_71 => ?_)
        obtain rfl : v_66 = z_71 := (ez_71.trans (ev_66.symm)).symm
        refine lv_aload_n hx hb dL_law_333 rfl (lv_at hl 0 rfl) ?_
        refine lv_iload_n hx hb dL_law_334 rfl (lv_at hl 3 rfl) ?_
        refine lv_iconst (v := 2) hx hb dL_law_335 (by decide) ?_
        refine lv_iadd hx hb dL_law_336 ?_
        refine lv_topi (fun z_72 ez_72 => ?_)
        obtain rfl : z_72 = nI (ix + 2) := ez_72.trans (nI_add ix 2)
        refine va_sld hx hb hX hbl hbA hS (vp_in_nI (by omega) (by omega)) dL_law_337 ?_
        refine lv_topi (fun z_73 ez_73 => ?_)
        obtain rfl : v_68 = z_73 := (ez_73.trans (ev_68.symm)).symm
        refine l9_mention Cx hl.1 hW9 hP hD hS v_66 v_68  (fun r74 k74 w74 H74 L74 hk74 hW9 hP hD hS => ?_)
        obtain rfl : k69 = k74 := hk69.trans hk74.symm
        refine lv_pop hx hb dL_law_341 rfl ?_
        refine lv_goto (tgt := 467) hx hb dL_law_342 (by decide) ?_
        refine lv_iinc (v := nI (ix + 6)) (lv' := [(3, .int (nI (ix + 6))), (0, .ref b), (1, .ref q), (2, .ref q9)]) hx hb dL_law_467 hl (k := 3) rfl (nI_add ix 6) (by decide) rfl (fun ls hl => ?_)
        refine lv_goto (tgt := 18) hx hb dL_law_470 (by decide) ?_
        exact ih (ix + 6) k69 _ _ (by omega) hWx hW9 (by omega) H74 _ ls hP hD hS (lv_sub hl [1, 2, 3, 0] rfl)
      · refine lv_tableIn (tgt := 345) hx hb dL_law_33 (by decide) (by decide) rfl (by decide) ?_
        refine lv_aload_n hx hb dL_law_345 rfl (lv_at hl 1 rfl) ?_
        refine lv_aload_n hx hb dL_law_346 rfl (lv_at hl 0 rfl) ?_
        refine lv_iload_n hx hb dL_law_347 rfl (lv_at hl 3 rfl) ?_
        refine lv_iconst (v := 1) hx hb dL_law_348 (by decide) ?_
        refine lv_iadd hx hb dL_law_349 ?_
        refine lv_topi (fun z_75 ez_75 => ?_)
        obtain rfl : z_75 = nI (ix + 1) := ez_75.trans (nI_add ix 1)
        refine va_sld hx hb hX hbl hbA hS (vp_in_nI (by omega) (by omega)) dL_law_350 ?_
        refine lv_topi (fun v_76 ev_76 => ?_)
        refine lv_aload_n hx hb dL_law_351 rfl (lv_at hl 0 rfl) ?_
        refine lv_iload_n hx hb dL_law_352 rfl (lv_at hl 3 rfl) ?_
        refine lv_iconst (v := 2) hx hb dL_law_353 (by decide) ?_
        refine lv_iadd hx hb dL_law_354 ?_
        refine lv_topi (fun z_77 ez_77 => ?_)
        obtain rfl : z_77 = nI (ix + 2) := ez_77.trans (nI_add ix 2)
        refine va_sld hx hb hX hbl hbA hS (vp_in_nI (by omega) (by omega)) dL_law_355 ?_
        refine lv_topi (fun v_78 ev_78 => ?_)
        refine lx_person Cx hl.1 hWx hP hD hS v_76 v_78  (fun r79 k79 w79 H79 L79 hk79 hWx hP hD hS => ?_)
        refine lv_pop hx hb dL_law_359 rfl ?_
        refine lv_aload_n hx hb dL_law_360 rfl (lv_at hl 2 rfl) ?_
        refine lv_aload_n hx hb dL_law_361 rfl (lv_at hl 0 rfl) ?_
        refine lv_iload_n hx hb dL_law_362 rfl (lv_at hl 3 rfl) ?_
        refine lv_iconst (v := 1) hx hb dL_law_363 (by decide) ?_
        refine lv_iadd hx hb dL_law_364 ?_
        refine lv_topi (fun z_80 ez_80 => ?_)
        obtain rfl : z_80 = nI (ix + 1) := ez_80.trans (nI_add ix 1)
        refine va_sld hx hb hX hbl hbA hS (vp_in_nI (by omega) (by omega)) dL_law_365 ?_
        refine lv_topi (fun z_81 ez_81 => ?_)
        obtain rfl : v_76 = z_81 := (ez_81.trans (ev_76.symm)).symm
        refine lv_aload_n hx hb dL_law_366 rfl (lv_at hl 0 rfl) ?_
        refine lv_iload_n hx hb dL_law_367 rfl (lv_at hl 3 rfl) ?_
        refine lv_iconst (v := 2) hx hb dL_law_368 (by decide) ?_
        refine lv_iadd hx hb dL_law_369 ?_
        refine lv_topi (fun z_82 ez_82 => ?_)
        obtain rfl : z_82 = nI (ix + 2) := ez_82.trans (nI_add ix 2)
        refine va_sld hx hb hX hbl hbA hS (vp_in_nI (by omega) (by omega)) dL_law_370 ?_
        refine lv_topi (fun z_83 ez_83 => ?_)
        obtain rfl : v_78 = z_83 := (ez_83.trans (ev_78.symm)).symm
        refine l9_person Cx hl.1 hW9 hP hD hS v_76 v_78  (fun r84 k84 w84 H84 L84 hk84 hW9 hP hD hS => ?_)
        obtain rfl : k79 = k84 := hk79.trans hk84.symm
        refine lv_pop hx hb dL_law_374 rfl ?_
        refine lv_goto (tgt := 467) hx hb dL_law_375 (by decide) ?_
        refine lv_iinc (v := nI (ix + 6)) (lv' := [(3, .int (nI (ix + 6))), (0, .ref b), (1, .ref q), (2, .ref q9)]) hx hb dL_law_467 hl (k := 3) rfl (nI_add ix 6) (by decide) rfl (fun ls hl => ?_)
        refine lv_goto (tgt := 18) hx hb dL_law_470 (by decide) ?_
        exact ih (ix + 6) k79 _ _ (by omega) hWx hW9 (by omega) H84 _ ls hP hD hS (lv_sub hl [1, 2, 3, 0] rfl)
      · refine lv_tableIn (tgt := 378) hx hb dL_law_33 (by decide) (by decide) rfl (by decide) ?_
        refine lv_aload_n hx hb dL_law_378 rfl (lv_at hl 1 rfl) ?_
        refine lv_aload_n hx hb dL_law_379 rfl (lv_at hl 0 rfl) ?_
        refine lv_iload_n hx hb dL_law_380 rfl (lv_at hl 3 rfl) ?_
        refine lv_iconst (v := 1) hx hb dL_law_381 (by decide) ?_
        refine lv_iadd hx hb dL_law_382 ?_
        refine lv_topi (fun z_85 ez_85 => ?_)
        obtain rfl : z_85 = nI (ix + 1) := ez_85.trans (nI_add ix 1)
        refine va_sld hx hb hX hbl hbA hS (vp_in_nI (by omega) (by omega)) dL_law_383 ?_
        refine lv_topi (fun v_86 ev_86 => ?_)
        refine lv_aload_n hx hb dL_law_384 rfl (lv_at hl 0 rfl) ?_
        refine lv_iload_n hx hb dL_law_385 rfl (lv_at hl 3 rfl) ?_
        refine lv_iconst (v := 2) hx hb dL_law_386 (by decide) ?_
        refine lv_iadd hx hb dL_law_387 ?_
        refine lv_topi (fun z_87 ez_87 => ?_)
        obtain rfl : z_87 = nI (ix + 2) := ez_87.trans (nI_add ix 2)
        refine va_sld hx hb hX hbl hbA hS (vp_in_nI (by omega) (by omega)) dL_law_388 ?_
        refine lv_topi (fun v_88 ev_88 => ?_)
        refine lx_chain Cx hl.1 hWx hP hD hS v_86 v_88  (fun r89 k89 w89 H89 L89 hk89 hWx hP hD hS => ?_)
        refine lv_pop hx hb dL_law_392 rfl ?_
        refine lv_aload_n hx hb dL_law_393 rfl (lv_at hl 2 rfl) ?_
        refine lv_aload_n hx hb dL_law_394 rfl (lv_at hl 0 rfl) ?_
        refine lv_iload_n hx hb dL_law_395 rfl (lv_at hl 3 rfl) ?_
        refine lv_iconst (v := 1) hx hb dL_law_396 (by decide) ?_
        refine lv_iadd hx hb dL_law_397 ?_
        refine lv_topi (fun z_90 ez_90 => ?_)
        obtain rfl : z_90 = nI (ix + 1) := ez_90.trans (nI_add ix 1)
        refine va_sld hx hb hX hbl hbA hS (vp_in_nI (by omega) (by omega)) dL_law_398 ?_
        refine lv_topi (fun z_91 ez_91 => ?_)
        obtain rfl : v_86 = z_91 := (ez_91.trans (ev_86.symm)).symm
        refine lv_aload_n hx hb dL_law_399 rfl (lv_at hl 0 rfl) ?_
        refine lv_iload_n hx hb dL_law_400 rfl (lv_at hl 3 rfl) ?_
        refine lv_iconst (v := 2) hx hb dL_law_401 (by decide) ?_
        refine lv_iadd hx hb dL_law_402 ?_
        refine lv_topi (fun z_92 ez_92 => ?_)
        obtain rfl : z_92 = nI (ix + 2) := ez_92.trans (nI_add ix 2)
        refine va_sld hx hb hX hbl hbA hS (vp_in_nI (by omega) (by omega)) dL_law_403 ?_
        refine lv_topi (fun z_93 ez_93 => ?_)
        obtain rfl : v_88 = z_93 := (ez_93.trans (ev_88.symm)).symm
        refine l9_chain Cx hl.1 hW9 hP hD hS v_86 v_88  (fun r94 k94 w94 H94 L94 hk94 hW9 hP hD hS => ?_)
        obtain rfl : k89 = k94 := hk89.trans hk94.symm
        refine lv_pop hx hb dL_law_407 rfl ?_
        refine lv_goto (tgt := 467) hx hb dL_law_408 (by decide) ?_
        refine lv_iinc (v := nI (ix + 6)) (lv' := [(3, .int (nI (ix + 6))), (0, .ref b), (1, .ref q), (2, .ref q9)]) hx hb dL_law_467 hl (k := 3) rfl (nI_add ix 6) (by decide) rfl (fun ls hl => ?_)
        refine lv_goto (tgt := 18) hx hb dL_law_470 (by decide) ?_
        exact ih (ix + 6) k89 _ _ (by omega) hWx hW9 (by omega) H94 _ ls hP hD hS (lv_sub hl [1, 2, 3, 0] rfl)
      · refine lv_tableIn (tgt := 411) hx hb dL_law_33 (by decide) (by decide) rfl (by decide) ?_
        refine lv_aload_n hx hb dL_law_411 rfl (lv_at hl 1 rfl) ?_
        refine lv_aload_n hx hb dL_law_412 rfl (lv_at hl 0 rfl) ?_
        refine lv_iload_n hx hb dL_law_413 rfl (lv_at hl 3 rfl) ?_
        refine lv_iconst (v := 1) hx hb dL_law_414 (by decide) ?_
        refine lv_iadd hx hb dL_law_415 ?_
        refine lv_topi (fun z_95 ez_95 => ?_)
        obtain rfl : z_95 = nI (ix + 1) := ez_95.trans (nI_add ix 1)
        refine va_sld hx hb hX hbl hbA hS (vp_in_nI (by omega) (by omega)) dL_law_416 ?_
        refine lv_topi (fun v_96 ev_96 => ?_)
        refine lv_aload_n hx hb dL_law_417 rfl (lv_at hl 0 rfl) ?_
        refine lv_iload_n hx hb dL_law_418 rfl (lv_at hl 3 rfl) ?_
        refine lv_iconst (v := 2) hx hb dL_law_419 (by decide) ?_
        refine lv_iadd hx hb dL_law_420 ?_
        refine lv_topi (fun z_97 ez_97 => ?_)
        obtain rfl : z_97 = nI (ix + 2) := ez_97.trans (nI_add ix 2)
        refine va_sld hx hb hX hbl hbA hS (vp_in_nI (by omega) (by omega)) dL_law_421 ?_
        refine lv_topi (fun v_98 ev_98 => ?_)
        refine lx_name Cx hl.1 hWx hP hD hS v_96 v_98  (fun r99 k99 w99 H99 L99 hk99 hWx hP hD hS => ?_)
        refine lv_pop hx hb dL_law_425 rfl ?_
        refine lv_aload_n hx hb dL_law_426 rfl (lv_at hl 2 rfl) ?_
        refine lv_aload_n hx hb dL_law_427 rfl (lv_at hl 0 rfl) ?_
        refine lv_iload_n hx hb dL_law_428 rfl (lv_at hl 3 rfl) ?_
        refine lv_iconst (v := 1) hx hb dL_law_429 (by decide) ?_
        refine lv_iadd hx hb dL_law_430 ?_
        refine lv_topi (fun z_100 ez_100 => ?_)
        obtain rfl : z_100 = nI (ix + 1) := ez_100.trans (nI_add ix 1)
        refine va_sld hx hb hX hbl hbA hS (vp_in_nI (by omega) (by omega)) dL_law_431 ?_
        refine lv_topi (fun z_101 ez_101 => ?_)
        obtain rfl : v_96 = z_101 := (ez_101.trans (ev_96.symm)).symm
        refine lv_aload_n hx hb dL_law_432 rfl (lv_at hl 0 rfl) ?_
        refine lv_iload_n hx hb dL_law_433 rfl (lv_at hl 3 rfl) ?_
        refine lv_iconst (v := 2) hx hb dL_law_434 (by decide) ?_
        refine lv_iadd hx hb dL_law_435 ?_
        refine lv_topi (fun z_102 ez_102 => ?_)
        obtain rfl : z_102 = nI (ix + 2) := ez_102.trans (nI_add ix 2)
        refine va_sld hx hb hX hbl hbA hS (vp_in_nI (by omega) (by omega)) dL_law_436 ?_
        refine lv_topi (fun z_103 ez_103 => ?_)
        obtain rfl : v_98 = z_103 := (ez_103.trans (ev_98.symm)).symm
        refine l9_name Cx hl.1 hW9 hP hD hS v_96 v_98  (fun r104 k104 w104 H104 L104 hk104 hW9 hP hD hS => ?_)
        obtain rfl : k99 = k104 := hk99.trans hk104.symm
        refine lv_pop hx hb dL_law_440 rfl ?_
        refine lv_goto (tgt := 467) hx hb dL_law_441 (by decide) ?_
        refine lv_iinc (v := nI (ix + 6)) (lv' := [(3, .int (nI (ix + 6))), (0, .ref b), (1, .ref q), (2, .ref q9)]) hx hb dL_law_467 hl (k := 3) rfl (nI_add ix 6) (by decide) rfl (fun ls hl => ?_)
        refine lv_goto (tgt := 18) hx hb dL_law_470 (by decide) ?_
        exact ih (ix + 6) k99 _ _ (by omega) hWx hW9 (by omega) H104 _ ls hP hD hS (lv_sub hl [1, 2, 3, 0] rfl)
      · refine lv_tableIn (tgt := 444) hx hb dL_law_33 (by decide) (by decide) rfl (by decide) ?_
        refine lv_aload_n hx hb dL_law_444 rfl (lv_at hl 1 rfl) ?_
        refine lv_aload_n hx hb dL_law_445 rfl (lv_at hl 0 rfl) ?_
        refine lv_iload_n hx hb dL_law_446 rfl (lv_at hl 3 rfl) ?_
        refine lv_iconst (v := 1) hx hb dL_law_447 (by decide) ?_
        refine lv_iadd hx hb dL_law_448 ?_
        refine lv_topi (fun z_105 ez_105 => ?_)
        obtain rfl : z_105 = nI (ix + 1) := ez_105.trans (nI_add ix 1)
        refine va_sld hx hb hX hbl hbA hS (vp_in_nI (by omega) (by omega)) dL_law_449 ?_
        refine lv_topi (fun v_106 ev_106 => ?_)
        refine lx_who Cx hl.1 hWx hP hD hS v_106  (fun r107 k107 w107 H107 L107 hk107 hWx hP hD hS => ?_)
        refine lv_pop hx hb dL_law_453 rfl ?_
        refine lv_aload_n hx hb dL_law_454 rfl (lv_at hl 2 rfl) ?_
        refine lv_aload_n hx hb dL_law_455 rfl (lv_at hl 0 rfl) ?_
        refine lv_iload_n hx hb dL_law_456 rfl (lv_at hl 3 rfl) ?_
        refine lv_iconst (v := 1) hx hb dL_law_457 (by decide) ?_
        refine lv_iadd hx hb dL_law_458 ?_
        refine lv_topi (fun z_108 ez_108 => ?_)
        obtain rfl : z_108 = nI (ix + 1) := ez_108.trans (nI_add ix 1)
        refine va_sld hx hb hX hbl hbA hS (vp_in_nI (by omega) (by omega)) dL_law_459 ?_
        refine lv_topi (fun z_109 ez_109 => ?_)
        obtain rfl : v_106 = z_109 := (ez_109.trans (ev_106.symm)).symm
        refine l9_who Cx hl.1 hW9 hP hD hS v_106  (fun r110 k110 w110 H110 L110 hk110 hW9 hP hD hS => ?_)
        obtain rfl : k107 = k110 := hk107.trans hk110.symm
        refine lv_pop hx hb dL_law_463 rfl ?_
        refine lv_goto (tgt := 467) hx hb dL_law_464 (by decide) ?_
        refine lv_iinc (v := nI (ix + 6)) (lv' := [(3, .int (nI (ix + 6))), (0, .ref b), (1, .ref q), (2, .ref q9)]) hx hb dL_law_467 hl (k := 3) rfl (nI_add ix 6) (by decide) rfl (fun ls hl => ?_)
        refine lv_goto (tgt := 18) hx hb dL_law_470 (by decide) ?_
        exact ih (ix + 6) k107 _ _ (by omega) hWx hW9 (by omega) H110 _ ls hP hD hS (lv_sub hl [1, 2, 3, 0] rfl)
      · refine lv_tableOut (tgt := 467) hx hb dL_law_33 (by decide) (by decide) ?_
        refine lv_iinc (v := nI (ix + 6)) (lv' := [(3, .int (nI (ix + 6))), (0, .ref b), (1, .ref q), (2, .ref q9)]) hx hb dL_law_467 hl (k := 3) rfl (nI_add ix 6) (by decide) rfl (fun ls hl => ?_)
        refine lv_goto (tgt := 18) hx hb dL_law_470 (by decide) ?_
        exact ih (ix + 6) k _ _ (by omega) hWx hW9 (by omega) H _ ls hP hD hS (lv_sub hl [1, 2, 3, 0] rfl)
      · refine lv_tableOut (tgt := 467) hx hb dL_law_33 (by decide) (by decide) ?_
        refine lv_iinc (v := nI (ix + 6)) (lv' := [(3, .int (nI (ix + 6))), (0, .ref b), (1, .ref q), (2, .ref q9)]) hx hb dL_law_467 hl (k := 3) rfl (nI_add ix 6) (by decide) rfl (fun ls hl => ?_)
        refine lv_goto (tgt := 18) hx hb dL_law_470 (by decide) ?_
        exact ih (ix + 6) k _ _ (by omega) hWx hW9 (by omega) H _ ls hP hD hS (lv_sub hl [1, 2, 3, 0] rfl)
      · refine lv_tableOut (tgt := 467) hx hb dL_law_33 (by decide) (by decide) ?_
        refine lv_iinc (v := nI (ix + 6)) (lv' := [(3, .int (nI (ix + 6))), (0, .ref b), (1, .ref q), (2, .ref q9)]) hx hb dL_law_467 hl (k := 3) rfl (nI_add ix 6) (by decide) rfl (fun ls hl => ?_)
        refine lv_goto (tgt := 18) hx hb dL_law_470 (by decide) ?_
        exact ih (ix + 6) k _ _ (by omega) hWx hW9 (by omega) H _ ls hP hD hS (lv_sub hl [1, 2, 3, 0] rfl)
