set_option maxHeartbeats 4000000 in
set_option maxRecDepth 100000 in
theorem f_m_feed (l : Launch) (D : va_G) (cB cI cZ : ClassId) (E : pEt) (sz : Nat) (h0 : Nat) (x1 : Int32) (x2 : Int32) (x3 : Int32) (x4 : Int32) (x5 : Int32) (b0 : Nat) (b1 : Nat) (t0 : Nat) (tl : Nat) (wn : Nat) (sp : Int32) (b6 : Nat) (b7 : Nat) (b8 : Nat) (b9 : Nat) (dn : Nat) (b11 : Nat) (b12 : Nat) (b13 : Nat) (mn : Nat) (pn : Nat) (db : Int32) (ct : Int32) (b18 : Nat) (b19 : Nat) (b20 : Nat) (b21 : Nat) (b22 : Nat) (b23 : Nat) (b24 : Nat) (b25 : Nat) (b26 : Nat) (b27 : Nat) (b28 : Nat) (b29 : Nat) (b30 : Nat) (qn : Nat) (b32 : Nat) (b33 : Nat) (a_tape : Nat → Int32) (tt : Nat → Nat) (ht0 : t0 ≤ 600) (hG : qG t0 a_tape tt) : Met l yX9_feed (.code yX9_feed cX9_feed 8 (some .int) :: wsL_law) ({ frames := 0, cells := 0, slots := 0, locals := 0 } : Room) (va_Pc [.ref h0, .int x1, .int x2, .int x3, .int x4, .int x5] (pInE E D (pT cB cI cZ) sz [(h0, .inr (9, [.ref b0, .ref b1, .int (nI t0), .int (nI tl), .int (nI wn), .int sp, .ref b6, .ref b7, .ref b8, .ref b9, .int (nI dn), .ref b11, .ref b12, .ref b13, .int (nI mn), .int (nI pn), .int db, .int ct, .ref b18, .ref b19, .ref b20, .ref b21, .ref b22, .ref b23, .ref b24, .ref b25, .ref b26, .ref b27, .ref b28, .ref b29, .ref b30, .int (nI qn), .ref b32, .ref b33])), (b0, .inl (cI, 600, .inl a_tape))])) (va_Qi (fun (r : Int32) (u : Nat × (Nat → Int32)) => (((-1) = r) ∧ (¬ t0 + 20 ≤ 600) ∧ (t0 = u.1) ∧ (a_tape = u.2)) ∨ (((nI (t0 + 20)) = r) ∧ (t0 + 20 ≤ 600) ∧ (t0 + 20 = u.1) ∧ (qG (t0 + 20) u.2 (qTf tt t0 x1 x2 x3 x4 x5)))) (fun (u : Nat × (Nat → Int32)) (t : State) => pAt D (pT cB cI cZ) (va_A [(h0, .inr (9, [.ref b0, .ref b1, .int (nI t0), .int (nI tl), .int (nI wn), .int sp, .ref b6, .ref b7, .ref b8, .ref b9, .int (nI dn), .ref b11, .ref b12, .ref b13, .int (nI mn), .int (nI pn), .int db, .int ct, .ref b18, .ref b19, .ref b20, .ref b21, .ref b22, .ref b23, .ref b24, .ref b25, .ref b26, .ref b27, .ref b28, .ref b29, .ref b30, .int (nI qn), .ref b32, .ref b33])), (b0, .inl (cI, 600, .inl a_tape))] sz) [(h0, .inr (9, [.ref b0, .ref b1, .int (nI u.1), .int (nI tl), .int (nI wn), .int sp, .ref b6, .ref b7, .ref b8, .ref b9, .int (nI dn), .ref b11, .ref b12, .ref b13, .int (nI mn), .int (nI pn), .int db, .int ct, .ref b18, .ref b19, .ref b20, .ref b21, .ref b22, .ref b23, .ref b24, .ref b25, .ref b26, .ref b27, .ref b28, .ref b29, .ref b30, .int (nI qn), .ref b32, .ref b33])), (b0, .inl (cI, 600, .inl u.2))] t) (va_A [(h0, .inr (9, [.ref b0, .ref b1, .int (nI t0), .int (nI tl), .int (nI wn), .int sp, .ref b6, .ref b7, .ref b8, .ref b9, .int (nI dn), .ref b11, .ref b12, .ref b13, .int (nI mn), .int (nI pn), .int db, .int ct, .ref b18, .ref b19, .ref b20, .ref b21, .ref b22, .ref b23, .ref b24, .ref b25, .ref b26, .ref b27, .ref b28, .ref b29, .ref b30, .int (nI qn), .ref b32, .ref b33])), (b0, .inl (cI, 600, .inl a_tape))] sz)) 0 0 (va_A [(h0, .inr (9, [.ref b0, .ref b1, .int (nI t0), .int (nI tl), .int (nI wn), .int sp, .ref b6, .ref b7, .ref b8, .ref b9, .int (nI dn), .ref b11, .ref b12, .ref b13, .int (nI mn), .int (nI pn), .int db, .int ct, .ref b18, .ref b19, .ref b20, .ref b21, .ref b22, .ref b23, .ref b24, .ref b25, .ref b26, .ref b27, .ref b28, .ref b29, .ref b30, .int (nI qn), .ref b32, .ref b33])), (b0, .inl (cI, 600, .inl a_tape))] sz) := by
  refine Met.ofW (cc := cX9_feed) (maxL := 8) (ret := (some .int)) (by decide) rfl ?_
  intro p e s m args below meth cd s₁ B hml hv
  obtain ⟨rfl, hsz, hP, hK, hD0, hE⟩ := hv
  have hx := B.exec
  have hb := B.bytes
  have hr := B.returns
  have hts0 := atoms_spec (ws := .code yX9_feed cX9_feed 8 (some .int) :: wsL_law) B.pre
  have hts := fun (w : Cond) (h : w ∈ wsL_law) => hts0 w (List.mem_cons_of_mem _ h)
  have hown : s.vm.findClass RX9 = some m.cls := findClass_of_methodNamed B.named
  have hlocks := B.notSynchronized
  have hinX9 := inlX9
  subst hsz
  have hD := hD0.self (sz := s.heap.size)
  generalize hAe : va_A [(h0, .inr (9, [.ref b0, .ref b1, .int (nI t0), .int (nI tl), .int (nI wn), .int sp, .ref b6, .ref b7, .ref b8, .ref b9, .int (nI dn), .ref b11, .ref b12, .ref b13, .int (nI mn), .int (nI pn), .int db, .int ct, .ref b18, .ref b19, .ref b20, .ref b21, .ref b22, .ref b23, .ref b24, .ref b25, .ref b26, .ref b27, .ref b28, .ref b29, .ref b30, .int (nI qn), .ref b32, .ref b33])), (b0, .inl (cI, 600, .inl a_tape))] s.heap.size = A at hD hE ⊢
  have hA : ∀ q : Nat, s.heap.size ≤ q → A q := fun q h => by rw [← hAe]; exact Or.inr h
  have hS : va_S A s.heap s.heap [] := va_S.rf
  have hP : va_P D vwCl [(h0, .inr (9, [.ref b0, .ref b1, .int (nI t0), .int (nI tl), .int (nI wn), .int sp, .ref b6, .ref b7, .ref b8, .ref b9, .int (nI dn), .ref b11, .ref b12, .ref b13, .int (nI mn), .int (nI pn), .int db, .int ct, .ref b18, .ref b19, .ref b20, .ref b21, .ref b22, .ref b23, .ref b24, .ref b25, .ref b26, .ref b27, .ref b28, .ref b29, .ref b30, .int (nI qn), .ref b32, .ref b33])), (b0, .inl (cI, 600, .inl a_tape))] s.heap := hP
  have hl := lv_entry ([.ref h0, .int x1, .int x2, .int x3, .int x4, .int x5]) (n := 8) (Nat.le_of_ble_eq_true rfl)
  rw [lg_entry_eq]
  generalize (lg_sl ([.ref h0, .int x1, .int x2, .int x3, .int x4, .int x5]) ++ List.replicate (8 - (lg_sl ([.ref h0, .int x1, .int x2, .int x3, .int x4, .int x5])).length) Slot.unset).toArray = ls at hl ⊢
  have hl : lv_has ls 8 [(0, .ref h0), (1, .int x1), (2, .int x2), (3, .int x3), (4, .int x4), (5, .int x5)] := hl
  generalize hQ : MQ below _ _ _ _ _ _ = Q
  refine lv_aload_n hx hb dX9_feed_0 rfl (lv_at hl 0 rfl) ?_
  refine va_get (D := D) (ci := 9) (v := .int (nI t0)) (C := RX9) (T := TX9) (N := 34) hx hb hts hinX9 hown hK hP 0 rfl rfl 2 (by decide) (hts (.fieldLink RX9 83 "TaleReaderModel" "taped" "I") (uc8 _ (List.mem_of_getElem? (i := 13) rfl))) (fun _ h9 => h9) rfl dX9_feed_1 ?_
  refine lv_bipush (v := 20) hx hb dX9_feed_4 (by decide) ?_
  refine lv_iadd hx hb dX9_feed_6 ?_
  refine lv_topi (fun z_1 ez_1 => ?_)
  obtain rfl : z_1 = nI (t0 + 20) := ez_1.trans (nI_add t0 20)
  refine lv_sipush (v := 600) hx hb dX9_feed_7 (by decide) ?_
  refine lv_icmp_le (tgt := 15) hx hb dX9_feed_10 (by decide) (fun c_2 => ?_) (fun c_2 => ?_)
  · have h20 := (nI_leI (b := 600) (by omega) (by omega)).mp c_2
    refine lv_iconst (v := 0) hx hb dX9_feed_15 (by decide) ?_
    refine lv_istore (lv' := [(6, .int 0), (0, .ref h0), (1, .int x1), (2, .int x2), (3, .int x3), (4, .int x4), (5, .int x5)]) hx hb dX9_feed_16 hl (by decide) rfl (fun ls hl => ?_)
    have loop_3 : ∀ (nn_5 : Nat) (i : Nat) (g1 : Nat → Int32), (i ≤ 20) → (qG (t0 + i) g1 (qTf tt t0 x1 x2 x3 x4 x5)) → (20 - i < nn_5) → ∀ (H : Heap) (locs : List Loc) (ls : Array Slot), va_P D vwCl [(h0, .inr (9, [.ref b0, .ref b1, .int (nI (t0 + i)), .int (nI tl), .int (nI wn), .int sp, .ref b6, .ref b7, .ref b8, .ref b9, .int (nI dn), .ref b11, .ref b12, .ref b13, .int (nI mn), .int (nI pn), .int db, .int ct, .ref b18, .ref b19, .ref b20, .ref b21, .ref b22, .ref b23, .ref b24, .ref b25, .ref b26, .ref b27, .ref b28, .ref b29, .ref b30, .int (nI qn), .ref b32, .ref b33])), (b0, .inl (cI, 600, .inl g1))] H → va_D A [(h0, .inr (9, [.ref b0, .ref b1, .int (nI (t0 + i)), .int (nI tl), .int (nI wn), .int sp, .ref b6, .ref b7, .ref b8, .ref b9, .int (nI dn), .ref b11, .ref b12, .ref b13, .int (nI mn), .int (nI pn), .int db, .int ct, .ref b18, .ref b19, .ref b20, .ref b21, .ref b22, .ref b23, .ref b24, .ref b25, .ref b26, .ref b27, .ref b28, .ref b29, .ref b30, .int (nI qn), .ref b32, .ref b33])), (b0, .inl (cI, 600, .inl g1))] → va_S A s.heap H locs → lv_has ls 8 [(0, .ref h0), (1, .int x1), (2, .int x2), (3, .int x3), (4, .int x4), (5, .int x5), (6, .int (nI i))] → W p l e ({ frames := 0, cells := 0, slots := 0, locals := 0 } : Room) s m ([.ref h0, .int x1, .int x2, .int x3, .int x4, .int x5] : List Value).toArray below meth cd H locs 0 0 Q (F0 m 18 ls []) := by
      intro nn_5
      induction nn_5 with
      | zero => intros; exact absurd ‹_ < 0› (Nat.not_lt_zero _)
      | succ nn_5 ih_4 =>
        intro i g1 hi hg hmu H locs ls hP hD hS hl
        refine lv_iload hx hb dX9_feed_18 (lv_at hl 6 rfl) ?_
        refine lv_bipush (v := 20) hx hb dX9_feed_20 (by decide) ?_
        refine lv_icmp_ge (tgt := 115) hx hb dX9_feed_22 (by decide) (fun c_6 => ?_) (fun c_6 => ?_)
        · have hge := (nI_leI (a := 20) (by omega) (by omega)).mp c_6
          have hi20 : i = 20 := by omega
          refine lv_aload_n hx hb dX9_feed_115 rfl (lv_at hl 0 rfl) ?_
          refine va_get (D := D) (ci := 9) (v := .int (nI (t0 + i))) (C := RX9) (T := TX9) (N := 34) hx hb hts hinX9 hown hK hP 0 rfl rfl 2 (by decide) (hts (.fieldLink RX9 83 "TaleReaderModel" "taped" "I") (uc8 _ (List.mem_of_getElem? (i := 13) rfl))) (fun _ h9 => h9) rfl dX9_feed_116 ?_
          have hP9 := hP.sub (ws' := [(h0, .inr (9, [.ref b0, .ref b1, .int (nI (t0 + i)), .int (nI tl), .int (nI wn), .int sp, .ref b6, .ref b7, .ref b8, .ref b9, .int (nI dn), .ref b11, .ref b12, .ref b13, .int (nI mn), .int (nI pn), .int db, .int ct, .ref b18, .ref b19, .ref b20, .ref b21, .ref b22, .ref b23, .ref b24, .ref b25, .ref b26, .ref b27, .ref b28, .ref b29, .ref b30, .int (nI qn), .ref b32, .ref b33])), (b0, .inl (cI, 600, .inl g1))]) [0, 1] rfl
          have hD9 := hD.sub (ws' := [(h0, .inr (9, [.ref b0, .ref b1, .int (nI (t0 + i)), .int (nI tl), .int (nI wn), .int sp, .ref b6, .ref b7, .ref b8, .ref b9, .int (nI dn), .ref b11, .ref b12, .ref b13, .int (nI mn), .int (nI pn), .int db, .int ct, .ref b18, .ref b19, .ref b20, .ref b21, .ref b22, .ref b23, .ref b24, .ref b25, .ref b26, .ref b27, .ref b28, .ref b29, .ref b30, .int (nI qn), .ref b32, .ref b33])), (b0, .inl (cI, 600, .inl g1))]) [0, 1] (by decide) rfl
          rw [← hQ]
          exact W.iret (v := nI (t0 + i)) hx hb hr (fun t ht hW => ⟨⟨nI (t0 + i), (t0 + i, g1), rfl, Or.inr ((⟨(by rw [hi20]), h20, (by rw [hi20]), (by have q := hg; rw [hi20] at q; exact q)⟩)), ⟨by rw [ht]; exact hP9, va_K.moved hW.alike hK, hD9⟩⟩, hS.F ht⟩) hS.2.2 dX9_feed_119
        · have hlt_i : i < 20 := Nat.lt_of_not_le (fun q => c_6 (nI_le q (by omega)))
          refine lv_iload hx hb dX9_feed_25 (lv_at hl 6 rfl) ?_
          refine lv_iconst (v := 4) hx hb dX9_feed_27 (by decide) ?_
          refine lv_icmp_ge (tgt := 35) hx hb dX9_feed_28 (by decide) (fun c_7 => ?_) (fun c_7 => ?_)
          · have h4 : 4 ≤ i := (nI_leI (a := 4) (by decide) (by omega)).mp c_7
            refine lv_iload hx hb dX9_feed_35 (lv_at hl 6 rfl) ?_
            refine lv_bipush (v := 8) hx hb dX9_feed_37 (by decide) ?_
            refine lv_icmp_ge (tgt := 46) hx hb dX9_feed_39 (by decide) (fun c_8 => ?_) (fun c_8 => ?_)
            · have h8 : 8 ≤ i := (nI_leI (a := 8) (by decide) (by omega)).mp c_8
              refine lv_iload hx hb dX9_feed_46 (lv_at hl 6 rfl) ?_
              refine lv_bipush (v := 12) hx hb dX9_feed_48 (by decide) ?_
              refine lv_icmp_ge (tgt := 57) hx hb dX9_feed_50 (by decide) (fun c_9 => ?_) (fun c_9 => ?_)
              · have h12 : 12 ≤ i := (nI_leI (a := 12) (by decide) (by omega)).mp c_9
                refine lv_iload hx hb dX9_feed_57 (lv_at hl 6 rfl) ?_
                refine lv_bipush (v := 16) hx hb dX9_feed_59 (by decide) ?_
                refine lv_icmp_ge (tgt := 69) hx hb dX9_feed_61 (by decide) (fun c_10 => ?_) (fun c_10 => ?_)
                · have h16 : 16 ≤ i := (nI_leI (a := 16) (by decide) (by omega)).mp c_10
                  refine lv_iload hx hb dX9_feed_69 (lv_at hl 5 rfl) ?_
                  refine lv_istore (lv' := [(7, .int x5), (0, .ref h0), (1, .int x1), (2, .int x2), (3, .int x3), (4, .int x4), (5, .int x5), (6, .int (nI i))]) hx hb dX9_feed_71 hl (by decide) rfl (fun ls hl => ?_)
                  refine lv_aload_n hx hb dX9_feed_73 rfl (lv_at hl 1 rfl) ?_
                  refine va_get (D := D) (ci := 9) (v := .ref b0) (C := RX9) (T := TX9) (N := 34) hx hb hts hinX9 hown hK hP 0 rfl rfl 0 (by decide) (hts (.fieldLink RX9 7 "TaleReaderModel" "tape" "[I") (uc6 _ (List.mem_of_getElem? (i := 17) rfl))) (fun _ h9 => h9) rfl dX9_feed_74 ?_
                  refine lv_aload_n hx hb dX9_feed_77 rfl (lv_at hl 1 rfl) ?_
                  refine va_get (D := D) (ci := 9) (v := .int (nI (t0 + i))) (C := RX9) (T := TX9) (N := 34) hx hb hts hinX9 hown hK hP 0 rfl rfl 2 (by decide) (hts (.fieldLink RX9 83 "TaleReaderModel" "taped" "I") (uc8 _ (List.mem_of_getElem? (i := 13) rfl))) (fun _ h9 => h9) rfl dX9_feed_78 ?_
                  refine lv_iload hx hb dX9_feed_81 (lv_at hl 0 rfl) ?_
                  refine lv_bipush (v := 24) hx hb dX9_feed_83 (by decide) ?_
                  refine lv_bipush (v := 8) hx hb dX9_feed_85 (by decide) ?_
                  refine lv_iload hx hb dX9_feed_87 (lv_at hl 7 rfl) ?_
                  refine lv_iconst (v := 4) hx hb dX9_feed_89 (by decide) ?_
                  refine lv_irem hx hb dX9_feed_90 (by decide) ?_
                  refine lv_topi (fun z_11 ez_11 => ?_)
                  obtain rfl : z_11 = nI (i % 4) := ez_11.trans (pk_rem (d := 4) (by omega) (by decide) (by decide))
                  refine lv_imul hx hb dX9_feed_91 ?_
                  refine lv_topi (fun z_12 ez_12 => ?_)
                  obtain rfl : z_12 = nI (8 * (i % 4)) := ez_12.trans (pk_mul 8 (i % 4))
                  refine lv_isub hx hb dX9_feed_92 ?_
                  refine lv_topi (fun z_13 ez_13 => ?_)
                  obtain rfl : z_13 = nI (24 - 8 * (i % 4)) := ez_13.trans (pk_sub (a := 24) (by omega))
                  refine lv_ishr hx hb dX9_feed_93 ?_
                  refine lv_topi (fun z_14 ez_14 => ?_)
                  obtain rfl : z_14 = x5 >>> (nI (24 - 8 * (i % 4)) &&& 31) := ez_14.trans (rfl)
                  refine lv_sipush (v := 255) hx hb dX9_feed_94 (by decide) ?_
                  refine lv_iand hx hb dX9_feed_97 ?_
                  refine lv_topi (fun z_15 ez_15 => ?_)
                  obtain rfl : z_15 = nI (qV x5 (24 - 8 * (i % 4))) := ez_15.trans (qV_shr x5 (by omega))
                  refine va_iast (D := D) hx hb hK hP hD hS 1 1 rfl rfl (vp_in_nI (by omega) (by omega)) dX9_feed_98 (fun H_16 L_17 hP hD hS => ?_)
                  obtain ⟨g_18, eg_18⟩ : ∃ gg : Nat → Int32, gg = upd g1 ((nI (t0 + i))).toNatClampNeg (nI (qV x5 (24 - 8 * (i % 4)))) := ⟨_, rfl⟩
                  have hP : va_P D vwCl [(h0, .inr (9, [.ref b0, .ref b1, .int (nI (t0 + i)), .int (nI tl), .int (nI wn), .int sp, .ref b6, .ref b7, .ref b8, .ref b9, .int (nI dn), .ref b11, .ref b12, .ref b13, .int (nI mn), .int (nI pn), .int db, .int ct, .ref b18, .ref b19, .ref b20, .ref b21, .ref b22, .ref b23, .ref b24, .ref b25, .ref b26, .ref b27, .ref b28, .ref b29, .ref b30, .int (nI qn), .ref b32, .ref b33])), (b0, .inl (cI, 600, .inl g_18))] H_16 := by rw [eg_18]; exact hP
                  have hD : va_D A [(h0, .inr (9, [.ref b0, .ref b1, .int (nI (t0 + i)), .int (nI tl), .int (nI wn), .int sp, .ref b6, .ref b7, .ref b8, .ref b9, .int (nI dn), .ref b11, .ref b12, .ref b13, .int (nI mn), .int (nI pn), .int db, .int ct, .ref b18, .ref b19, .ref b20, .ref b21, .ref b22, .ref b23, .ref b24, .ref b25, .ref b26, .ref b27, .ref b28, .ref b29, .ref b30, .int (nI qn), .ref b32, .ref b33])), (b0, .inl (cI, 600, .inl g_18))] := by rw [eg_18]; exact hD
                  obtain rfl : g_18 = upd g1 (t0 + i) (nI (qV x5 (24 - 8 * (i % 4)))) := eg_18.trans (by rw [nI_clamp (by omega)])
                  refine lv_aload_n hx hb dX9_feed_99 rfl (lv_at hl 1 rfl) ?_
                  refine lv_dup hx hb dX9_feed_100 rfl ?_
                  refine va_get (D := D) (ci := 9) (v := .int (nI (t0 + i))) (C := RX9) (T := TX9) (N := 34) hx hb hts hinX9 hown hK hP 0 rfl rfl 2 (by decide) (hts (.fieldLink RX9 83 "TaleReaderModel" "taped" "I") (uc8 _ (List.mem_of_getElem? (i := 13) rfl))) (fun _ h9 => h9) rfl dX9_feed_101 ?_
                  refine lv_iconst (v := 1) hx hb dX9_feed_104 (by decide) ?_
                  refine lv_iadd hx hb dX9_feed_105 ?_
                  refine lv_topi (fun z_19 ez_19 => ?_)
                  obtain rfl : z_19 = nI (t0 + i + 1) := ez_19.trans (nI_add (t0 + i) 1)
                  refine va_put (D := D) (ci := 9) (v := .int (nI (t0 + i + 1))) (ty := .int) (C := RX9) (T := TX9) (N := 34) hx hb hts hinX9 tyX9 tyX9_ok nmX9 hown hK hP hD hS 0 rfl rfl 2 (by decide) (hts (.fieldLink RX9 83 "TaleReaderModel" "taped" "I") (uc8 _ (List.mem_of_getElem? (i := 13) rfl))) (fun _ h9 => h9) rfl (by decide +kernel) rfl rfl (Nat.le_of_ble_eq_true rfl) dX9_feed_106 (fun H_20 L_21 hP hD hS => ?_)
                  have hP : va_P D vwCl [(h0, .inr (9, [.ref b0, .ref b1, .int (nI (t0 + i + 1)), .int (nI tl), .int (nI wn), .int sp, .ref b6, .ref b7, .ref b8, .ref b9, .int (nI dn), .ref b11, .ref b12, .ref b13, .int (nI mn), .int (nI pn), .int db, .int ct, .ref b18, .ref b19, .ref b20, .ref b21, .ref b22, .ref b23, .ref b24, .ref b25, .ref b26, .ref b27, .ref b28, .ref b29, .ref b30, .int (nI qn), .ref b32, .ref b33])), (b0, .inl (cI, 600, .inl (upd g1 (t0 + i) (nI (qV x5 (24 - 8 * (i % 4)))))))] H_20 := hP
                  have hD : va_D A [(h0, .inr (9, [.ref b0, .ref b1, .int (nI (t0 + i + 1)), .int (nI tl), .int (nI wn), .int sp, .ref b6, .ref b7, .ref b8, .ref b9, .int (nI dn), .ref b11, .ref b12, .ref b13, .int (nI mn), .int (nI pn), .int db, .int ct, .ref b18, .ref b19, .ref b20, .ref b21, .ref b22, .ref b23, .ref b24, .ref b25, .ref b26, .ref b27, .ref b28, .ref b29, .ref b30, .int (nI qn), .ref b32, .ref b33])), (b0, .inl (cI, 600, .inl (upd g1 (t0 + i) (nI (qV x5 (24 - 8 * (i % 4)))))))] := hD
                  refine lv_iinc (v := nI (i + 1)) (lv' := [(6, .int (nI (i + 1))), (7, .int x5), (0, .ref h0), (1, .int x1), (2, .int x2), (3, .int x3), (4, .int x4), (5, .int x5)]) hx hb dX9_feed_109 hl (k := 7) rfl (nI_add i 1) (by decide) rfl (fun ls hl => ?_)
                  refine lv_goto (tgt := 18) hx hb dX9_feed_112 (by decide) ?_
                  exact ih_4 (i + 1) (upd g1 (t0 + i) (nI (qV x5 (24 - 8 * (i % 4))))) (by first | assumption | exact Or.inl rfl | exact Or.inr rfl | omega) (by first | exact qG_feed hg (n := 0) (by omega) rfl | exact qG_feed hg (n := 1) (by omega) rfl | exact qG_feed hg (n := 2) (by omega) rfl | exact qG_feed hg (n := 3) (by omega) rfl | exact qG_feed hg (n := 4) (by omega) rfl) (by omega) H_20 _ ls (hP.sub (ws' := [(h0, .inr (9, [.ref b0, .ref b1, .int (nI (t0 + i + 1)), .int (nI tl), .int (nI wn), .int sp, .ref b6, .ref b7, .ref b8, .ref b9, .int (nI dn), .ref b11, .ref b12, .ref b13, .int (nI mn), .int (nI pn), .int db, .int ct, .ref b18, .ref b19, .ref b20, .ref b21, .ref b22, .ref b23, .ref b24, .ref b25, .ref b26, .ref b27, .ref b28, .ref b29, .ref b30, .int (nI qn), .ref b32, .ref b33])), (b0, .inl (cI, 600, .inl (upd g1 (t0 + i) (nI (qV x5 (24 - 8 * (i % 4)))))))]) [0, 1] rfl) (hD.sub (ws' := [(h0, .inr (9, [.ref b0, .ref b1, .int (nI (t0 + i + 1)), .int (nI tl), .int (nI wn), .int sp, .ref b6, .ref b7, .ref b8, .ref b9, .int (nI dn), .ref b11, .ref b12, .ref b13, .int (nI mn), .int (nI pn), .int db, .int ct, .ref b18, .ref b19, .ref b20, .ref b21, .ref b22, .ref b23, .ref b24, .ref b25, .ref b26, .ref b27, .ref b28, .ref b29, .ref b30, .int (nI qn), .ref b32, .ref b33])), (b0, .inl (cI, 600, .inl (upd g1 (t0 + i) (nI (qV x5 (24 - 8 * (i % 4)))))))]) [0, 1] (by decide) rfl) hS (lv_sub hl [2, 3, 4, 5, 6, 7, 0] rfl)
                · have h16 : i < 16 := Nat.lt_of_not_le (fun q => c_10 (nI_le (a := 16) q (by omega)))
                  refine lv_iload hx hb dX9_feed_64 (lv_at hl 4 rfl) ?_
                  refine lv_goto (tgt := 71) hx hb dX9_feed_66 (by decide) ?_
                  refine lv_istore (lv' := [(7, .int x4), (0, .ref h0), (1, .int x1), (2, .int x2), (3, .int x3), (4, .int x4), (5, .int x5), (6, .int (nI i))]) hx hb dX9_feed_71 hl (by decide) rfl (fun ls hl => ?_)
                  refine lv_aload_n hx hb dX9_feed_73 rfl (lv_at hl 1 rfl) ?_
                  refine va_get (D := D) (ci := 9) (v := .ref b0) (C := RX9) (T := TX9) (N := 34) hx hb hts hinX9 hown hK hP 0 rfl rfl 0 (by decide) (hts (.fieldLink RX9 7 "TaleReaderModel" "tape" "[I") (uc6 _ (List.mem_of_getElem? (i := 17) rfl))) (fun _ h9 => h9) rfl dX9_feed_74 ?_
                  refine lv_aload_n hx hb dX9_feed_77 rfl (lv_at hl 1 rfl) ?_
                  refine va_get (D := D) (ci := 9) (v := .int (nI (t0 + i))) (C := RX9) (T := TX9) (N := 34) hx hb hts hinX9 hown hK hP 0 rfl rfl 2 (by decide) (hts (.fieldLink RX9 83 "TaleReaderModel" "taped" "I") (uc8 _ (List.mem_of_getElem? (i := 13) rfl))) (fun _ h9 => h9) rfl dX9_feed_78 ?_
                  refine lv_iload hx hb dX9_feed_81 (lv_at hl 0 rfl) ?_
                  refine lv_bipush (v := 24) hx hb dX9_feed_83 (by decide) ?_
                  refine lv_bipush (v := 8) hx hb dX9_feed_85 (by decide) ?_
                  refine lv_iload hx hb dX9_feed_87 (lv_at hl 7 rfl) ?_
                  refine lv_iconst (v := 4) hx hb dX9_feed_89 (by decide) ?_
                  refine lv_irem hx hb dX9_feed_90 (by decide) ?_
                  refine lv_topi (fun z_22 ez_22 => ?_)
                  obtain rfl : z_22 = nI (i % 4) := ez_22.trans (pk_rem (d := 4) (by omega) (by decide) (by decide))
                  refine lv_imul hx hb dX9_feed_91 ?_
                  refine lv_topi (fun z_23 ez_23 => ?_)
                  obtain rfl : z_23 = nI (8 * (i % 4)) := ez_23.trans (pk_mul 8 (i % 4))
                  refine lv_isub hx hb dX9_feed_92 ?_
                  refine lv_topi (fun z_24 ez_24 => ?_)
                  obtain rfl : z_24 = nI (24 - 8 * (i % 4)) := ez_24.trans (pk_sub (a := 24) (by omega))
                  refine lv_ishr hx hb dX9_feed_93 ?_
                  refine lv_topi (fun z_25 ez_25 => ?_)
                  obtain rfl : z_25 = x4 >>> (nI (24 - 8 * (i % 4)) &&& 31) := ez_25.trans (rfl)
                  refine lv_sipush (v := 255) hx hb dX9_feed_94 (by decide) ?_
                  refine lv_iand hx hb dX9_feed_97 ?_
                  refine lv_topi (fun z_26 ez_26 => ?_)
                  obtain rfl : z_26 = nI (qV x4 (24 - 8 * (i % 4))) := ez_26.trans (qV_shr x4 (by omega))
                  refine va_iast (D := D) hx hb hK hP hD hS 1 1 rfl rfl (vp_in_nI (by omega) (by omega)) dX9_feed_98 (fun H_27 L_28 hP hD hS => ?_)
                  obtain ⟨g_29, eg_29⟩ : ∃ gg : Nat → Int32, gg = upd g1 ((nI (t0 + i))).toNatClampNeg (nI (qV x4 (24 - 8 * (i % 4)))) := ⟨_, rfl⟩
                  have hP : va_P D vwCl [(h0, .inr (9, [.ref b0, .ref b1, .int (nI (t0 + i)), .int (nI tl), .int (nI wn), .int sp, .ref b6, .ref b7, .ref b8, .ref b9, .int (nI dn), .ref b11, .ref b12, .ref b13, .int (nI mn), .int (nI pn), .int db, .int ct, .ref b18, .ref b19, .ref b20, .ref b21, .ref b22, .ref b23, .ref b24, .ref b25, .ref b26, .ref b27, .ref b28, .ref b29, .ref b30, .int (nI qn), .ref b32, .ref b33])), (b0, .inl (cI, 600, .inl g_29))] H_27 := by rw [eg_29]; exact hP
                  have hD : va_D A [(h0, .inr (9, [.ref b0, .ref b1, .int (nI (t0 + i)), .int (nI tl), .int (nI wn), .int sp, .ref b6, .ref b7, .ref b8, .ref b9, .int (nI dn), .ref b11, .ref b12, .ref b13, .int (nI mn), .int (nI pn), .int db, .int ct, .ref b18, .ref b19, .ref b20, .ref b21, .ref b22, .ref b23, .ref b24, .ref b25, .ref b26, .ref b27, .ref b28, .ref b29, .ref b30, .int (nI qn), .ref b32, .ref b33])), (b0, .inl (cI, 600, .inl g_29))] := by rw [eg_29]; exact hD
                  obtain rfl : g_29 = upd g1 (t0 + i) (nI (qV x4 (24 - 8 * (i % 4)))) := eg_29.trans (by rw [nI_clamp (by omega)])
                  refine lv_aload_n hx hb dX9_feed_99 rfl (lv_at hl 1 rfl) ?_
                  refine lv_dup hx hb dX9_feed_100 rfl ?_
                  refine va_get (D := D) (ci := 9) (v := .int (nI (t0 + i))) (C := RX9) (T := TX9) (N := 34) hx hb hts hinX9 hown hK hP 0 rfl rfl 2 (by decide) (hts (.fieldLink RX9 83 "TaleReaderModel" "taped" "I") (uc8 _ (List.mem_of_getElem? (i := 13) rfl))) (fun _ h9 => h9) rfl dX9_feed_101 ?_
                  refine lv_iconst (v := 1) hx hb dX9_feed_104 (by decide) ?_
                  refine lv_iadd hx hb dX9_feed_105 ?_
                  refine lv_topi (fun z_30 ez_30 => ?_)
                  obtain rfl : z_30 = nI (t0 + i + 1) := ez_30.trans (nI_add (t0 + i) 1)
                  refine va_put (D := D) (ci := 9) (v := .int (nI (t0 + i + 1))) (ty := .int) (C := RX9) (T := TX9) (N := 34) hx hb hts hinX9 tyX9 tyX9_ok nmX9 hown hK hP hD hS 0 rfl rfl 2 (by decide) (hts (.fieldLink RX9 83 "TaleReaderModel" "taped" "I") (uc8 _ (List.mem_of_getElem? (i := 13) rfl))) (fun _ h9 => h9) rfl (by decide +kernel) rfl rfl (Nat.le_of_ble_eq_true rfl) dX9_feed_106 (fun H_31 L_32 hP hD hS => ?_)
                  have hP : va_P D vwCl [(h0, .inr (9, [.ref b0, .ref b1, .int (nI (t0 + i + 1)), .int (nI tl), .int (nI wn), .int sp, .ref b6, .ref b7, .ref b8, .ref b9, .int (nI dn), .ref b11, .ref b12, .ref b13, .int (nI mn), .int (nI pn), .int db, .int ct, .ref b18, .ref b19, .ref b20, .ref b21, .ref b22, .ref b23, .ref b24, .ref b25, .ref b26, .ref b27, .ref b28, .ref b29, .ref b30, .int (nI qn), .ref b32, .ref b33])), (b0, .inl (cI, 600, .inl (upd g1 (t0 + i) (nI (qV x4 (24 - 8 * (i % 4)))))))] H_31 := hP
                  have hD : va_D A [(h0, .inr (9, [.ref b0, .ref b1, .int (nI (t0 + i + 1)), .int (nI tl), .int (nI wn), .int sp, .ref b6, .ref b7, .ref b8, .ref b9, .int (nI dn), .ref b11, .ref b12, .ref b13, .int (nI mn), .int (nI pn), .int db, .int ct, .ref b18, .ref b19, .ref b20, .ref b21, .ref b22, .ref b23, .ref b24, .ref b25, .ref b26, .ref b27, .ref b28, .ref b29, .ref b30, .int (nI qn), .ref b32, .ref b33])), (b0, .inl (cI, 600, .inl (upd g1 (t0 + i) (nI (qV x4 (24 - 8 * (i % 4)))))))] := hD
                  refine lv_iinc (v := nI (i + 1)) (lv' := [(6, .int (nI (i + 1))), (7, .int x4), (0, .ref h0), (1, .int x1), (2, .int x2), (3, .int x3), (4, .int x4), (5, .int x5)]) hx hb dX9_feed_109 hl (k := 7) rfl (nI_add i 1) (by decide) rfl (fun ls hl => ?_)
                  refine lv_goto (tgt := 18) hx hb dX9_feed_112 (by decide) ?_
                  exact ih_4 (i + 1) (upd g1 (t0 + i) (nI (qV x4 (24 - 8 * (i % 4))))) (by first | assumption | exact Or.inl rfl | exact Or.inr rfl | omega) (by first | exact qG_feed hg (n := 0) (by omega) rfl | exact qG_feed hg (n := 1) (by omega) rfl | exact qG_feed hg (n := 2) (by omega) rfl | exact qG_feed hg (n := 3) (by omega) rfl | exact qG_feed hg (n := 4) (by omega) rfl) (by omega) H_31 _ ls (hP.sub (ws' := [(h0, .inr (9, [.ref b0, .ref b1, .int (nI (t0 + i + 1)), .int (nI tl), .int (nI wn), .int sp, .ref b6, .ref b7, .ref b8, .ref b9, .int (nI dn), .ref b11, .ref b12, .ref b13, .int (nI mn), .int (nI pn), .int db, .int ct, .ref b18, .ref b19, .ref b20, .ref b21, .ref b22, .ref b23, .ref b24, .ref b25, .ref b26, .ref b27, .ref b28, .ref b29, .ref b30, .int (nI qn), .ref b32, .ref b33])), (b0, .inl (cI, 600, .inl (upd g1 (t0 + i) (nI (qV x4 (24 - 8 * (i % 4)))))))]) [0, 1] rfl) (hD.sub (ws' := [(h0, .inr (9, [.ref b0, .ref b1, .int (nI (t0 + i + 1)), .int (nI tl), .int (nI wn), .int sp, .ref b6, .ref b7, .ref b8, .ref b9, .int (nI dn), .ref b11, .ref b12, .ref b13, .int (nI mn), .int (nI pn), .int db, .int ct, .ref b18, .ref b19, .ref b20, .ref b21, .ref b22, .ref b23, .ref b24, .ref b25, .ref b26, .ref b27, .ref b28, .ref b29, .ref b30, .int (nI qn), .ref b32, .ref b33])), (b0, .inl (cI, 600, .inl (upd g1 (t0 + i) (nI (qV x4 (24 - 8 * (i % 4)))))))]) [0, 1] (by decide) rfl) hS (lv_sub hl [2, 3, 4, 5, 6, 7, 0] rfl)
              · have h12 : i < 12 := Nat.lt_of_not_le (fun q => c_9 (nI_le (a := 12) q (by omega)))
                refine lv_iload_n hx hb dX9_feed_53 rfl (lv_at hl 3 rfl) ?_
                refine lv_goto (tgt := 71) hx hb dX9_feed_54 (by decide) ?_
                refine lv_istore (lv' := [(7, .int x3), (0, .ref h0), (1, .int x1), (2, .int x2), (3, .int x3), (4, .int x4), (5, .int x5), (6, .int (nI i))]) hx hb dX9_feed_71 hl (by decide) rfl (fun ls hl => ?_)
                refine lv_aload_n hx hb dX9_feed_73 rfl (lv_at hl 1 rfl) ?_
                refine va_get (D := D) (ci := 9) (v := .ref b0) (C := RX9) (T := TX9) (N := 34) hx hb hts hinX9 hown hK hP 0 rfl rfl 0 (by decide) (hts (.fieldLink RX9 7 "TaleReaderModel" "tape" "[I") (uc6 _ (List.mem_of_getElem? (i := 17) rfl))) (fun _ h9 => h9) rfl dX9_feed_74 ?_
                refine lv_aload_n hx hb dX9_feed_77 rfl (lv_at hl 1 rfl) ?_
                refine va_get (D := D) (ci := 9) (v := .int (nI (t0 + i))) (C := RX9) (T := TX9) (N := 34) hx hb hts hinX9 hown hK hP 0 rfl rfl 2 (by decide) (hts (.fieldLink RX9 83 "TaleReaderModel" "taped" "I") (uc8 _ (List.mem_of_getElem? (i := 13) rfl))) (fun _ h9 => h9) rfl dX9_feed_78 ?_
                refine lv_iload hx hb dX9_feed_81 (lv_at hl 0 rfl) ?_
                refine lv_bipush (v := 24) hx hb dX9_feed_83 (by decide) ?_
                refine lv_bipush (v := 8) hx hb dX9_feed_85 (by decide) ?_
                refine lv_iload hx hb dX9_feed_87 (lv_at hl 7 rfl) ?_
                refine lv_iconst (v := 4) hx hb dX9_feed_89 (by decide) ?_
                refine lv_irem hx hb dX9_feed_90 (by decide) ?_
                refine lv_topi (fun z_33 ez_33 => ?_)
                obtain rfl : z_33 = nI (i % 4) := ez_33.trans (pk_rem (d := 4) (by omega) (by decide) (by decide))
                refine lv_imul hx hb dX9_feed_91 ?_
                refine lv_topi (fun z_34 ez_34 => ?_)
                obtain rfl : z_34 = nI (8 * (i % 4)) := ez_34.trans (pk_mul 8 (i % 4))
                refine lv_isub hx hb dX9_feed_92 ?_
                refine lv_topi (fun z_35 ez_35 => ?_)
                obtain rfl : z_35 = nI (24 - 8 * (i % 4)) := ez_35.trans (pk_sub (a := 24) (by omega))
                refine lv_ishr hx hb dX9_feed_93 ?_
                refine lv_topi (fun z_36 ez_36 => ?_)
                obtain rfl : z_36 = x3 >>> (nI (24 - 8 * (i % 4)) &&& 31) := ez_36.trans (rfl)
                refine lv_sipush (v := 255) hx hb dX9_feed_94 (by decide) ?_
                refine lv_iand hx hb dX9_feed_97 ?_
                refine lv_topi (fun z_37 ez_37 => ?_)
                obtain rfl : z_37 = nI (qV x3 (24 - 8 * (i % 4))) := ez_37.trans (qV_shr x3 (by omega))
                refine va_iast (D := D) hx hb hK hP hD hS 1 1 rfl rfl (vp_in_nI (by omega) (by omega)) dX9_feed_98 (fun H_38 L_39 hP hD hS => ?_)
                obtain ⟨g_40, eg_40⟩ : ∃ gg : Nat → Int32, gg = upd g1 ((nI (t0 + i))).toNatClampNeg (nI (qV x3 (24 - 8 * (i % 4)))) := ⟨_, rfl⟩
                have hP : va_P D vwCl [(h0, .inr (9, [.ref b0, .ref b1, .int (nI (t0 + i)), .int (nI tl), .int (nI wn), .int sp, .ref b6, .ref b7, .ref b8, .ref b9, .int (nI dn), .ref b11, .ref b12, .ref b13, .int (nI mn), .int (nI pn), .int db, .int ct, .ref b18, .ref b19, .ref b20, .ref b21, .ref b22, .ref b23, .ref b24, .ref b25, .ref b26, .ref b27, .ref b28, .ref b29, .ref b30, .int (nI qn), .ref b32, .ref b33])), (b0, .inl (cI, 600, .inl g_40))] H_38 := by rw [eg_40]; exact hP
                have hD : va_D A [(h0, .inr (9, [.ref b0, .ref b1, .int (nI (t0 + i)), .int (nI tl), .int (nI wn), .int sp, .ref b6, .ref b7, .ref b8, .ref b9, .int (nI dn), .ref b11, .ref b12, .ref b13, .int (nI mn), .int (nI pn), .int db, .int ct, .ref b18, .ref b19, .ref b20, .ref b21, .ref b22, .ref b23, .ref b24, .ref b25, .ref b26, .ref b27, .ref b28, .ref b29, .ref b30, .int (nI qn), .ref b32, .ref b33])), (b0, .inl (cI, 600, .inl g_40))] := by rw [eg_40]; exact hD
                obtain rfl : g_40 = upd g1 (t0 + i) (nI (qV x3 (24 - 8 * (i % 4)))) := eg_40.trans (by rw [nI_clamp (by omega)])
                refine lv_aload_n hx hb dX9_feed_99 rfl (lv_at hl 1 rfl) ?_
                refine lv_dup hx hb dX9_feed_100 rfl ?_
                refine va_get (D := D) (ci := 9) (v := .int (nI (t0 + i))) (C := RX9) (T := TX9) (N := 34) hx hb hts hinX9 hown hK hP 0 rfl rfl 2 (by decide) (hts (.fieldLink RX9 83 "TaleReaderModel" "taped" "I") (uc8 _ (List.mem_of_getElem? (i := 13) rfl))) (fun _ h9 => h9) rfl dX9_feed_101 ?_
                refine lv_iconst (v := 1) hx hb dX9_feed_104 (by decide) ?_
                refine lv_iadd hx hb dX9_feed_105 ?_
                refine lv_topi (fun z_41 ez_41 => ?_)
                obtain rfl : z_41 = nI (t0 + i + 1) := ez_41.trans (nI_add (t0 + i) 1)
                refine va_put (D := D) (ci := 9) (v := .int (nI (t0 + i + 1))) (ty := .int) (C := RX9) (T := TX9) (N := 34) hx hb hts hinX9 tyX9 tyX9_ok nmX9 hown hK hP hD hS 0 rfl rfl 2 (by decide) (hts (.fieldLink RX9 83 "TaleReaderModel" "taped" "I") (uc8 _ (List.mem_of_getElem? (i := 13) rfl))) (fun _ h9 => h9) rfl (by decide +kernel) rfl rfl (Nat.le_of_ble_eq_true rfl) dX9_feed_106 (fun H_42 L_43 hP hD hS => ?_)
                have hP : va_P D vwCl [(h0, .inr (9, [.ref b0, .ref b1, .int (nI (t0 + i + 1)), .int (nI tl), .int (nI wn), .int sp, .ref b6, .ref b7, .ref b8, .ref b9, .int (nI dn), .ref b11, .ref b12, .ref b13, .int (nI mn), .int (nI pn), .int db, .int ct, .ref b18, .ref b19, .ref b20, .ref b21, .ref b22, .ref b23, .ref b24, .ref b25, .ref b26, .ref b27, .ref b28, .ref b29, .ref b30, .int (nI qn), .ref b32, .ref b33])), (b0, .inl (cI, 600, .inl (upd g1 (t0 + i) (nI (qV x3 (24 - 8 * (i % 4)))))))] H_42 := hP
                have hD : va_D A [(h0, .inr (9, [.ref b0, .ref b1, .int (nI (t0 + i + 1)), .int (nI tl), .int (nI wn), .int sp, .ref b6, .ref b7, .ref b8, .ref b9, .int (nI dn), .ref b11, .ref b12, .ref b13, .int (nI mn), .int (nI pn), .int db, .int ct, .ref b18, .ref b19, .ref b20, .ref b21, .ref b22, .ref b23, .ref b24, .ref b25, .ref b26, .ref b27, .ref b28, .ref b29, .ref b30, .int (nI qn), .ref b32, .ref b33])), (b0, .inl (cI, 600, .inl (upd g1 (t0 + i) (nI (qV x3 (24 - 8 * (i % 4)))))))] := hD
                refine lv_iinc (v := nI (i + 1)) (lv' := [(6, .int (nI (i + 1))), (7, .int x3), (0, .ref h0), (1, .int x1), (2, .int x2), (3, .int x3), (4, .int x4), (5, .int x5)]) hx hb dX9_feed_109 hl (k := 7) rfl (nI_add i 1) (by decide) rfl (fun ls hl => ?_)
                refine lv_goto (tgt := 18) hx hb dX9_feed_112 (by decide) ?_
                exact ih_4 (i + 1) (upd g1 (t0 + i) (nI (qV x3 (24 - 8 * (i % 4))))) (by first | assumption | exact Or.inl rfl | exact Or.inr rfl | omega) (by first | exact qG_feed hg (n := 0) (by omega) rfl | exact qG_feed hg (n := 1) (by omega) rfl | exact qG_feed hg (n := 2) (by omega) rfl | exact qG_feed hg (n := 3) (by omega) rfl | exact qG_feed hg (n := 4) (by omega) rfl) (by omega) H_42 _ ls (hP.sub (ws' := [(h0, .inr (9, [.ref b0, .ref b1, .int (nI (t0 + i + 1)), .int (nI tl), .int (nI wn), .int sp, .ref b6, .ref b7, .ref b8, .ref b9, .int (nI dn), .ref b11, .ref b12, .ref b13, .int (nI mn), .int (nI pn), .int db, .int ct, .ref b18, .ref b19, .ref b20, .ref b21, .ref b22, .ref b23, .ref b24, .ref b25, .ref b26, .ref b27, .ref b28, .ref b29, .ref b30, .int (nI qn), .ref b32, .ref b33])), (b0, .inl (cI, 600, .inl (upd g1 (t0 + i) (nI (qV x3 (24 - 8 * (i % 4)))))))]) [0, 1] rfl) (hD.sub (ws' := [(h0, .inr (9, [.ref b0, .ref b1, .int (nI (t0 + i + 1)), .int (nI tl), .int (nI wn), .int sp, .ref b6, .ref b7, .ref b8, .ref b9, .int (nI dn), .ref b11, .ref b12, .ref b13, .int (nI mn), .int (nI pn), .int db, .int ct, .ref b18, .ref b19, .ref b20, .ref b21, .ref b22, .ref b23, .ref b24, .ref b25, .ref b26, .ref b27, .ref b28, .ref b29, .ref b30, .int (nI qn), .ref b32, .ref b33])), (b0, .inl (cI, 600, .inl (upd g1 (t0 + i) (nI (qV x3 (24 - 8 * (i % 4)))))))]) [0, 1] (by decide) rfl) hS (lv_sub hl [2, 3, 4, 5, 6, 7, 0] rfl)
            · have h8 : i < 8 := Nat.lt_of_not_le (fun q => c_8 (nI_le (a := 8) q (by omega)))
              refine lv_iload_n hx hb dX9_feed_42 rfl (lv_at hl 2 rfl) ?_
              refine lv_goto (tgt := 71) hx hb dX9_feed_43 (by decide) ?_
              refine lv_istore (lv' := [(7, .int x2), (0, .ref h0), (1, .int x1), (2, .int x2), (3, .int x3), (4, .int x4), (5, .int x5), (6, .int (nI i))]) hx hb dX9_feed_71 hl (by decide) rfl (fun ls hl => ?_)
              refine lv_aload_n hx hb dX9_feed_73 rfl (lv_at hl 1 rfl) ?_
              refine va_get (D := D) (ci := 9) (v := .ref b0) (C := RX9) (T := TX9) (N := 34) hx hb hts hinX9 hown hK hP 0 rfl rfl 0 (by decide) (hts (.fieldLink RX9 7 "TaleReaderModel" "tape" "[I") (uc6 _ (List.mem_of_getElem? (i := 17) rfl))) (fun _ h9 => h9) rfl dX9_feed_74 ?_
              refine lv_aload_n hx hb dX9_feed_77 rfl (lv_at hl 1 rfl) ?_
              refine va_get (D := D) (ci := 9) (v := .int (nI (t0 + i))) (C := RX9) (T := TX9) (N := 34) hx hb hts hinX9 hown hK hP 0 rfl rfl 2 (by decide) (hts (.fieldLink RX9 83 "TaleReaderModel" "taped" "I") (uc8 _ (List.mem_of_getElem? (i := 13) rfl))) (fun _ h9 => h9) rfl dX9_feed_78 ?_
              refine lv_iload hx hb dX9_feed_81 (lv_at hl 0 rfl) ?_
              refine lv_bipush (v := 24) hx hb dX9_feed_83 (by decide) ?_
              refine lv_bipush (v := 8) hx hb dX9_feed_85 (by decide) ?_
              refine lv_iload hx hb dX9_feed_87 (lv_at hl 7 rfl) ?_
              refine lv_iconst (v := 4) hx hb dX9_feed_89 (by decide) ?_
              refine lv_irem hx hb dX9_feed_90 (by decide) ?_
              refine lv_topi (fun z_44 ez_44 => ?_)
              obtain rfl : z_44 = nI (i % 4) := ez_44.trans (pk_rem (d := 4) (by omega) (by decide) (by decide))
              refine lv_imul hx hb dX9_feed_91 ?_
              refine lv_topi (fun z_45 ez_45 => ?_)
              obtain rfl : z_45 = nI (8 * (i % 4)) := ez_45.trans (pk_mul 8 (i % 4))
              refine lv_isub hx hb dX9_feed_92 ?_
              refine lv_topi (fun z_46 ez_46 => ?_)
              obtain rfl : z_46 = nI (24 - 8 * (i % 4)) := ez_46.trans (pk_sub (a := 24) (by omega))
              refine lv_ishr hx hb dX9_feed_93 ?_
              refine lv_topi (fun z_47 ez_47 => ?_)
              obtain rfl : z_47 = x2 >>> (nI (24 - 8 * (i % 4)) &&& 31) := ez_47.trans (rfl)
              refine lv_sipush (v := 255) hx hb dX9_feed_94 (by decide) ?_
              refine lv_iand hx hb dX9_feed_97 ?_
              refine lv_topi (fun z_48 ez_48 => ?_)
              obtain rfl : z_48 = nI (qV x2 (24 - 8 * (i % 4))) := ez_48.trans (qV_shr x2 (by omega))
              refine va_iast (D := D) hx hb hK hP hD hS 1 1 rfl rfl (vp_in_nI (by omega) (by omega)) dX9_feed_98 (fun H_49 L_50 hP hD hS => ?_)
              obtain ⟨g_51, eg_51⟩ : ∃ gg : Nat → Int32, gg = upd g1 ((nI (t0 + i))).toNatClampNeg (nI (qV x2 (24 - 8 * (i % 4)))) := ⟨_, rfl⟩
              have hP : va_P D vwCl [(h0, .inr (9, [.ref b0, .ref b1, .int (nI (t0 + i)), .int (nI tl), .int (nI wn), .int sp, .ref b6, .ref b7, .ref b8, .ref b9, .int (nI dn), .ref b11, .ref b12, .ref b13, .int (nI mn), .int (nI pn), .int db, .int ct, .ref b18, .ref b19, .ref b20, .ref b21, .ref b22, .ref b23, .ref b24, .ref b25, .ref b26, .ref b27, .ref b28, .ref b29, .ref b30, .int (nI qn), .ref b32, .ref b33])), (b0, .inl (cI, 600, .inl g_51))] H_49 := by rw [eg_51]; exact hP
              have hD : va_D A [(h0, .inr (9, [.ref b0, .ref b1, .int (nI (t0 + i)), .int (nI tl), .int (nI wn), .int sp, .ref b6, .ref b7, .ref b8, .ref b9, .int (nI dn), .ref b11, .ref b12, .ref b13, .int (nI mn), .int (nI pn), .int db, .int ct, .ref b18, .ref b19, .ref b20, .ref b21, .ref b22, .ref b23, .ref b24, .ref b25, .ref b26, .ref b27, .ref b28, .ref b29, .ref b30, .int (nI qn), .ref b32, .ref b33])), (b0, .inl (cI, 600, .inl g_51))] := by rw [eg_51]; exact hD
              obtain rfl : g_51 = upd g1 (t0 + i) (nI (qV x2 (24 - 8 * (i % 4)))) := eg_51.trans (by rw [nI_clamp (by omega)])
              refine lv_aload_n hx hb dX9_feed_99 rfl (lv_at hl 1 rfl) ?_
              refine lv_dup hx hb dX9_feed_100 rfl ?_
              refine va_get (D := D) (ci := 9) (v := .int (nI (t0 + i))) (C := RX9) (T := TX9) (N := 34) hx hb hts hinX9 hown hK hP 0 rfl rfl 2 (by decide) (hts (.fieldLink RX9 83 "TaleReaderModel" "taped" "I") (uc8 _ (List.mem_of_getElem? (i := 13) rfl))) (fun _ h9 => h9) rfl dX9_feed_101 ?_
              refine lv_iconst (v := 1) hx hb dX9_feed_104 (by decide) ?_
              refine lv_iadd hx hb dX9_feed_105 ?_
              refine lv_topi (fun z_52 ez_52 => ?_)
              obtain rfl : z_52 = nI (t0 + i + 1) := ez_52.trans (nI_add (t0 + i) 1)
              refine va_put (D := D) (ci := 9) (v := .int (nI (t0 + i + 1))) (ty := .int) (C := RX9) (T := TX9) (N := 34) hx hb hts hinX9 tyX9 tyX9_ok nmX9 hown hK hP hD hS 0 rfl rfl 2 (by decide) (hts (.fieldLink RX9 83 "TaleReaderModel" "taped" "I") (uc8 _ (List.mem_of_getElem? (i := 13) rfl))) (fun _ h9 => h9) rfl (by decide +kernel) rfl rfl (Nat.le_of_ble_eq_true rfl) dX9_feed_106 (fun H_53 L_54 hP hD hS => ?_)
              have hP : va_P D vwCl [(h0, .inr (9, [.ref b0, .ref b1, .int (nI (t0 + i + 1)), .int (nI tl), .int (nI wn), .int sp, .ref b6, .ref b7, .ref b8, .ref b9, .int (nI dn), .ref b11, .ref b12, .ref b13, .int (nI mn), .int (nI pn), .int db, .int ct, .ref b18, .ref b19, .ref b20, .ref b21, .ref b22, .ref b23, .ref b24, .ref b25, .ref b26, .ref b27, .ref b28, .ref b29, .ref b30, .int (nI qn), .ref b32, .ref b33])), (b0, .inl (cI, 600, .inl (upd g1 (t0 + i) (nI (qV x2 (24 - 8 * (i % 4)))))))] H_53 := hP
              have hD : va_D A [(h0, .inr (9, [.ref b0, .ref b1, .int (nI (t0 + i + 1)), .int (nI tl), .int (nI wn), .int sp, .ref b6, .ref b7, .ref b8, .ref b9, .int (nI dn), .ref b11, .ref b12, .ref b13, .int (nI mn), .int (nI pn), .int db, .int ct, .ref b18, .ref b19, .ref b20, .ref b21, .ref b22, .ref b23, .ref b24, .ref b25, .ref b26, .ref b27, .ref b28, .ref b29, .ref b30, .int (nI qn), .ref b32, .ref b33])), (b0, .inl (cI, 600, .inl (upd g1 (t0 + i) (nI (qV x2 (24 - 8 * (i % 4)))))))] := hD
              refine lv_iinc (v := nI (i + 1)) (lv' := [(6, .int (nI (i + 1))), (7, .int x2), (0, .ref h0), (1, .int x1), (2, .int x2), (3, .int x3), (4, .int x4), (5, .int x5)]) hx hb dX9_feed_109 hl (k := 7) rfl (nI_add i 1) (by decide) rfl (fun ls hl => ?_)
              refine lv_goto (tgt := 18) hx hb dX9_feed_112 (by decide) ?_
              exact ih_4 (i + 1) (upd g1 (t0 + i) (nI (qV x2 (24 - 8 * (i % 4))))) (by first | assumption | exact Or.inl rfl | exact Or.inr rfl | omega) (by first | exact qG_feed hg (n := 0) (by omega) rfl | exact qG_feed hg (n := 1) (by omega) rfl | exact qG_feed hg (n := 2) (by omega) rfl | exact qG_feed hg (n := 3) (by omega) rfl | exact qG_feed hg (n := 4) (by omega) rfl) (by omega) H_53 _ ls (hP.sub (ws' := [(h0, .inr (9, [.ref b0, .ref b1, .int (nI (t0 + i + 1)), .int (nI tl), .int (nI wn), .int sp, .ref b6, .ref b7, .ref b8, .ref b9, .int (nI dn), .ref b11, .ref b12, .ref b13, .int (nI mn), .int (nI pn), .int db, .int ct, .ref b18, .ref b19, .ref b20, .ref b21, .ref b22, .ref b23, .ref b24, .ref b25, .ref b26, .ref b27, .ref b28, .ref b29, .ref b30, .int (nI qn), .ref b32, .ref b33])), (b0, .inl (cI, 600, .inl (upd g1 (t0 + i) (nI (qV x2 (24 - 8 * (i % 4)))))))]) [0, 1] rfl) (hD.sub (ws' := [(h0, .inr (9, [.ref b0, .ref b1, .int (nI (t0 + i + 1)), .int (nI tl), .int (nI wn), .int sp, .ref b6, .ref b7, .ref b8, .ref b9, .int (nI dn), .ref b11, .ref b12, .ref b13, .int (nI mn), .int (nI pn), .int db, .int ct, .ref b18, .ref b19, .ref b20, .ref b21, .ref b22, .ref b23, .ref b24, .ref b25, .ref b26, .ref b27, .ref b28, .ref b29, .ref b30, .int (nI qn), .ref b32, .ref b33])), (b0, .inl (cI, 600, .inl (upd g1 (t0 + i) (nI (qV x2 (24 - 8 * (i % 4)))))))]) [0, 1] (by decide) rfl) hS (lv_sub hl [2, 3, 4, 5, 6, 7, 0] rfl)
          · have h4 : i < 4 := Nat.lt_of_not_le (fun q => c_7 (nI_le (a := 4) q (by omega)))
            refine lv_iload_n hx hb dX9_feed_31 rfl (lv_at hl 1 rfl) ?_
            refine lv_goto (tgt := 71) hx hb dX9_feed_32 (by decide) ?_
            refine lv_istore (lv' := [(7, .int x1), (0, .ref h0), (1, .int x1), (2, .int x2), (3, .int x3), (4, .int x4), (5, .int x5), (6, .int (nI i))]) hx hb dX9_feed_71 hl (by decide) rfl (fun ls hl => ?_)
            refine lv_aload_n hx hb dX9_feed_73 rfl (lv_at hl 1 rfl) ?_
            refine va_get (D := D) (ci := 9) (v := .ref b0) (C := RX9) (T := TX9) (N := 34) hx hb hts hinX9 hown hK hP 0 rfl rfl 0 (by decide) (hts (.fieldLink RX9 7 "TaleReaderModel" "tape" "[I") (uc6 _ (List.mem_of_getElem? (i := 17) rfl))) (fun _ h9 => h9) rfl dX9_feed_74 ?_
            refine lv_aload_n hx hb dX9_feed_77 rfl (lv_at hl 1 rfl) ?_
            refine va_get (D := D) (ci := 9) (v := .int (nI (t0 + i))) (C := RX9) (T := TX9) (N := 34) hx hb hts hinX9 hown hK hP 0 rfl rfl 2 (by decide) (hts (.fieldLink RX9 83 "TaleReaderModel" "taped" "I") (uc8 _ (List.mem_of_getElem? (i := 13) rfl))) (fun _ h9 => h9) rfl dX9_feed_78 ?_
            refine lv_iload hx hb dX9_feed_81 (lv_at hl 0 rfl) ?_
            refine lv_bipush (v := 24) hx hb dX9_feed_83 (by decide) ?_
            refine lv_bipush (v := 8) hx hb dX9_feed_85 (by decide) ?_
            refine lv_iload hx hb dX9_feed_87 (lv_at hl 7 rfl) ?_
            refine lv_iconst (v := 4) hx hb dX9_feed_89 (by decide) ?_
            refine lv_irem hx hb dX9_feed_90 (by decide) ?_
            refine lv_topi (fun z_55 ez_55 => ?_)
            obtain rfl : z_55 = nI (i % 4) := ez_55.trans (pk_rem (d := 4) (by omega) (by decide) (by decide))
            refine lv_imul hx hb dX9_feed_91 ?_
            refine lv_topi (fun z_56 ez_56 => ?_)
            obtain rfl : z_56 = nI (8 * (i % 4)) := ez_56.trans (pk_mul 8 (i % 4))
            refine lv_isub hx hb dX9_feed_92 ?_
            refine lv_topi (fun z_57 ez_57 => ?_)
            obtain rfl : z_57 = nI (24 - 8 * (i % 4)) := ez_57.trans (pk_sub (a := 24) (by omega))
            refine lv_ishr hx hb dX9_feed_93 ?_
            refine lv_topi (fun z_58 ez_58 => ?_)
            obtain rfl : z_58 = x1 >>> (nI (24 - 8 * (i % 4)) &&& 31) := ez_58.trans (rfl)
            refine lv_sipush (v := 255) hx hb dX9_feed_94 (by decide) ?_
            refine lv_iand hx hb dX9_feed_97 ?_
            refine lv_topi (fun z_59 ez_59 => ?_)
            obtain rfl : z_59 = nI (qV x1 (24 - 8 * (i % 4))) := ez_59.trans (qV_shr x1 (by omega))
            refine va_iast (D := D) hx hb hK hP hD hS 1 1 rfl rfl (vp_in_nI (by omega) (by omega)) dX9_feed_98 (fun H_60 L_61 hP hD hS => ?_)
            obtain ⟨g_62, eg_62⟩ : ∃ gg : Nat → Int32, gg = upd g1 ((nI (t0 + i))).toNatClampNeg (nI (qV x1 (24 - 8 * (i % 4)))) := ⟨_, rfl⟩
            have hP : va_P D vwCl [(h0, .inr (9, [.ref b0, .ref b1, .int (nI (t0 + i)), .int (nI tl), .int (nI wn), .int sp, .ref b6, .ref b7, .ref b8, .ref b9, .int (nI dn), .ref b11, .ref b12, .ref b13, .int (nI mn), .int (nI pn), .int db, .int ct, .ref b18, .ref b19, .ref b20, .ref b21, .ref b22, .ref b23, .ref b24, .ref b25, .ref b26, .ref b27, .ref b28, .ref b29, .ref b30, .int (nI qn), .ref b32, .ref b33])), (b0, .inl (cI, 600, .inl g_62))] H_60 := by rw [eg_62]; exact hP
            have hD : va_D A [(h0, .inr (9, [.ref b0, .ref b1, .int (nI (t0 + i)), .int (nI tl), .int (nI wn), .int sp, .ref b6, .ref b7, .ref b8, .ref b9, .int (nI dn), .ref b11, .ref b12, .ref b13, .int (nI mn), .int (nI pn), .int db, .int ct, .ref b18, .ref b19, .ref b20, .ref b21, .ref b22, .ref b23, .ref b24, .ref b25, .ref b26, .ref b27, .ref b28, .ref b29, .ref b30, .int (nI qn), .ref b32, .ref b33])), (b0, .inl (cI, 600, .inl g_62))] := by rw [eg_62]; exact hD
            obtain rfl : g_62 = upd g1 (t0 + i) (nI (qV x1 (24 - 8 * (i % 4)))) := eg_62.trans (by rw [nI_clamp (by omega)])
            refine lv_aload_n hx hb dX9_feed_99 rfl (lv_at hl 1 rfl) ?_
            refine lv_dup hx hb dX9_feed_100 rfl ?_
            refine va_get (D := D) (ci := 9) (v := .int (nI (t0 + i))) (C := RX9) (T := TX9) (N := 34) hx hb hts hinX9 hown hK hP 0 rfl rfl 2 (by decide) (hts (.fieldLink RX9 83 "TaleReaderModel" "taped" "I") (uc8 _ (List.mem_of_getElem? (i := 13) rfl))) (fun _ h9 => h9) rfl dX9_feed_101 ?_
            refine lv_iconst (v := 1) hx hb dX9_feed_104 (by decide) ?_
            refine lv_iadd hx hb dX9_feed_105 ?_
            refine lv_topi (fun z_63 ez_63 => ?_)
            obtain rfl : z_63 = nI (t0 + i + 1) := ez_63.trans (nI_add (t0 + i) 1)
            refine va_put (D := D) (ci := 9) (v := .int (nI (t0 + i + 1))) (ty := .int) (C := RX9) (T := TX9) (N := 34) hx hb hts hinX9 tyX9 tyX9_ok nmX9 hown hK hP hD hS 0 rfl rfl 2 (by decide) (hts (.fieldLink RX9 83 "TaleReaderModel" "taped" "I") (uc8 _ (List.mem_of_getElem? (i := 13) rfl))) (fun _ h9 => h9) rfl (by decide +kernel) rfl rfl (Nat.le_of_ble_eq_true rfl) dX9_feed_106 (fun H_64 L_65 hP hD hS => ?_)
            have hP : va_P D vwCl [(h0, .inr (9, [.ref b0, .ref b1, .int (nI (t0 + i + 1)), .int (nI tl), .int (nI wn), .int sp, .ref b6, .ref b7, .ref b8, .ref b9, .int (nI dn), .ref b11, .ref b12, .ref b13, .int (nI mn), .int (nI pn), .int db, .int ct, .ref b18, .ref b19, .ref b20, .ref b21, .ref b22, .ref b23, .ref b24, .ref b25, .ref b26, .ref b27, .ref b28, .ref b29, .ref b30, .int (nI qn), .ref b32, .ref b33])), (b0, .inl (cI, 600, .inl (upd g1 (t0 + i) (nI (qV x1 (24 - 8 * (i % 4)))))))] H_64 := hP
            have hD : va_D A [(h0, .inr (9, [.ref b0, .ref b1, .int (nI (t0 + i + 1)), .int (nI tl), .int (nI wn), .int sp, .ref b6, .ref b7, .ref b8, .ref b9, .int (nI dn), .ref b11, .ref b12, .ref b13, .int (nI mn), .int (nI pn), .int db, .int ct, .ref b18, .ref b19, .ref b20, .ref b21, .ref b22, .ref b23, .ref b24, .ref b25, .ref b26, .ref b27, .ref b28, .ref b29, .ref b30, .int (nI qn), .ref b32, .ref b33])), (b0, .inl (cI, 600, .inl (upd g1 (t0 + i) (nI (qV x1 (24 - 8 * (i % 4)))))))] := hD
            refine lv_iinc (v := nI (i + 1)) (lv' := [(6, .int (nI (i + 1))), (7, .int x1), (0, .ref h0), (1, .int x1), (2, .int x2), (3, .int x3), (4, .int x4), (5, .int x5)]) hx hb dX9_feed_109 hl (k := 7) rfl (nI_add i 1) (by decide) rfl (fun ls hl => ?_)
            refine lv_goto (tgt := 18) hx hb dX9_feed_112 (by decide) ?_
            exact ih_4 (i + 1) (upd g1 (t0 + i) (nI (qV x1 (24 - 8 * (i % 4))))) (by first | assumption | exact Or.inl rfl | exact Or.inr rfl | omega) (by first | exact qG_feed hg (n := 0) (by omega) rfl | exact qG_feed hg (n := 1) (by omega) rfl | exact qG_feed hg (n := 2) (by omega) rfl | exact qG_feed hg (n := 3) (by omega) rfl | exact qG_feed hg (n := 4) (by omega) rfl) (by omega) H_64 _ ls (hP.sub (ws' := [(h0, .inr (9, [.ref b0, .ref b1, .int (nI (t0 + i + 1)), .int (nI tl), .int (nI wn), .int sp, .ref b6, .ref b7, .ref b8, .ref b9, .int (nI dn), .ref b11, .ref b12, .ref b13, .int (nI mn), .int (nI pn), .int db, .int ct, .ref b18, .ref b19, .ref b20, .ref b21, .ref b22, .ref b23, .ref b24, .ref b25, .ref b26, .ref b27, .ref b28, .ref b29, .ref b30, .int (nI qn), .ref b32, .ref b33])), (b0, .inl (cI, 600, .inl (upd g1 (t0 + i) (nI (qV x1 (24 - 8 * (i % 4)))))))]) [0, 1] rfl) (hD.sub (ws' := [(h0, .inr (9, [.ref b0, .ref b1, .int (nI (t0 + i + 1)), .int (nI tl), .int (nI wn), .int sp, .ref b6, .ref b7, .ref b8, .ref b9, .int (nI dn), .ref b11, .ref b12, .ref b13, .int (nI mn), .int (nI pn), .int db, .int ct, .ref b18, .ref b19, .ref b20, .ref b21, .ref b22, .ref b23, .ref b24, .ref b25, .ref b26, .ref b27, .ref b28, .ref b29, .ref b30, .int (nI qn), .ref b32, .ref b33])), (b0, .inl (cI, 600, .inl (upd g1 (t0 + i) (nI (qV x1 (24 - 8 * (i % 4)))))))]) [0, 1] (by decide) rfl) hS (lv_sub hl [2, 3, 4, 5, 6, 7, 0] rfl)
    exact loop_3 _ 0 a_tape (by first | assumption | exact Or.inl rfl | exact Or.inr rfl | omega) (qG_feed0 hG) (Nat.lt_succ_self _) s.heap _ ls (hP.sub (ws' := [(h0, .inr (9, [.ref b0, .ref b1, .int (nI t0), .int (nI tl), .int (nI wn), .int sp, .ref b6, .ref b7, .ref b8, .ref b9, .int (nI dn), .ref b11, .ref b12, .ref b13, .int (nI mn), .int (nI pn), .int db, .int ct, .ref b18, .ref b19, .ref b20, .ref b21, .ref b22, .ref b23, .ref b24, .ref b25, .ref b26, .ref b27, .ref b28, .ref b29, .ref b30, .int (nI qn), .ref b32, .ref b33])), (b0, .inl (cI, 600, .inl a_tape))]) [0, 1] rfl) (hD.sub (ws' := [(h0, .inr (9, [.ref b0, .ref b1, .int (nI t0), .int (nI tl), .int (nI wn), .int sp, .ref b6, .ref b7, .ref b8, .ref b9, .int (nI dn), .ref b11, .ref b12, .ref b13, .int (nI mn), .int (nI pn), .int db, .int ct, .ref b18, .ref b19, .ref b20, .ref b21, .ref b22, .ref b23, .ref b24, .ref b25, .ref b26, .ref b27, .ref b28, .ref b29, .ref b30, .int (nI qn), .ref b32, .ref b33])), (b0, .inl (cI, 600, .inl a_tape))]) [0, 1] (by decide) rfl) hS (lv_sub hl [1, 2, 3, 4, 5, 6, 0] rfl)
  · have h20 : ¬ t0 + 20 ≤ 600 := fun q => c_2 (nI_le (b := 600) q (by omega))
    refine lv_iconst (v := (-1)) hx hb dX9_feed_13 (by decide) ?_
    have hP9 := hP.sub (ws' := [(h0, .inr (9, [.ref b0, .ref b1, .int (nI t0), .int (nI tl), .int (nI wn), .int sp, .ref b6, .ref b7, .ref b8, .ref b9, .int (nI dn), .ref b11, .ref b12, .ref b13, .int (nI mn), .int (nI pn), .int db, .int ct, .ref b18, .ref b19, .ref b20, .ref b21, .ref b22, .ref b23, .ref b24, .ref b25, .ref b26, .ref b27, .ref b28, .ref b29, .ref b30, .int (nI qn), .ref b32, .ref b33])), (b0, .inl (cI, 600, .inl a_tape))]) [0, 1] rfl
    have hD9 := hD.sub (ws' := [(h0, .inr (9, [.ref b0, .ref b1, .int (nI t0), .int (nI tl), .int (nI wn), .int sp, .ref b6, .ref b7, .ref b8, .ref b9, .int (nI dn), .ref b11, .ref b12, .ref b13, .int (nI mn), .int (nI pn), .int db, .int ct, .ref b18, .ref b19, .ref b20, .ref b21, .ref b22, .ref b23, .ref b24, .ref b25, .ref b26, .ref b27, .ref b28, .ref b29, .ref b30, .int (nI qn), .ref b32, .ref b33])), (b0, .inl (cI, 600, .inl a_tape))]) [0, 1] (by decide) rfl
    rw [← hQ]
    exact W.iret (v := (-1)) hx hb hr (fun t ht hW => ⟨⟨(-1), (t0, a_tape), rfl, Or.inl (⟨rfl, h20, rfl, rfl⟩), ⟨by rw [ht]; exact hP9, va_K.moved hW.alike hK, hD9⟩⟩, hS.F ht⟩) hS.2.2 dX9_feed_14
set_option maxHeartbeats 4000000 in
set_option maxRecDepth 100000 in
theorem f_m_isTold (l : Launch) (D : va_G) (cB cI cZ : ClassId) (E : pEt) (sz : Nat) (h0 : Nat) (i0 : Nat) (n0 : Nat) (b0 : Nat) (b1 : Nat) (t0 : Nat) (tl : Nat) (wn : Nat) (sp : Int32) (b6 : Nat) (b7 : Nat) (b8 : Nat) (b9 : Nat) (dn : Nat) (b11 : Nat) (b12 : Nat) (b13 : Nat) (mn : Nat) (pn : Nat) (db : Int32) (ct : Int32) (b18 : Nat) (b19 : Nat) (b20 : Nat) (b21 : Nat) (b22 : Nat) (b23 : Nat) (b24 : Nat) (b25 : Nat) (b26 : Nat) (b27 : Nat) (b28 : Nat) (b29 : Nat) (b30 : Nat) (qn : Nat) (b32 : Nat) (b33 : Nat) (a_tape : Nat → Int32) (a_toldLong : Nat → Int32) (a_toldLetter : Nat → Int32) (tt : Nat → Nat) (yl : Nat → Nat) (cc : Nat → Nat → Nat) (hdn : dn ≤ 8) (hi0 : i0 < dn) (hn0 : n0 ≤ 10) (hG : qG n0 a_tape tt) (hR : qR dn a_toldLong a_toldLetter yl cc) : Met l yX9_isTold (.code yX9_isTold cX9_isTold 5 (some .boolean) :: wsL_law) ({ frames := 0, cells := 0, slots := 0, locals := 0 } : Room) (va_Pc [.ref h0, .int (nI i0), .int (nI n0)] (pInE E D (pT cB cI cZ) sz [(h0, .inr (9, [.ref b0, .ref b1, .int (nI t0), .int (nI tl), .int (nI wn), .int sp, .ref b6, .ref b7, .ref b8, .ref b9, .int (nI dn), .ref b11, .ref b12, .ref b13, .int (nI mn), .int (nI pn), .int db, .int ct, .ref b18, .ref b19, .ref b20, .ref b21, .ref b22, .ref b23, .ref b24, .ref b25, .ref b26, .ref b27, .ref b28, .ref b29, .ref b30, .int (nI qn), .ref b32, .ref b33])), (b0, .inl (cI, 600, .inl a_tape)), (b11, .inl (cI, 8, .inl a_toldLong)), (b12, .inl (cI, 80, .inl a_toldLetter))])) (va_Qi (fun (r : Int32) (u : Unit) => (r = 1 ∧ qFd tt yl cc 0 n0 i0) ∨ (r = 0 ∧ ¬ qFd tt yl cc 0 n0 i0)) (fun (u : Unit) (t : State) => pAt D (pT cB cI cZ) (va_A [(h0, .inr (9, [.ref b0, .ref b1, .int (nI t0), .int (nI tl), .int (nI wn), .int sp, .ref b6, .ref b7, .ref b8, .ref b9, .int (nI dn), .ref b11, .ref b12, .ref b13, .int (nI mn), .int (nI pn), .int db, .int ct, .ref b18, .ref b19, .ref b20, .ref b21, .ref b22, .ref b23, .ref b24, .ref b25, .ref b26, .ref b27, .ref b28, .ref b29, .ref b30, .int (nI qn), .ref b32, .ref b33])), (b0, .inl (cI, 600, .inl a_tape)), (b11, .inl (cI, 8, .inl a_toldLong)), (b12, .inl (cI, 80, .inl a_toldLetter))] sz) [(h0, .inr (9, [.ref b0, .ref b1, .int (nI t0), .int (nI tl), .int (nI wn), .int sp, .ref b6, .ref b7, .ref b8, .ref b9, .int (nI dn), .ref b11, .ref b12, .ref b13, .int (nI mn), .int (nI pn), .int db, .int ct, .ref b18, .ref b19, .ref b20, .ref b21, .ref b22, .ref b23, .ref b24, .ref b25, .ref b26, .ref b27, .ref b28, .ref b29, .ref b30, .int (nI qn), .ref b32, .ref b33])), (b0, .inl (cI, 600, .inl a_tape)), (b11, .inl (cI, 8, .inl a_toldLong)), (b12, .inl (cI, 80, .inl a_toldLetter))] t) (va_A [(h0, .inr (9, [.ref b0, .ref b1, .int (nI t0), .int (nI tl), .int (nI wn), .int sp, .ref b6, .ref b7, .ref b8, .ref b9, .int (nI dn), .ref b11, .ref b12, .ref b13, .int (nI mn), .int (nI pn), .int db, .int ct, .ref b18, .ref b19, .ref b20, .ref b21, .ref b22, .ref b23, .ref b24, .ref b25, .ref b26, .ref b27, .ref b28, .ref b29, .ref b30, .int (nI qn), .ref b32, .ref b33])), (b0, .inl (cI, 600, .inl a_tape)), (b11, .inl (cI, 8, .inl a_toldLong)), (b12, .inl (cI, 80, .inl a_toldLetter))] sz)) 0 0 (va_A [(h0, .inr (9, [.ref b0, .ref b1, .int (nI t0), .int (nI tl), .int (nI wn), .int sp, .ref b6, .ref b7, .ref b8, .ref b9, .int (nI dn), .ref b11, .ref b12, .ref b13, .int (nI mn), .int (nI pn), .int db, .int ct, .ref b18, .ref b19, .ref b20, .ref b21, .ref b22, .ref b23, .ref b24, .ref b25, .ref b26, .ref b27, .ref b28, .ref b29, .ref b30, .int (nI qn), .ref b32, .ref b33])), (b0, .inl (cI, 600, .inl a_tape)), (b11, .inl (cI, 8, .inl a_toldLong)), (b12, .inl (cI, 80, .inl a_toldLetter))] sz) := by
  refine Met.ofW (cc := cX9_isTold) (maxL := 5) (ret := (some .boolean)) (by decide) rfl ?_
  intro p e s m args below meth cd s₁ B hml hv
  obtain ⟨rfl, hsz, hP, hK, hD0, hE⟩ := hv
  have hx := B.exec
  have hb := B.bytes
  have hr := B.returns
  have hts0 := atoms_spec (ws := .code yX9_isTold cX9_isTold 5 (some .boolean) :: wsL_law) B.pre
  have hts := fun (w : Cond) (h : w ∈ wsL_law) => hts0 w (List.mem_cons_of_mem _ h)
  have hown : s.vm.findClass RX9 = some m.cls := findClass_of_methodNamed B.named
  have hlocks := B.notSynchronized
  have hinX9 := inlX9
  subst hsz
  have hD := hD0.self (sz := s.heap.size)
  generalize hAe : va_A [(h0, .inr (9, [.ref b0, .ref b1, .int (nI t0), .int (nI tl), .int (nI wn), .int sp, .ref b6, .ref b7, .ref b8, .ref b9, .int (nI dn), .ref b11, .ref b12, .ref b13, .int (nI mn), .int (nI pn), .int db, .int ct, .ref b18, .ref b19, .ref b20, .ref b21, .ref b22, .ref b23, .ref b24, .ref b25, .ref b26, .ref b27, .ref b28, .ref b29, .ref b30, .int (nI qn), .ref b32, .ref b33])), (b0, .inl (cI, 600, .inl a_tape)), (b11, .inl (cI, 8, .inl a_toldLong)), (b12, .inl (cI, 80, .inl a_toldLetter))] s.heap.size = A at hD hE ⊢
  have hA : ∀ q : Nat, s.heap.size ≤ q → A q := fun q h => by rw [← hAe]; exact Or.inr h
  have hS : va_S A s.heap s.heap [] := va_S.rf
  have hP : va_P D vwCl [(h0, .inr (9, [.ref b0, .ref b1, .int (nI t0), .int (nI tl), .int (nI wn), .int sp, .ref b6, .ref b7, .ref b8, .ref b9, .int (nI dn), .ref b11, .ref b12, .ref b13, .int (nI mn), .int (nI pn), .int db, .int ct, .ref b18, .ref b19, .ref b20, .ref b21, .ref b22, .ref b23, .ref b24, .ref b25, .ref b26, .ref b27, .ref b28, .ref b29, .ref b30, .int (nI qn), .ref b32, .ref b33])), (b0, .inl (cI, 600, .inl a_tape)), (b11, .inl (cI, 8, .inl a_toldLong)), (b12, .inl (cI, 80, .inl a_toldLetter))] s.heap := hP
  have hl := lv_entry ([.ref h0, .int (nI i0), .int (nI n0)]) (n := 5) (Nat.le_of_ble_eq_true rfl)
  rw [lg_entry_eq]
  generalize (lg_sl ([.ref h0, .int (nI i0), .int (nI n0)]) ++ List.replicate (5 - (lg_sl ([.ref h0, .int (nI i0), .int (nI n0)])).length) Slot.unset).toArray = ls at hl ⊢
  have hl : lv_has ls 5 [(0, .ref h0), (1, .int (nI i0)), (2, .int (nI n0))] := hl
  generalize hQ : MQ below _ _ _ _ _ _ = Q
  obtain ⟨eL, hL2, hL10, hcc⟩ := hR i0 hi0
  refine lv_aload_n hx hb dX9_isTold_0 rfl (lv_at hl 0 rfl) ?_
  refine va_get (D := D) (ci := 9) (v := .ref b11) (C := RX9) (T := TX9) (N := 34) hx hb hts hinX9 hown hK hP 0 rfl rfl 11 (by decide) (hts (.fieldLink RX9 29 "TaleReaderModel" "toldLong" "[I") (uc6 _ (List.mem_of_getElem? (i := 23) rfl))) (fun _ h9 => h9) rfl dX9_isTold_1 ?_
  refine lv_iload_n hx hb dX9_isTold_4 rfl (lv_at hl 1 rfl) ?_
  refine va_iald (D := D) hx hb hK hP 2 1 rfl rfl (vp_in_nI (by omega) (by omega)) dX9_isTold_5 ?_
  refine lv_topi (fun z_1 ez_1 => ?_)
  obtain rfl : z_1 = nI (yl i0) := ez_1.trans ((congrArg a_toldLong (nI_clamp (by omega))).trans eL)
  refine lv_iload_n hx hb dX9_isTold_6 rfl (lv_at hl 2 rfl) ?_
  refine lv_icmp_ne (tgt := 14) hx hb dX9_isTold_7 (by decide) (fun c_2 => ?_) (fun c_2 => ?_)
  · have hne : ¬ yl i0 = n0 := fun q => c_2 (by rw [q])
    refine lv_iconst (v := 0) hx hb dX9_isTold_14 (by decide) ?_
    refine lv_istore_n (lv' := [(3, .int 0), (0, .ref h0), (1, .int (nI i0)), (2, .int (nI n0))]) hx hb dX9_isTold_15 rfl hl (by decide) rfl (fun ls hl => ?_)
    refine lv_iconst (v := 0) hx hb dX9_isTold_16 (by decide) ?_
    refine lv_istore (lv' := [(4, .int 0), (3, .int 0), (0, .ref h0), (1, .int (nI i0)), (2, .int (nI n0))]) hx hb dX9_isTold_17 hl (by decide) rfl (fun ls hl => ?_)
    have loop_3 : ∀ (nn_5 : Nat) (i : Nat) (v3 : Int32), (v3 = 0 ∨ v3 = 1) → ((v3 = 1 ∧ yl i0 = n0 ∧ ∀ j, j < i → tt (0 + j) = cc i0 j) ∨ (v3 = 0 ∧ ¬ qFd tt yl cc 0 n0 i0)) → (i ≤ 600) → (n0 - i < nn_5) → ∀ (H : Heap) (locs : List Loc) (ls : Array Slot), va_P D vwCl [(h0, .inr (9, [.ref b0, .ref b1, .int (nI t0), .int (nI tl), .int (nI wn), .int sp, .ref b6, .ref b7, .ref b8, .ref b9, .int (nI dn), .ref b11, .ref b12, .ref b13, .int (nI mn), .int (nI pn), .int db, .int ct, .ref b18, .ref b19, .ref b20, .ref b21, .ref b22, .ref b23, .ref b24, .ref b25, .ref b26, .ref b27, .ref b28, .ref b29, .ref b30, .int (nI qn), .ref b32, .ref b33])), (b0, .inl (cI, 600, .inl a_tape)), (b11, .inl (cI, 8, .inl a_toldLong)), (b12, .inl (cI, 80, .inl a_toldLetter))] H → va_D A [(h0, .inr (9, [.ref b0, .ref b1, .int (nI t0), .int (nI tl), .int (nI wn), .int sp, .ref b6, .ref b7, .ref b8, .ref b9, .int (nI dn), .ref b11, .ref b12, .ref b13, .int (nI mn), .int (nI pn), .int db, .int ct, .ref b18, .ref b19, .ref b20, .ref b21, .ref b22, .ref b23, .ref b24, .ref b25, .ref b26, .ref b27, .ref b28, .ref b29, .ref b30, .int (nI qn), .ref b32, .ref b33])), (b0, .inl (cI, 600, .inl a_tape)), (b11, .inl (cI, 8, .inl a_toldLong)), (b12, .inl (cI, 80, .inl a_toldLetter))] → va_S A s.heap H locs → lv_has ls 5 [(0, .ref h0), (1, .int (nI i0)), (2, .int (nI n0)), (3, .int v3), (4, .int (nI i))] → W p l e ({ frames := 0, cells := 0, slots := 0, locals := 0 } : Room) s m ([.ref h0, .int (nI i0), .int (nI n0)] : List Value).toArray below meth cd H locs 0 0 Q (F0 m 19 ls []) := by
      intro nn_5
      induction nn_5 with
      | zero => intros; exact absurd ‹_ < 0› (Nat.not_lt_zero _)
      | succ nn_5 ih_4 =>
        intro i v3 hbv hinv hi600 hmu H locs ls hP hD hS hl
        refine lv_iload hx hb dX9_isTold_19 (lv_at hl 4 rfl) ?_
        refine lv_iload_n hx hb dX9_isTold_21 rfl (lv_at hl 2 rfl) ?_
        refine lv_icmp_ge (tgt := 63) hx hb dX9_isTold_22 (by decide) (fun c_6 => ?_) (fun c_6 => ?_)
        · have hge := (nI_leI (by omega) (by omega)).mp c_6
          refine lv_iload_n hx hb dX9_isTold_63 rfl (lv_at hl 3 rfl) ?_
          have hP9 := hP.sub (ws' := [(h0, .inr (9, [.ref b0, .ref b1, .int (nI t0), .int (nI tl), .int (nI wn), .int sp, .ref b6, .ref b7, .ref b8, .ref b9, .int (nI dn), .ref b11, .ref b12, .ref b13, .int (nI mn), .int (nI pn), .int db, .int ct, .ref b18, .ref b19, .ref b20, .ref b21, .ref b22, .ref b23, .ref b24, .ref b25, .ref b26, .ref b27, .ref b28, .ref b29, .ref b30, .int (nI qn), .ref b32, .ref b33])), (b0, .inl (cI, 600, .inl a_tape)), (b11, .inl (cI, 8, .inl a_toldLong)), (b12, .inl (cI, 80, .inl a_toldLetter))]) [0, 1, 2, 3] rfl
          have hD9 := hD.sub (ws' := [(h0, .inr (9, [.ref b0, .ref b1, .int (nI t0), .int (nI tl), .int (nI wn), .int sp, .ref b6, .ref b7, .ref b8, .ref b9, .int (nI dn), .ref b11, .ref b12, .ref b13, .int (nI mn), .int (nI pn), .int db, .int ct, .ref b18, .ref b19, .ref b20, .ref b21, .ref b22, .ref b23, .ref b24, .ref b25, .ref b26, .ref b27, .ref b28, .ref b29, .ref b30, .int (nI qn), .ref b32, .ref b33])), (b0, .inl (cI, 600, .inl a_tape)), (b11, .inl (cI, 8, .inl a_toldLong)), (b12, .inl (cI, 80, .inl a_toldLetter))]) [0, 1, 2, 3] (by decide) rfl
          rw [← hQ]
          exact W.zret (v := v3) hx hb hr (by rcases hbv with rfl | rfl <;> rfl) (fun t ht hW => ⟨⟨v3, (), rfl, (by first | exact hinv.elim (fun q => Or.inl ⟨q.1, q.2.1, fun j hj => q.2.2 j (by omega)⟩) (fun q => Or.inr q) | exact hinv.elim (fun q => absurd (q.1.symm.trans hc0) (by decide)) (fun q => Or.inr q)), ⟨by rw [ht]; exact hP9, va_K.moved hW.alike hK, hD9⟩⟩, hS.F ht⟩) hS.2.2 dX9_isTold_64
        · have hlt_i : i < n0 := Nat.lt_of_not_le (fun q => c_6 (nI_le q (by omega)))
          refine lv_iload_n hx hb dX9_isTold_25 rfl (lv_at hl 3 rfl) ?_
          refine lv_if_eq (tgt := 63) hx hb dX9_isTold_26 (by decide) (fun c_7 => ?_) (fun c_7 => ?_)
          · have hc0 := c_7
            refine lv_iload_n hx hb dX9_isTold_63 rfl (lv_at hl 3 rfl) ?_
            have hP9 := hP.sub (ws' := [(h0, .inr (9, [.ref b0, .ref b1, .int (nI t0), .int (nI tl), .int (nI wn), .int sp, .ref b6, .ref b7, .ref b8, .ref b9, .int (nI dn), .ref b11, .ref b12, .ref b13, .int (nI mn), .int (nI pn), .int db, .int ct, .ref b18, .ref b19, .ref b20, .ref b21, .ref b22, .ref b23, .ref b24, .ref b25, .ref b26, .ref b27, .ref b28, .ref b29, .ref b30, .int (nI qn), .ref b32, .ref b33])), (b0, .inl (cI, 600, .inl a_tape)), (b11, .inl (cI, 8, .inl a_toldLong)), (b12, .inl (cI, 80, .inl a_toldLetter))]) [0, 1, 2, 3] rfl
            have hD9 := hD.sub (ws' := [(h0, .inr (9, [.ref b0, .ref b1, .int (nI t0), .int (nI tl), .int (nI wn), .int sp, .ref b6, .ref b7, .ref b8, .ref b9, .int (nI dn), .ref b11, .ref b12, .ref b13, .int (nI mn), .int (nI pn), .int db, .int ct, .ref b18, .ref b19, .ref b20, .ref b21, .ref b22, .ref b23, .ref b24, .ref b25, .ref b26, .ref b27, .ref b28, .ref b29, .ref b30, .int (nI qn), .ref b32, .ref b33])), (b0, .inl (cI, 600, .inl a_tape)), (b11, .inl (cI, 8, .inl a_toldLong)), (b12, .inl (cI, 80, .inl a_toldLetter))]) [0, 1, 2, 3] (by decide) rfl
            rw [← hQ]
            exact W.zret (v := v3) hx hb hr (by rcases hbv with rfl | rfl <;> rfl) (fun t ht hW => ⟨⟨v3, (), rfl, (by first | exact hinv.elim (fun q => Or.inl ⟨q.1, q.2.1, fun j hj => q.2.2 j (by omega)⟩) (fun q => Or.inr q) | exact hinv.elim (fun q => absurd (q.1.symm.trans hc0) (by decide)) (fun q => Or.inr q)), ⟨by rw [ht]; exact hP9, va_K.moved hW.alike hK, hD9⟩⟩, hS.F ht⟩) hS.2.2 dX9_isTold_64
          · have hst := hinv.resolve_right (fun q => c_7 q.1)
            have hyl := hst.2.1
            have hcl := hcc i (by omega)
            refine lv_aload_n hx hb dX9_isTold_29 rfl (lv_at hl 0 rfl) ?_
            refine va_get (D := D) (ci := 9) (v := .ref b12) (C := RX9) (T := TX9) (N := 34) hx hb hts hinX9 hown hK hP 0 rfl rfl 12 (by decide) (hts (.fieldLink RX9 32 "TaleReaderModel" "toldLetter" "[I") (uc7 _ (List.mem_of_getElem? (i := 0) rfl))) (fun _ h9 => h9) rfl dX9_isTold_30 ?_
            refine lv_bipush (v := 10) hx hb dX9_isTold_33 (by decide) ?_
            refine lv_iload_n hx hb dX9_isTold_35 rfl (lv_at hl 1 rfl) ?_
            refine lv_imul hx hb dX9_isTold_36 ?_
            refine lv_topi (fun z_8 ez_8 => ?_)
            obtain rfl : z_8 = nI (10 * i0) := ez_8.trans (pk_mul 10 i0)
            refine lv_iload hx hb dX9_isTold_37 (lv_at hl 4 rfl) ?_
            refine lv_iadd hx hb dX9_isTold_39 ?_
            refine lv_topi (fun z_9 ez_9 => ?_)
            obtain rfl : z_9 = nI (10 * i0 + i) := ez_9.trans (nI_add (10 * i0) i)
            refine va_iald (D := D) hx hb hK hP 3 1 rfl rfl (vp_in_nI (by omega) (by omega)) dX9_isTold_40 ?_
            refine lv_topi (fun z_10 ez_10 => ?_)
            obtain rfl : z_10 = nI (cc i0 i) := ez_10.trans ((congrArg a_toldLetter (nI_clamp (by omega))).trans hcl.1)
            refine lv_aload_n hx hb dX9_isTold_41 rfl (lv_at hl 0 rfl) ?_
            refine va_get (D := D) (ci := 9) (v := .ref b0) (C := RX9) (T := TX9) (N := 34) hx hb hts hinX9 hown hK hP 0 rfl rfl 0 (by decide) (hts (.fieldLink RX9 7 "TaleReaderModel" "tape" "[I") (uc6 _ (List.mem_of_getElem? (i := 17) rfl))) (fun _ h9 => h9) rfl dX9_isTold_42 ?_
            refine lv_iload hx hb dX9_isTold_45 (lv_at hl 4 rfl) ?_
            refine va_iald (D := D) hx hb hK hP 1 1 rfl rfl (vp_in_nI (by omega) (by omega)) dX9_isTold_47 ?_
            refine lv_topi (fun z_11 ez_11 => ?_)
            obtain rfl : z_11 = nI (tt i) := ez_11.trans ((congrArg a_tape (nI_clamp (by omega))).trans (hG i hlt_i).1)
            refine lv_icmp_ne (tgt := 55) hx hb dX9_isTold_48 (by decide) (fun c_12 => ?_) (fun c_12 => ?_)
            · have hcn : ¬ cc i0 i = tt i := fun q => c_12 (by rw [q])
              refine lv_iconst (v := 0) hx hb dX9_isTold_55 (by decide) ?_
              refine lv_istore_n (lv' := [(3, .int 0), (0, .ref h0), (1, .int (nI i0)), (2, .int (nI n0)), (4, .int (nI i))]) hx hb dX9_isTold_56 rfl hl (by decide) rfl (fun ls hl => ?_)
              refine lv_iinc (v := nI (i + 1)) (lv' := [(4, .int (nI (i + 1))), (3, .int 0), (0, .ref h0), (1, .int (nI i0)), (2, .int (nI n0))]) hx hb dX9_isTold_57 hl (k := 4) rfl (nI_add i 1) (by decide) rfl (fun ls hl => ?_)
              refine lv_goto (tgt := 19) hx hb dX9_isTold_60 (by decide) ?_
              exact ih_4 (i + 1) 0 (by first | assumption | exact Or.inl rfl | exact Or.inr rfl | omega) (by first | exact Or.inl ⟨rfl, hyl, qStep hst.2.2 (by rw [Nat.zero_add]; exact hce.symm)⟩ | exact Or.inr ⟨rfl, fun q => hcn (by have z := q.2 i hlt_i; rw [Nat.zero_add] at z; exact z.symm)⟩) (by first | assumption | exact Or.inl rfl | exact Or.inr rfl | omega) (by omega) H _ ls (hP.sub (ws' := [(h0, .inr (9, [.ref b0, .ref b1, .int (nI t0), .int (nI tl), .int (nI wn), .int sp, .ref b6, .ref b7, .ref b8, .ref b9, .int (nI dn), .ref b11, .ref b12, .ref b13, .int (nI mn), .int (nI pn), .int db, .int ct, .ref b18, .ref b19, .ref b20, .ref b21, .ref b22, .ref b23, .ref b24, .ref b25, .ref b26, .ref b27, .ref b28, .ref b29, .ref b30, .int (nI qn), .ref b32, .ref b33])), (b0, .inl (cI, 600, .inl a_tape)), (b11, .inl (cI, 8, .inl a_toldLong)), (b12, .inl (cI, 80, .inl a_toldLetter))]) [0, 1, 2, 3] rfl) (hD.sub (ws' := [(h0, .inr (9, [.ref b0, .ref b1, .int (nI t0), .int (nI tl), .int (nI wn), .int sp, .ref b6, .ref b7, .ref b8, .ref b9, .int (nI dn), .ref b11, .ref b12, .ref b13, .int (nI mn), .int (nI pn), .int db, .int ct, .ref b18, .ref b19, .ref b20, .ref b21, .ref b22, .ref b23, .ref b24, .ref b25, .ref b26, .ref b27, .ref b28, .ref b29, .ref b30, .int (nI qn), .ref b32, .ref b33])), (b0, .inl (cI, 600, .inl a_tape)), (b11, .inl (cI, 8, .inl a_toldLong)), (b12, .inl (cI, 80, .inl a_toldLetter))]) [0, 1, 2, 3] (by decide) rfl) hS (lv_sub hl [2, 3, 4, 1, 0] rfl)
            · have hce : cc i0 i = tt i := (nI_eq (by have := hcl.2; omega) (by have := (hG i hlt_i).2; omega)).mp c_12
              refine lv_iconst (v := 1) hx hb dX9_isTold_51 (by decide) ?_
              refine lv_goto (tgt := 56) hx hb dX9_isTold_52 (by decide) ?_
              refine lv_istore_n (lv' := [(3, .int 1), (0, .ref h0), (1, .int (nI i0)), (2, .int (nI n0)), (4, .int (nI i))]) hx hb dX9_isTold_56 rfl hl (by decide) rfl (fun ls hl => ?_)
              refine lv_iinc (v := nI (i + 1)) (lv' := [(4, .int (nI (i + 1))), (3, .int 1), (0, .ref h0), (1, .int (nI i0)), (2, .int (nI n0))]) hx hb dX9_isTold_57 hl (k := 4) rfl (nI_add i 1) (by decide) rfl (fun ls hl => ?_)
              refine lv_goto (tgt := 19) hx hb dX9_isTold_60 (by decide) ?_
              exact ih_4 (i + 1) 1 (by first | assumption | exact Or.inl rfl | exact Or.inr rfl | omega) (by first | exact Or.inl ⟨rfl, hyl, qStep hst.2.2 (by rw [Nat.zero_add]; exact hce.symm)⟩ | exact Or.inr ⟨rfl, fun q => hcn (by have z := q.2 i hlt_i; rw [Nat.zero_add] at z; exact z.symm)⟩) (by first | assumption | exact Or.inl rfl | exact Or.inr rfl | omega) (by omega) H _ ls (hP.sub (ws' := [(h0, .inr (9, [.ref b0, .ref b1, .int (nI t0), .int (nI tl), .int (nI wn), .int sp, .ref b6, .ref b7, .ref b8, .ref b9, .int (nI dn), .ref b11, .ref b12, .ref b13, .int (nI mn), .int (nI pn), .int db, .int ct, .ref b18, .ref b19, .ref b20, .ref b21, .ref b22, .ref b23, .ref b24, .ref b25, .ref b26, .ref b27, .ref b28, .ref b29, .ref b30, .int (nI qn), .ref b32, .ref b33])), (b0, .inl (cI, 600, .inl a_tape)), (b11, .inl (cI, 8, .inl a_toldLong)), (b12, .inl (cI, 80, .inl a_toldLetter))]) [0, 1, 2, 3] rfl) (hD.sub (ws' := [(h0, .inr (9, [.ref b0, .ref b1, .int (nI t0), .int (nI tl), .int (nI wn), .int sp, .ref b6, .ref b7, .ref b8, .ref b9, .int (nI dn), .ref b11, .ref b12, .ref b13, .int (nI mn), .int (nI pn), .int db, .int ct, .ref b18, .ref b19, .ref b20, .ref b21, .ref b22, .ref b23, .ref b24, .ref b25, .ref b26, .ref b27, .ref b28, .ref b29, .ref b30, .int (nI qn), .ref b32, .ref b33])), (b0, .inl (cI, 600, .inl a_tape)), (b11, .inl (cI, 8, .inl a_toldLong)), (b12, .inl (cI, 80, .inl a_toldLetter))]) [0, 1, 2, 3] (by decide) rfl) hS (lv_sub hl [2, 3, 4, 1, 0] rfl)
    exact loop_3 _ 0 0 (by first | assumption | exact Or.inl rfl | exact Or.inr rfl | omega) (by first | exact Or.inr ⟨rfl, fun q => hne q.1⟩ | exact Or.inl ⟨rfl, heq, qNil⟩) (by first | assumption | exact Or.inl rfl | exact Or.inr rfl | omega) (Nat.lt_succ_self _) s.heap _ ls (hP.sub (ws' := [(h0, .inr (9, [.ref b0, .ref b1, .int (nI t0), .int (nI tl), .int (nI wn), .int sp, .ref b6, .ref b7, .ref b8, .ref b9, .int (nI dn), .ref b11, .ref b12, .ref b13, .int (nI mn), .int (nI pn), .int db, .int ct, .ref b18, .ref b19, .ref b20, .ref b21, .ref b22, .ref b23, .ref b24, .ref b25, .ref b26, .ref b27, .ref b28, .ref b29, .ref b30, .int (nI qn), .ref b32, .ref b33])), (b0, .inl (cI, 600, .inl a_tape)), (b11, .inl (cI, 8, .inl a_toldLong)), (b12, .inl (cI, 80, .inl a_toldLetter))]) [0, 1, 2, 3] rfl) (hD.sub (ws' := [(h0, .inr (9, [.ref b0, .ref b1, .int (nI t0), .int (nI tl), .int (nI wn), .int sp, .ref b6, .ref b7, .ref b8, .ref b9, .int (nI dn), .ref b11, .ref b12, .ref b13, .int (nI mn), .int (nI pn), .int db, .int ct, .ref b18, .ref b19, .ref b20, .ref b21, .ref b22, .ref b23, .ref b24, .ref b25, .ref b26, .ref b27, .ref b28, .ref b29, .ref b30, .int (nI qn), .ref b32, .ref b33])), (b0, .inl (cI, 600, .inl a_tape)), (b11, .inl (cI, 8, .inl a_toldLong)), (b12, .inl (cI, 80, .inl a_toldLetter))]) [0, 1, 2, 3] (by decide) rfl) hS (lv_sub hl [2, 3, 4, 1, 0] rfl)
  · have heq : yl i0 = n0 := (nI_eq (by omega) (by omega)).mp c_2
    refine lv_iconst (v := 1) hx hb dX9_isTold_10 (by decide) ?_
    refine lv_goto (tgt := 15) hx hb dX9_isTold_11 (by decide) ?_
    refine lv_istore_n (lv' := [(3, .int 1), (0, .ref h0), (1, .int (nI i0)), (2, .int (nI n0))]) hx hb dX9_isTold_15 rfl hl (by decide) rfl (fun ls hl => ?_)
    refine lv_iconst (v := 0) hx hb dX9_isTold_16 (by decide) ?_
    refine lv_istore (lv' := [(4, .int 0), (3, .int 1), (0, .ref h0), (1, .int (nI i0)), (2, .int (nI n0))]) hx hb dX9_isTold_17 hl (by decide) rfl (fun ls hl => ?_)
    have loop_13 : ∀ (nn_15 : Nat) (i : Nat) (v3 : Int32), (v3 = 0 ∨ v3 = 1) → ((v3 = 1 ∧ yl i0 = n0 ∧ ∀ j, j < i → tt (0 + j) = cc i0 j) ∨ (v3 = 0 ∧ ¬ qFd tt yl cc 0 n0 i0)) → (i ≤ 600) → (n0 - i < nn_15) → ∀ (H : Heap) (locs : List Loc) (ls : Array Slot), va_P D vwCl [(h0, .inr (9, [.ref b0, .ref b1, .int (nI t0), .int (nI tl), .int (nI wn), .int sp, .ref b6, .ref b7, .ref b8, .ref b9, .int (nI dn), .ref b11, .ref b12, .ref b13, .int (nI mn), .int (nI pn), .int db, .int ct, .ref b18, .ref b19, .ref b20, .ref b21, .ref b22, .ref b23, .ref b24, .ref b25, .ref b26, .ref b27, .ref b28, .ref b29, .ref b30, .int (nI qn), .ref b32, .ref b33])), (b0, .inl (cI, 600, .inl a_tape)), (b11, .inl (cI, 8, .inl a_toldLong)), (b12, .inl (cI, 80, .inl a_toldLetter))] H → va_D A [(h0, .inr (9, [.ref b0, .ref b1, .int (nI t0), .int (nI tl), .int (nI wn), .int sp, .ref b6, .ref b7, .ref b8, .ref b9, .int (nI dn), .ref b11, .ref b12, .ref b13, .int (nI mn), .int (nI pn), .int db, .int ct, .ref b18, .ref b19, .ref b20, .ref b21, .ref b22, .ref b23, .ref b24, .ref b25, .ref b26, .ref b27, .ref b28, .ref b29, .ref b30, .int (nI qn), .ref b32, .ref b33])), (b0, .inl (cI, 600, .inl a_tape)), (b11, .inl (cI, 8, .inl a_toldLong)), (b12, .inl (cI, 80, .inl a_toldLetter))] → va_S A s.heap H locs → lv_has ls 5 [(0, .ref h0), (1, .int (nI i0)), (2, .int (nI n0)), (3, .int v3), (4, .int (nI i))] → W p l e ({ frames := 0, cells := 0, slots := 0, locals := 0 } : Room) s m ([.ref h0, .int (nI i0), .int (nI n0)] : List Value).toArray below meth cd H locs 0 0 Q (F0 m 19 ls []) := by
      intro nn_15
      induction nn_15 with
      | zero => intros; exact absurd ‹_ < 0› (Nat.not_lt_zero _)
      | succ nn_15 ih_14 =>
        intro i v3 hbv hinv hi600 hmu H locs ls hP hD hS hl
        refine lv_iload hx hb dX9_isTold_19 (lv_at hl 4 rfl) ?_
        refine lv_iload_n hx hb dX9_isTold_21 rfl (lv_at hl 2 rfl) ?_
        refine lv_icmp_ge (tgt := 63) hx hb dX9_isTold_22 (by decide) (fun c_16 => ?_) (fun c_16 => ?_)
        · have hge := (nI_leI (by omega) (by omega)).mp c_16
          refine lv_iload_n hx hb dX9_isTold_63 rfl (lv_at hl 3 rfl) ?_
          have hP9 := hP.sub (ws' := [(h0, .inr (9, [.ref b0, .ref b1, .int (nI t0), .int (nI tl), .int (nI wn), .int sp, .ref b6, .ref b7, .ref b8, .ref b9, .int (nI dn), .ref b11, .ref b12, .ref b13, .int (nI mn), .int (nI pn), .int db, .int ct, .ref b18, .ref b19, .ref b20, .ref b21, .ref b22, .ref b23, .ref b24, .ref b25, .ref b26, .ref b27, .ref b28, .ref b29, .ref b30, .int (nI qn), .ref b32, .ref b33])), (b0, .inl (cI, 600, .inl a_tape)), (b11, .inl (cI, 8, .inl a_toldLong)), (b12, .inl (cI, 80, .inl a_toldLetter))]) [0, 1, 2, 3] rfl
          have hD9 := hD.sub (ws' := [(h0, .inr (9, [.ref b0, .ref b1, .int (nI t0), .int (nI tl), .int (nI wn), .int sp, .ref b6, .ref b7, .ref b8, .ref b9, .int (nI dn), .ref b11, .ref b12, .ref b13, .int (nI mn), .int (nI pn), .int db, .int ct, .ref b18, .ref b19, .ref b20, .ref b21, .ref b22, .ref b23, .ref b24, .ref b25, .ref b26, .ref b27, .ref b28, .ref b29, .ref b30, .int (nI qn), .ref b32, .ref b33])), (b0, .inl (cI, 600, .inl a_tape)), (b11, .inl (cI, 8, .inl a_toldLong)), (b12, .inl (cI, 80, .inl a_toldLetter))]) [0, 1, 2, 3] (by decide) rfl
          rw [← hQ]
          exact W.zret (v := v3) hx hb hr (by rcases hbv with rfl | rfl <;> rfl) (fun t ht hW => ⟨⟨v3, (), rfl, (by first | exact hinv.elim (fun q => Or.inl ⟨q.1, q.2.1, fun j hj => q.2.2 j (by omega)⟩) (fun q => Or.inr q) | exact hinv.elim (fun q => absurd (q.1.symm.trans hc0) (by decide)) (fun q => Or.inr q)), ⟨by rw [ht]; exact hP9, va_K.moved hW.alike hK, hD9⟩⟩, hS.F ht⟩) hS.2.2 dX9_isTold_64
        · have hlt_i : i < n0 := Nat.lt_of_not_le (fun q => c_16 (nI_le q (by omega)))
          refine lv_iload_n hx hb dX9_isTold_25 rfl (lv_at hl 3 rfl) ?_
          refine lv_if_eq (tgt := 63) hx hb dX9_isTold_26 (by decide) (fun c_17 => ?_) (fun c_17 => ?_)
          · have hc0 := c_17
            refine lv_iload_n hx hb dX9_isTold_63 rfl (lv_at hl 3 rfl) ?_
            have hP9 := hP.sub (ws' := [(h0, .inr (9, [.ref b0, .ref b1, .int (nI t0), .int (nI tl), .int (nI wn), .int sp, .ref b6, .ref b7, .ref b8, .ref b9, .int (nI dn), .ref b11, .ref b12, .ref b13, .int (nI mn), .int (nI pn), .int db, .int ct, .ref b18, .ref b19, .ref b20, .ref b21, .ref b22, .ref b23, .ref b24, .ref b25, .ref b26, .ref b27, .ref b28, .ref b29, .ref b30, .int (nI qn), .ref b32, .ref b33])), (b0, .inl (cI, 600, .inl a_tape)), (b11, .inl (cI, 8, .inl a_toldLong)), (b12, .inl (cI, 80, .inl a_toldLetter))]) [0, 1, 2, 3] rfl
            have hD9 := hD.sub (ws' := [(h0, .inr (9, [.ref b0, .ref b1, .int (nI t0), .int (nI tl), .int (nI wn), .int sp, .ref b6, .ref b7, .ref b8, .ref b9, .int (nI dn), .ref b11, .ref b12, .ref b13, .int (nI mn), .int (nI pn), .int db, .int ct, .ref b18, .ref b19, .ref b20, .ref b21, .ref b22, .ref b23, .ref b24, .ref b25, .ref b26, .ref b27, .ref b28, .ref b29, .ref b30, .int (nI qn), .ref b32, .ref b33])), (b0, .inl (cI, 600, .inl a_tape)), (b11, .inl (cI, 8, .inl a_toldLong)), (b12, .inl (cI, 80, .inl a_toldLetter))]) [0, 1, 2, 3] (by decide) rfl
            rw [← hQ]
            exact W.zret (v := v3) hx hb hr (by rcases hbv with rfl | rfl <;> rfl) (fun t ht hW => ⟨⟨v3, (), rfl, (by first | exact hinv.elim (fun q => Or.inl ⟨q.1, q.2.1, fun j hj => q.2.2 j (by omega)⟩) (fun q => Or.inr q) | exact hinv.elim (fun q => absurd (q.1.symm.trans hc0) (by decide)) (fun q => Or.inr q)), ⟨by rw [ht]; exact hP9, va_K.moved hW.alike hK, hD9⟩⟩, hS.F ht⟩) hS.2.2 dX9_isTold_64
          · have hst := hinv.resolve_right (fun q => c_17 q.1)
            have hyl := hst.2.1
            have hcl := hcc i (by omega)
            refine lv_aload_n hx hb dX9_isTold_29 rfl (lv_at hl 0 rfl) ?_
            refine va_get (D := D) (ci := 9) (v := .ref b12) (C := RX9) (T := TX9) (N := 34) hx hb hts hinX9 hown hK hP 0 rfl rfl 12 (by decide) (hts (.fieldLink RX9 32 "TaleReaderModel" "toldLetter" "[I") (uc7 _ (List.mem_of_getElem? (i := 0) rfl))) (fun _ h9 => h9) rfl dX9_isTold_30 ?_
            refine lv_bipush (v := 10) hx hb dX9_isTold_33 (by decide) ?_
            refine lv_iload_n hx hb dX9_isTold_35 rfl (lv_at hl 1 rfl) ?_
            refine lv_imul hx hb dX9_isTold_36 ?_
            refine lv_topi (fun z_18 ez_18 => ?_)
            obtain rfl : z_18 = nI (10 * i0) := ez_18.trans (pk_mul 10 i0)
            refine lv_iload hx hb dX9_isTold_37 (lv_at hl 4 rfl) ?_
            refine lv_iadd hx hb dX9_isTold_39 ?_
            refine lv_topi (fun z_19 ez_19 => ?_)
            obtain rfl : z_19 = nI (10 * i0 + i) := ez_19.trans (nI_add (10 * i0) i)
            refine va_iald (D := D) hx hb hK hP 3 1 rfl rfl (vp_in_nI (by omega) (by omega)) dX9_isTold_40 ?_
            refine lv_topi (fun z_20 ez_20 => ?_)
            obtain rfl : z_20 = nI (cc i0 i) := ez_20.trans ((congrArg a_toldLetter (nI_clamp (by omega))).trans hcl.1)
            refine lv_aload_n hx hb dX9_isTold_41 rfl (lv_at hl 0 rfl) ?_
            refine va_get (D := D) (ci := 9) (v := .ref b0) (C := RX9) (T := TX9) (N := 34) hx hb hts hinX9 hown hK hP 0 rfl rfl 0 (by decide) (hts (.fieldLink RX9 7 "TaleReaderModel" "tape" "[I") (uc6 _ (List.mem_of_getElem? (i := 17) rfl))) (fun _ h9 => h9) rfl dX9_isTold_42 ?_
            refine lv_iload hx hb dX9_isTold_45 (lv_at hl 4 rfl) ?_
            refine va_iald (D := D) hx hb hK hP 1 1 rfl rfl (vp_in_nI (by omega) (by omega)) dX9_isTold_47 ?_
            refine lv_topi (fun z_21 ez_21 => ?_)
            obtain rfl : z_21 = nI (tt i) := ez_21.trans ((congrArg a_tape (nI_clamp (by omega))).trans (hG i hlt_i).1)
            refine lv_icmp_ne (tgt := 55) hx hb dX9_isTold_48 (by decide) (fun c_22 => ?_) (fun c_22 => ?_)
            · have hcn : ¬ cc i0 i = tt i := fun q => c_22 (by rw [q])
              refine lv_iconst (v := 0) hx hb dX9_isTold_55 (by decide) ?_
              refine lv_istore_n (lv' := [(3, .int 0), (0, .ref h0), (1, .int (nI i0)), (2, .int (nI n0)), (4, .int (nI i))]) hx hb dX9_isTold_56 rfl hl (by decide) rfl (fun ls hl => ?_)
              refine lv_iinc (v := nI (i + 1)) (lv' := [(4, .int (nI (i + 1))), (3, .int 0), (0, .ref h0), (1, .int (nI i0)), (2, .int (nI n0))]) hx hb dX9_isTold_57 hl (k := 4) rfl (nI_add i 1) (by decide) rfl (fun ls hl => ?_)
              refine lv_goto (tgt := 19) hx hb dX9_isTold_60 (by decide) ?_
              exact ih_14 (i + 1) 0 (by first | assumption | exact Or.inl rfl | exact Or.inr rfl | omega) (by first | exact Or.inl ⟨rfl, hyl, qStep hst.2.2 (by rw [Nat.zero_add]; exact hce.symm)⟩ | exact Or.inr ⟨rfl, fun q => hcn (by have z := q.2 i hlt_i; rw [Nat.zero_add] at z; exact z.symm)⟩) (by first | assumption | exact Or.inl rfl | exact Or.inr rfl | omega) (by omega) H _ ls (hP.sub (ws' := [(h0, .inr (9, [.ref b0, .ref b1, .int (nI t0), .int (nI tl), .int (nI wn), .int sp, .ref b6, .ref b7, .ref b8, .ref b9, .int (nI dn), .ref b11, .ref b12, .ref b13, .int (nI mn), .int (nI pn), .int db, .int ct, .ref b18, .ref b19, .ref b20, .ref b21, .ref b22, .ref b23, .ref b24, .ref b25, .ref b26, .ref b27, .ref b28, .ref b29, .ref b30, .int (nI qn), .ref b32, .ref b33])), (b0, .inl (cI, 600, .inl a_tape)), (b11, .inl (cI, 8, .inl a_toldLong)), (b12, .inl (cI, 80, .inl a_toldLetter))]) [0, 1, 2, 3] rfl) (hD.sub (ws' := [(h0, .inr (9, [.ref b0, .ref b1, .int (nI t0), .int (nI tl), .int (nI wn), .int sp, .ref b6, .ref b7, .ref b8, .ref b9, .int (nI dn), .ref b11, .ref b12, .ref b13, .int (nI mn), .int (nI pn), .int db, .int ct, .ref b18, .ref b19, .ref b20, .ref b21, .ref b22, .ref b23, .ref b24, .ref b25, .ref b26, .ref b27, .ref b28, .ref b29, .ref b30, .int (nI qn), .ref b32, .ref b33])), (b0, .inl (cI, 600, .inl a_tape)), (b11, .inl (cI, 8, .inl a_toldLong)), (b12, .inl (cI, 80, .inl a_toldLetter))]) [0, 1, 2, 3] (by decide) rfl) hS (lv_sub hl [2, 3, 4, 1, 0] rfl)
            · have hce : cc i0 i = tt i := (nI_eq (by have := hcl.2; omega) (by have := (hG i hlt_i).2; omega)).mp c_22
              refine lv_iconst (v := 1) hx hb dX9_isTold_51 (by decide) ?_
              refine lv_goto (tgt := 56) hx hb dX9_isTold_52 (by decide) ?_
              refine lv_istore_n (lv' := [(3, .int 1), (0, .ref h0), (1, .int (nI i0)), (2, .int (nI n0)), (4, .int (nI i))]) hx hb dX9_isTold_56 rfl hl (by decide) rfl (fun ls hl => ?_)
              refine lv_iinc (v := nI (i + 1)) (lv' := [(4, .int (nI (i + 1))), (3, .int 1), (0, .ref h0), (1, .int (nI i0)), (2, .int (nI n0))]) hx hb dX9_isTold_57 hl (k := 4) rfl (nI_add i 1) (by decide) rfl (fun ls hl => ?_)
              refine lv_goto (tgt := 19) hx hb dX9_isTold_60 (by decide) ?_
              exact ih_14 (i + 1) 1 (by first | assumption | exact Or.inl rfl | exact Or.inr rfl | omega) (by first | exact Or.inl ⟨rfl, hyl, qStep hst.2.2 (by rw [Nat.zero_add]; exact hce.symm)⟩ | exact Or.inr ⟨rfl, fun q => hcn (by have z := q.2 i hlt_i; rw [Nat.zero_add] at z; exact z.symm)⟩) (by first | assumption | exact Or.inl rfl | exact Or.inr rfl | omega) (by omega) H _ ls (hP.sub (ws' := [(h0, .inr (9, [.ref b0, .ref b1, .int (nI t0), .int (nI tl), .int (nI wn), .int sp, .ref b6, .ref b7, .ref b8, .ref b9, .int (nI dn), .ref b11, .ref b12, .ref b13, .int (nI mn), .int (nI pn), .int db, .int ct, .ref b18, .ref b19, .ref b20, .ref b21, .ref b22, .ref b23, .ref b24, .ref b25, .ref b26, .ref b27, .ref b28, .ref b29, .ref b30, .int (nI qn), .ref b32, .ref b33])), (b0, .inl (cI, 600, .inl a_tape)), (b11, .inl (cI, 8, .inl a_toldLong)), (b12, .inl (cI, 80, .inl a_toldLetter))]) [0, 1, 2, 3] rfl) (hD.sub (ws' := [(h0, .inr (9, [.ref b0, .ref b1, .int (nI t0), .int (nI tl), .int (nI wn), .int sp, .ref b6, .ref b7, .ref b8, .ref b9, .int (nI dn), .ref b11, .ref b12, .ref b13, .int (nI mn), .int (nI pn), .int db, .int ct, .ref b18, .ref b19, .ref b20, .ref b21, .ref b22, .ref b23, .ref b24, .ref b25, .ref b26, .ref b27, .ref b28, .ref b29, .ref b30, .int (nI qn), .ref b32, .ref b33])), (b0, .inl (cI, 600, .inl a_tape)), (b11, .inl (cI, 8, .inl a_toldLong)), (b12, .inl (cI, 80, .inl a_toldLetter))]) [0, 1, 2, 3] (by decide) rfl) hS (lv_sub hl [2, 3, 4, 1, 0] rfl)
    exact loop_13 _ 0 1 (by first | assumption | exact Or.inl rfl | exact Or.inr rfl | omega) (by first | exact Or.inr ⟨rfl, fun q => hne q.1⟩ | exact Or.inl ⟨rfl, heq, qNil⟩) (by first | assumption | exact Or.inl rfl | exact Or.inr rfl | omega) (Nat.lt_succ_self _) s.heap _ ls (hP.sub (ws' := [(h0, .inr (9, [.ref b0, .ref b1, .int (nI t0), .int (nI tl), .int (nI wn), .int sp, .ref b6, .ref b7, .ref b8, .ref b9, .int (nI dn), .ref b11, .ref b12, .ref b13, .int (nI mn), .int (nI pn), .int db, .int ct, .ref b18, .ref b19, .ref b20, .ref b21, .ref b22, .ref b23, .ref b24, .ref b25, .ref b26, .ref b27, .ref b28, .ref b29, .ref b30, .int (nI qn), .ref b32, .ref b33])), (b0, .inl (cI, 600, .inl a_tape)), (b11, .inl (cI, 8, .inl a_toldLong)), (b12, .inl (cI, 80, .inl a_toldLetter))]) [0, 1, 2, 3] rfl) (hD.sub (ws' := [(h0, .inr (9, [.ref b0, .ref b1, .int (nI t0), .int (nI tl), .int (nI wn), .int sp, .ref b6, .ref b7, .ref b8, .ref b9, .int (nI dn), .ref b11, .ref b12, .ref b13, .int (nI mn), .int (nI pn), .int db, .int ct, .ref b18, .ref b19, .ref b20, .ref b21, .ref b22, .ref b23, .ref b24, .ref b25, .ref b26, .ref b27, .ref b28, .ref b29, .ref b30, .int (nI qn), .ref b32, .ref b33])), (b0, .inl (cI, 600, .inl a_tape)), (b11, .inl (cI, 8, .inl a_toldLong)), (b12, .inl (cI, 80, .inl a_toldLetter))]) [0, 1, 2, 3] (by decide) rfl) hS (lv_sub hl [2, 3, 4, 1, 0] rfl)
set_option maxHeartbeats 4000000 in
set_option maxRecDepth 100000 in
theorem f_m_sexOf (l : Launch) (D : va_G) (cB cI cZ : ClassId) (E : pEt) (sz : Nat) (v : Int64) (a0 : Nat) (hv : v = lN a0) (ha : a0 < 2 ^ 63) : Met l yX9_sexOf (.code yX9_sexOf cX9_sexOf 2 (some .int) :: wsL_law) ({ frames := 0, cells := 0, slots := 0, locals := 0 } : Room) (va_Pc [.long v] (pInE E D (pT cB cI cZ) sz [])) (va_Qi (fun (r : Int32) (u : Unit) => ((0 < r) ∧ (qHc a0)) ∨ ((0 = r) ∧ (¬ qHc a0))) (fun (u : Unit) (t : State) => pAt D (pT cB cI cZ) (va_A [] sz) [] t) (va_A [] sz)) 0 0 (va_A [] sz) := by
  refine Met.ofW (cc := cX9_sexOf) (maxL := 2) (ret := (some .int)) (by decide) rfl ?_
  intro p e s m args below meth cd s₁ B hml hv
  obtain ⟨rfl, hsz, hP, hK, hD0, hE⟩ := hv
  have hx := B.exec
  have hb := B.bytes
  have hr := B.returns
  have hts0 := atoms_spec (ws := .code yX9_sexOf cX9_sexOf 2 (some .int) :: wsL_law) B.pre
  have hts := fun (w : Cond) (h : w ∈ wsL_law) => hts0 w (List.mem_cons_of_mem _ h)
  have hown : s.vm.findClass RX9 = some m.cls := findClass_of_methodNamed B.named
  have hlocks := B.notSynchronized
  subst hsz
  have hD := hD0.self (sz := s.heap.size)
  generalize hAe : va_A [] s.heap.size = A at hD hE ⊢
  have hA : ∀ q : Nat, s.heap.size ≤ q → A q := fun q h => by rw [← hAe]; exact Or.inr h
  have hS : va_S A s.heap s.heap [] := va_S.rf
  have hP : va_P D vwCl [] s.heap := hP
  have hl := lv_entry ([.long v]) (n := 2) (Nat.le_of_ble_eq_true rfl)
  rw [lg_entry_eq]
  generalize (lg_sl ([.long v]) ++ List.replicate (2 - (lg_sl ([.long v])).length) Slot.unset).toArray = ls at hl ⊢
  have hl : lv_has ls 2 [(0, .long v)] := hl
  refine lv_lload_n hx hb dX9_sexOf_0 rfl (lv_at hl 0 rfl) ?_
  refine lv_ldc2 (v := 26725) hx hb hown (hts (.constantLong RX9 110 (26725)) (uc26 _ (List.mem_of_getElem? (i := 22) rfl))) dX9_sexOf_1 ?_
  refine W.lcmp hx hb dX9_sexOf_4 ?_
  refine lv_if_eq (tgt := 24) hx hb dX9_sexOf_5 (by decide) (fun c_1 => ?_) (fun c_1 => ?_)
  · have e0 : a0 = 26725 := (qLc (b := 26725) hv ha (by decide)).mp c_1
    refine lv_iconst (v := 1) hx hb dX9_sexOf_24 (by decide) ?_
    have hP9 := hP.sub (ws' := []) [] rfl
    have hD9 := hD.sub (ws' := []) [] (by decide) rfl
    exact W.iret (v := 1) hx hb hr (fun t ht hW => ⟨⟨1, (), rfl, Or.inl (⟨by decide, by first | exact ⟨0, by decide, e0⟩ | exact ⟨1, by decide, e1⟩ | exact ⟨2, by decide, e2⟩ | exact ⟨3, by decide, e3⟩ | exact ⟨4, by decide, e4⟩ | exact ⟨5, by decide, e5⟩ | exact ⟨6, by decide, e6⟩ | exact ⟨7, by decide, e7⟩ | exact ⟨8, by decide, e8⟩ | exact ⟨9, by decide, e9⟩ | exact ⟨10, by decide, e10⟩⟩), ⟨by rw [ht]; exact hP9, va_K.moved hW.alike hK, hD9⟩⟩, hS.F ht⟩) hS.2.2 dX9_sexOf_25
  · have n0 : ¬ a0 = 26725 := fun q => c_1 ((qLc (b := 26725) hv ha (by decide)).mpr q)
    refine lv_lload_n hx hb dX9_sexOf_8 rfl (lv_at hl 0 rfl) ?_
    refine lv_ldc2 (v := 6842733) hx hb hown (hts (.constantLong RX9 112 (6842733)) (uc26 _ (List.mem_of_getElem? (i := 23) rfl))) dX9_sexOf_9 ?_
    refine W.lcmp hx hb dX9_sexOf_12 ?_
    refine lv_if_eq (tgt := 24) hx hb dX9_sexOf_13 (by decide) (fun c_2 => ?_) (fun c_2 => ?_)
    · have e1 : a0 = 6842733 := (qLc (b := 6842733) hv ha (by decide)).mp c_2
      refine lv_iconst (v := 1) hx hb dX9_sexOf_24 (by decide) ?_
      have hP9 := hP.sub (ws' := []) [] rfl
      have hD9 := hD.sub (ws' := []) [] (by decide) rfl
      exact W.iret (v := 1) hx hb hr (fun t ht hW => ⟨⟨1, (), rfl, Or.inl (⟨by decide, by first | exact ⟨0, by decide, e0⟩ | exact ⟨1, by decide, e1⟩ | exact ⟨2, by decide, e2⟩ | exact ⟨3, by decide, e3⟩ | exact ⟨4, by decide, e4⟩ | exact ⟨5, by decide, e5⟩ | exact ⟨6, by decide, e6⟩ | exact ⟨7, by decide, e7⟩ | exact ⟨8, by decide, e8⟩ | exact ⟨9, by decide, e9⟩ | exact ⟨10, by decide, e10⟩⟩), ⟨by rw [ht]; exact hP9, va_K.moved hW.alike hK, hD9⟩⟩, hS.F ht⟩) hS.2.2 dX9_sexOf_25
    · have n1 : ¬ a0 = 6842733 := fun q => c_2 ((qLc (b := 6842733) hv ha (by decide)).mpr q)
      refine lv_lload_n hx hb dX9_sexOf_16 rfl (lv_at hl 0 rfl) ?_
      refine lv_ldc2 (v := 6842739) hx hb hown (hts (.constantLong RX9 114 (6842739)) (uc27 _ (List.mem_of_getElem? (i := 0) rfl))) dX9_sexOf_17 ?_
      refine W.lcmp hx hb dX9_sexOf_20 ?_
      refine lv_if_ne (tgt := 26) hx hb dX9_sexOf_21 (by decide) (fun c_3 => ?_) (fun c_3 => ?_)
      · have n2 : ¬ a0 = 6842739 := fun q => c_3 ((qLc (b := 6842739) hv ha (by decide)).mpr q)
        refine lv_lload_n hx hb dX9_sexOf_26 rfl (lv_at hl 0 rfl) ?_
        refine lv_ldc2 (v := 7563365) hx hb hown (hts (.constantLong RX9 116 (7563365)) (uc27 _ (List.mem_of_getElem? (i := 1) rfl))) dX9_sexOf_27 ?_
        refine W.lcmp hx hb dX9_sexOf_30 ?_
        refine lv_if_eq (tgt := 50) hx hb dX9_sexOf_31 (by decide) (fun c_4 => ?_) (fun c_4 => ?_)
        · have e3 : a0 = 7563365 := (qLc (b := 7563365) hv ha (by decide)).mp c_4
          refine lv_iconst (v := 2) hx hb dX9_sexOf_50 (by decide) ?_
          have hP9 := hP.sub (ws' := []) [] rfl
          have hD9 := hD.sub (ws' := []) [] (by decide) rfl
          exact W.iret (v := 2) hx hb hr (fun t ht hW => ⟨⟨2, (), rfl, Or.inl (⟨by decide, by first | exact ⟨0, by decide, e0⟩ | exact ⟨1, by decide, e1⟩ | exact ⟨2, by decide, e2⟩ | exact ⟨3, by decide, e3⟩ | exact ⟨4, by decide, e4⟩ | exact ⟨5, by decide, e5⟩ | exact ⟨6, by decide, e6⟩ | exact ⟨7, by decide, e7⟩ | exact ⟨8, by decide, e8⟩ | exact ⟨9, by decide, e9⟩ | exact ⟨10, by decide, e10⟩⟩), ⟨by rw [ht]; exact hP9, va_K.moved hW.alike hK, hD9⟩⟩, hS.F ht⟩) hS.2.2 dX9_sexOf_51
        · have n3 : ¬ a0 = 7563365 := fun q => c_4 ((qLc (b := 7563365) hv ha (by decide)).mpr q)
          refine lv_lload_n hx hb dX9_sexOf_34 rfl (lv_at hl 0 rfl) ?_
          refine lv_ldc2 (v := 6841714) hx hb hown (hts (.constantLong RX9 118 (6841714)) (uc27 _ (List.mem_of_getElem? (i := 2) rfl))) dX9_sexOf_35 ?_
          refine W.lcmp hx hb dX9_sexOf_38 ?_
          refine lv_if_eq (tgt := 50) hx hb dX9_sexOf_39 (by decide) (fun c_5 => ?_) (fun c_5 => ?_)
          · have e4 : a0 = 6841714 := (qLc (b := 6841714) hv ha (by decide)).mp c_5
            refine lv_iconst (v := 2) hx hb dX9_sexOf_50 (by decide) ?_
            have hP9 := hP.sub (ws' := []) [] rfl
            have hD9 := hD.sub (ws' := []) [] (by decide) rfl
            exact W.iret (v := 2) hx hb hr (fun t ht hW => ⟨⟨2, (), rfl, Or.inl (⟨by decide, by first | exact ⟨0, by decide, e0⟩ | exact ⟨1, by decide, e1⟩ | exact ⟨2, by decide, e2⟩ | exact ⟨3, by decide, e3⟩ | exact ⟨4, by decide, e4⟩ | exact ⟨5, by decide, e5⟩ | exact ⟨6, by decide, e6⟩ | exact ⟨7, by decide, e7⟩ | exact ⟨8, by decide, e8⟩ | exact ⟨9, by decide, e9⟩ | exact ⟨10, by decide, e10⟩⟩), ⟨by rw [ht]; exact hP9, va_K.moved hW.alike hK, hD9⟩⟩, hS.F ht⟩) hS.2.2 dX9_sexOf_51
          · have n4 : ¬ a0 = 6841714 := fun q => c_5 ((qLc (b := 6841714) hv ha (by decide)).mpr q)
            refine lv_lload_n hx hb dX9_sexOf_42 rfl (lv_at hl 0 rfl) ?_
            refine lv_ldc2 (v := 1751478899) hx hb hown (hts (.constantLong RX9 120 (1751478899)) (uc27 _ (List.mem_of_getElem? (i := 3) rfl))) dX9_sexOf_43 ?_
            refine W.lcmp hx hb dX9_sexOf_46 ?_
            refine lv_if_ne (tgt := 52) hx hb dX9_sexOf_47 (by decide) (fun c_6 => ?_) (fun c_6 => ?_)
            · have n5 : ¬ a0 = 1751478899 := fun q => c_6 ((qLc (b := 1751478899) hv ha (by decide)).mpr q)
              refine lv_lload_n hx hb dX9_sexOf_52 rfl (lv_at hl 0 rfl) ?_
              refine lv_ldc2 (v := 26996) hx hb hown (hts (.constantLong RX9 122 (26996)) (uc27 _ (List.mem_of_getElem? (i := 4) rfl))) dX9_sexOf_53 ?_
              refine W.lcmp hx hb dX9_sexOf_56 ?_
              refine lv_if_eq (tgt := 68) hx hb dX9_sexOf_57 (by decide) (fun c_7 => ?_) (fun c_7 => ?_)
              · have e6 : a0 = 26996 := (qLc (b := 26996) hv ha (by decide)).mp c_7
                refine lv_iconst (v := 3) hx hb dX9_sexOf_68 (by decide) ?_
                have hP9 := hP.sub (ws' := []) [] rfl
                have hD9 := hD.sub (ws' := []) [] (by decide) rfl
                exact W.iret (v := 3) hx hb hr (fun t ht hW => ⟨⟨3, (), rfl, Or.inl (⟨by decide, by first | exact ⟨0, by decide, e0⟩ | exact ⟨1, by decide, e1⟩ | exact ⟨2, by decide, e2⟩ | exact ⟨3, by decide, e3⟩ | exact ⟨4, by decide, e4⟩ | exact ⟨5, by decide, e5⟩ | exact ⟨6, by decide, e6⟩ | exact ⟨7, by decide, e7⟩ | exact ⟨8, by decide, e8⟩ | exact ⟨9, by decide, e9⟩ | exact ⟨10, by decide, e10⟩⟩), ⟨by rw [ht]; exact hP9, va_K.moved hW.alike hK, hD9⟩⟩, hS.F ht⟩) hS.2.2 dX9_sexOf_69
              · have n6 : ¬ a0 = 26996 := fun q => c_7 ((qLc (b := 26996) hv ha (by decide)).mpr q)
                refine lv_lload_n hx hb dX9_sexOf_60 rfl (lv_at hl 0 rfl) ?_
                refine lv_ldc2 (v := 6911091) hx hb hown (hts (.constantLong RX9 124 (6911091)) (uc27 _ (List.mem_of_getElem? (i := 5) rfl))) dX9_sexOf_61 ?_
                refine W.lcmp hx hb dX9_sexOf_64 ?_
                refine lv_if_ne (tgt := 70) hx hb dX9_sexOf_65 (by decide) (fun c_8 => ?_) (fun c_8 => ?_)
                · have n7 : ¬ a0 = 6911091 := fun q => c_8 ((qLc (b := 6911091) hv ha (by decide)).mpr q)
                  refine lv_lload_n hx hb dX9_sexOf_70 rfl (lv_at hl 0 rfl) ?_
                  refine lv_ldc2 (v := 1952998777) hx hb hown (hts (.constantLong RX9 126 (1952998777)) (uc27 _ (List.mem_of_getElem? (i := 6) rfl))) dX9_sexOf_71 ?_
                  refine W.lcmp hx hb dX9_sexOf_74 ?_
                  refine lv_if_eq (tgt := 94) hx hb dX9_sexOf_75 (by decide) (fun c_9 => ?_) (fun c_9 => ?_)
                  · have e8 : a0 = 1952998777 := (qLc (b := 1952998777) hv ha (by decide)).mp c_9
                    refine lv_iconst (v := 4) hx hb dX9_sexOf_94 (by decide) ?_
                    refine lv_goto (tgt := 99) hx hb dX9_sexOf_95 (by decide) ?_
                    have hP9 := hP.sub (ws' := []) [] rfl
                    have hD9 := hD.sub (ws' := []) [] (by decide) rfl
                    exact W.iret (v := 4) hx hb hr (fun t ht hW => ⟨⟨4, (), rfl, Or.inl (⟨by decide, by first | exact ⟨0, by decide, e0⟩ | exact ⟨1, by decide, e1⟩ | exact ⟨2, by decide, e2⟩ | exact ⟨3, by decide, e3⟩ | exact ⟨4, by decide, e4⟩ | exact ⟨5, by decide, e5⟩ | exact ⟨6, by decide, e6⟩ | exact ⟨7, by decide, e7⟩ | exact ⟨8, by decide, e8⟩ | exact ⟨9, by decide, e9⟩ | exact ⟨10, by decide, e10⟩⟩), ⟨by rw [ht]; exact hP9, va_K.moved hW.alike hK, hD9⟩⟩, hS.F ht⟩) hS.2.2 dX9_sexOf_99
                  · have n8 : ¬ a0 = 1952998777 := fun q => c_9 ((qLc (b := 1952998777) hv ha (by decide)).mpr q)
                    refine lv_lload_n hx hb dX9_sexOf_78 rfl (lv_at hl 0 rfl) ?_
                    refine lv_ldc2 (v := 1952998765) hx hb hown (hts (.constantLong RX9 128 (1952998765)) (uc27 _ (List.mem_of_getElem? (i := 7) rfl))) dX9_sexOf_79 ?_
                    refine W.lcmp hx hb dX9_sexOf_82 ?_
                    refine lv_if_eq (tgt := 94) hx hb dX9_sexOf_83 (by decide) (fun c_10 => ?_) (fun c_10 => ?_)
                    · have e9 : a0 = 1952998765 := (qLc (b := 1952998765) hv ha (by decide)).mp c_10
                      refine lv_iconst (v := 4) hx hb dX9_sexOf_94 (by decide) ?_
                      refine lv_goto (tgt := 99) hx hb dX9_sexOf_95 (by decide) ?_
                      have hP9 := hP.sub (ws' := []) [] rfl
                      have hD9 := hD.sub (ws' := []) [] (by decide) rfl
                      exact W.iret (v := 4) hx hb hr (fun t ht hW => ⟨⟨4, (), rfl, Or.inl (⟨by decide, by first | exact ⟨0, by decide, e0⟩ | exact ⟨1, by decide, e1⟩ | exact ⟨2, by decide, e2⟩ | exact ⟨3, by decide, e3⟩ | exact ⟨4, by decide, e4⟩ | exact ⟨5, by decide, e5⟩ | exact ⟨6, by decide, e6⟩ | exact ⟨7, by decide, e7⟩ | exact ⟨8, by decide, e8⟩ | exact ⟨9, by decide, e9⟩ | exact ⟨10, by decide, e10⟩⟩), ⟨by rw [ht]; exact hP9, va_K.moved hW.alike hK, hD9⟩⟩, hS.F ht⟩) hS.2.2 dX9_sexOf_99
                    · have n9 : ¬ a0 = 1952998765 := fun q => c_10 ((qLc (b := 1952998765) hv ha (by decide)).mpr q)
                      refine lv_lload_n hx hb dX9_sexOf_86 rfl (lv_at hl 0 rfl) ?_
                      refine lv_ldc2 (v := 499967682930) hx hb hown (hts (.constantLong RX9 130 (499967682930)) (uc27 _ (List.mem_of_getElem? (i := 8) rfl))) dX9_sexOf_87 ?_
                      refine W.lcmp hx hb dX9_sexOf_90 ?_
                      refine lv_if_ne (tgt := 98) hx hb dX9_sexOf_91 (by decide) (fun c_11 => ?_) (fun c_11 => ?_)
                      · have n10 : ¬ a0 = 499967682930 := fun q => c_11 ((qLc (b := 499967682930) hv ha (by decide)).mpr q)
                        refine lv_iconst (v := 0) hx hb dX9_sexOf_98 (by decide) ?_
                        have hP9 := hP.sub (ws' := []) [] rfl
                        have hD9 := hD.sub (ws' := []) [] (by decide) rfl
                        exact W.iret (v := 0) hx hb hr (fun t ht hW => ⟨⟨0, (), rfl, Or.inr ((⟨rfl, qHc_n n0 n1 n2 n3 n4 n5 n6 n7 n8 n9 n10⟩)), ⟨by rw [ht]; exact hP9, va_K.moved hW.alike hK, hD9⟩⟩, hS.F ht⟩) hS.2.2 dX9_sexOf_99
                      · have e10 : a0 = 499967682930 := (qLc (b := 499967682930) hv ha (by decide)).mp c_11
                        refine lv_iconst (v := 4) hx hb dX9_sexOf_94 (by decide) ?_
                        refine lv_goto (tgt := 99) hx hb dX9_sexOf_95 (by decide) ?_
                        have hP9 := hP.sub (ws' := []) [] rfl
                        have hD9 := hD.sub (ws' := []) [] (by decide) rfl
                        exact W.iret (v := 4) hx hb hr (fun t ht hW => ⟨⟨4, (), rfl, Or.inl (⟨by decide, by first | exact ⟨0, by decide, e0⟩ | exact ⟨1, by decide, e1⟩ | exact ⟨2, by decide, e2⟩ | exact ⟨3, by decide, e3⟩ | exact ⟨4, by decide, e4⟩ | exact ⟨5, by decide, e5⟩ | exact ⟨6, by decide, e6⟩ | exact ⟨7, by decide, e7⟩ | exact ⟨8, by decide, e8⟩ | exact ⟨9, by decide, e9⟩ | exact ⟨10, by decide, e10⟩⟩), ⟨by rw [ht]; exact hP9, va_K.moved hW.alike hK, hD9⟩⟩, hS.F ht⟩) hS.2.2 dX9_sexOf_99
                · have e7 : a0 = 6911091 := (qLc (b := 6911091) hv ha (by decide)).mp c_8
                  refine lv_iconst (v := 3) hx hb dX9_sexOf_68 (by decide) ?_
                  have hP9 := hP.sub (ws' := []) [] rfl
                  have hD9 := hD.sub (ws' := []) [] (by decide) rfl
                  exact W.iret (v := 3) hx hb hr (fun t ht hW => ⟨⟨3, (), rfl, Or.inl (⟨by decide, by first | exact ⟨0, by decide, e0⟩ | exact ⟨1, by decide, e1⟩ | exact ⟨2, by decide, e2⟩ | exact ⟨3, by decide, e3⟩ | exact ⟨4, by decide, e4⟩ | exact ⟨5, by decide, e5⟩ | exact ⟨6, by decide, e6⟩ | exact ⟨7, by decide, e7⟩ | exact ⟨8, by decide, e8⟩ | exact ⟨9, by decide, e9⟩ | exact ⟨10, by decide, e10⟩⟩), ⟨by rw [ht]; exact hP9, va_K.moved hW.alike hK, hD9⟩⟩, hS.F ht⟩) hS.2.2 dX9_sexOf_69
            · have e5 : a0 = 1751478899 := (qLc (b := 1751478899) hv ha (by decide)).mp c_6
              refine lv_iconst (v := 2) hx hb dX9_sexOf_50 (by decide) ?_
              have hP9 := hP.sub (ws' := []) [] rfl
              have hD9 := hD.sub (ws' := []) [] (by decide) rfl
              exact W.iret (v := 2) hx hb hr (fun t ht hW => ⟨⟨2, (), rfl, Or.inl (⟨by decide, by first | exact ⟨0, by decide, e0⟩ | exact ⟨1, by decide, e1⟩ | exact ⟨2, by decide, e2⟩ | exact ⟨3, by decide, e3⟩ | exact ⟨4, by decide, e4⟩ | exact ⟨5, by decide, e5⟩ | exact ⟨6, by decide, e6⟩ | exact ⟨7, by decide, e7⟩ | exact ⟨8, by decide, e8⟩ | exact ⟨9, by decide, e9⟩ | exact ⟨10, by decide, e10⟩⟩), ⟨by rw [ht]; exact hP9, va_K.moved hW.alike hK, hD9⟩⟩, hS.F ht⟩) hS.2.2 dX9_sexOf_51
      · have e2 : a0 = 6842739 := (qLc (b := 6842739) hv ha (by decide)).mp c_3
        refine lv_iconst (v := 1) hx hb dX9_sexOf_24 (by decide) ?_
        have hP9 := hP.sub (ws' := []) [] rfl
        have hD9 := hD.sub (ws' := []) [] (by decide) rfl
        exact W.iret (v := 1) hx hb hr (fun t ht hW => ⟨⟨1, (), rfl, Or.inl (⟨by decide, by first | exact ⟨0, by decide, e0⟩ | exact ⟨1, by decide, e1⟩ | exact ⟨2, by decide, e2⟩ | exact ⟨3, by decide, e3⟩ | exact ⟨4, by decide, e4⟩ | exact ⟨5, by decide, e5⟩ | exact ⟨6, by decide, e6⟩ | exact ⟨7, by decide, e7⟩ | exact ⟨8, by decide, e8⟩ | exact ⟨9, by decide, e9⟩ | exact ⟨10, by decide, e10⟩⟩), ⟨by rw [ht]; exact hP9, va_K.moved hW.alike hK, hD9⟩⟩, hS.F ht⟩) hS.2.2 dX9_sexOf_25
