set_option maxHeartbeats 4000000 in
set_option maxRecDepth 100000 in
theorem m_feed (l : Launch) (D : va_G) (cB cI cZ : ClassId) (E : pEt) (sz : Nat) (h0 : Nat) (x1 : Int32) (x2 : Int32) (x3 : Int32) (x4 : Int32) (x5 : Int32) (b0 : Nat) (b1 : Nat) (t0 : Nat) (tl : Nat) (wn : Nat) (sp : Int32) (b6 : Nat) (b7 : Nat) (b8 : Nat) (b9 : Nat) (dn : Nat) (b11 : Nat) (b12 : Nat) (b13 : Nat) (mn : Nat) (pn : Nat) (db : Int32) (ct : Int32) (b18 : Nat) (b19 : Nat) (b20 : Nat) (b21 : Nat) (b22 : Nat) (b23 : Nat) (b24 : Nat) (b25 : Nat) (b26 : Nat) (b27 : Nat) (b28 : Nat) (b29 : Nat) (b30 : Nat) (qn : Nat) (b32 : Nat) (b33 : Nat) (a_tape : Nat → Int32) (ht0 : t0 ≤ 600) : Met l yX9_feed (.code yX9_feed cX9_feed 8 (some .int) :: wsL_law) ({ frames := 0, cells := 0, slots := 0, locals := 0 } : Room) (va_Pc [.ref h0, .int x1, .int x2, .int x3, .int x4, .int x5] (pInE E D (pT cB cI cZ) sz [(h0, .inr (9, [.ref b0, .ref b1, .int (nI t0), .int (nI tl), .int (nI wn), .int sp, .ref b6, .ref b7, .ref b8, .ref b9, .int (nI dn), .ref b11, .ref b12, .ref b13, .int (nI mn), .int (nI pn), .int db, .int ct, .ref b18, .ref b19, .ref b20, .ref b21, .ref b22, .ref b23, .ref b24, .ref b25, .ref b26, .ref b27, .ref b28, .ref b29, .ref b30, .int (nI qn), .ref b32, .ref b33])), (b0, .inl (cI, 600, .inl a_tape))])) (va_Qi (fun (r : Int32) (u : Nat × (Nat → Int32)) => (((-1) = r) ∧ (¬ t0 + 20 ≤ 600) ∧ (t0 = u.1) ∧ (a_tape = u.2)) ∨ (((nI (t0 + 20)) = r) ∧ (t0 + 20 ≤ 600) ∧ (t0 + 20 = u.1))) (fun (u : Nat × (Nat → Int32)) (t : State) => pAt D (pT cB cI cZ) (va_A [(h0, .inr (9, [.ref b0, .ref b1, .int (nI t0), .int (nI tl), .int (nI wn), .int sp, .ref b6, .ref b7, .ref b8, .ref b9, .int (nI dn), .ref b11, .ref b12, .ref b13, .int (nI mn), .int (nI pn), .int db, .int ct, .ref b18, .ref b19, .ref b20, .ref b21, .ref b22, .ref b23, .ref b24, .ref b25, .ref b26, .ref b27, .ref b28, .ref b29, .ref b30, .int (nI qn), .ref b32, .ref b33])), (b0, .inl (cI, 600, .inl a_tape))] sz) [(h0, .inr (9, [.ref b0, .ref b1, .int (nI u.1), .int (nI tl), .int (nI wn), .int sp, .ref b6, .ref b7, .ref b8, .ref b9, .int (nI dn), .ref b11, .ref b12, .ref b13, .int (nI mn), .int (nI pn), .int db, .int ct, .ref b18, .ref b19, .ref b20, .ref b21, .ref b22, .ref b23, .ref b24, .ref b25, .ref b26, .ref b27, .ref b28, .ref b29, .ref b30, .int (nI qn), .ref b32, .ref b33])), (b0, .inl (cI, 600, .inl u.2))] t) (va_A [(h0, .inr (9, [.ref b0, .ref b1, .int (nI t0), .int (nI tl), .int (nI wn), .int sp, .ref b6, .ref b7, .ref b8, .ref b9, .int (nI dn), .ref b11, .ref b12, .ref b13, .int (nI mn), .int (nI pn), .int db, .int ct, .ref b18, .ref b19, .ref b20, .ref b21, .ref b22, .ref b23, .ref b24, .ref b25, .ref b26, .ref b27, .ref b28, .ref b29, .ref b30, .int (nI qn), .ref b32, .ref b33])), (b0, .inl (cI, 600, .inl a_tape))] sz)) 0 0 (va_A [(h0, .inr (9, [.ref b0, .ref b1, .int (nI t0), .int (nI tl), .int (nI wn), .int sp, .ref b6, .ref b7, .ref b8, .ref b9, .int (nI dn), .ref b11, .ref b12, .ref b13, .int (nI mn), .int (nI pn), .int db, .int ct, .ref b18, .ref b19, .ref b20, .ref b21, .ref b22, .ref b23, .ref b24, .ref b25, .ref b26, .ref b27, .ref b28, .ref b29, .ref b30, .int (nI qn), .ref b32, .ref b33])), (b0, .inl (cI, 600, .inl a_tape))] sz) := by
  refine Met.ofW (cc := cX9_feed) (maxL := 8) (ret := (some .int)) (by decide) rfl ?_
  intro p e s m args below meth cd s₁ B hml hv
  obtain ⟨rfl, hsz, hP, hK, hD0, hE⟩ := hv
  have hx := B.exec
  have hb := B.bytes
  have hr := B.returns
  have hts0 := atoms_spec (ws := .code yX9_feed cX9_feed 8 (some .int) :: wsL_law) B.pre
  have hts := fun (w : Cond) (h : w ∈ wsL_law) => hts0 w (List.mem_cons_of_mem _ h)
  have hown : s.vm.findClass RX9 = some m.cls := findClass_of_methodNamed B.named
  have hlocks := B.notSynchronized
  have hinX9 := inlX9
  subst hsz
  have hD := hD0.self (sz := s.heap.size)
  generalize hAe : va_A [(h0, .inr (9, [.ref b0, .ref b1, .int (nI t0), .int (nI tl), .int (nI wn), .int sp, .ref b6, .ref b7, .ref b8, .ref b9, .int (nI dn), .ref b11, .ref b12, .ref b13, .int (nI mn), .int (nI pn), .int db, .int ct, .ref b18, .ref b19, .ref b20, .ref b21, .ref b22, .ref b23, .ref b24, .ref b25, .ref b26, .ref b27, .ref b28, .ref b29, .ref b30, .int (nI qn), .ref b32, .ref b33])), (b0, .inl (cI, 600, .inl a_tape))] s.heap.size = A at hD hE ⊢
  have hA : ∀ q : Nat, s.heap.size ≤ q → A q := fun q h => by rw [← hAe]; exact Or.inr h
  have hS : va_S A s.heap s.heap [] := va_S.rf
  have hP : va_P D vwCl [(h0, .inr (9, [.ref b0, .ref b1, .int (nI t0), .int (nI tl), .int (nI wn), .int sp, .ref b6, .ref b7, .ref b8, .ref b9, .int (nI dn), .ref b11, .ref b12, .ref b13, .int (nI mn), .int (nI pn), .int db, .int ct, .ref b18, .ref b19, .ref b20, .ref b21, .ref b22, .ref b23, .ref b24, .ref b25, .ref b26, .ref b27, .ref b28, .ref b29, .ref b30, .int (nI qn), .ref b32, .ref b33])), (b0, .inl (cI, 600, .inl a_tape))] s.heap := hP
  have hl := lv_entry ([.ref h0, .int x1, .int x2, .int x3, .int x4, .int x5]) (n := 8) (Nat.le_of_ble_eq_true rfl)
  rw [lg_entry_eq]
  generalize (lg_sl ([.ref h0, .int x1, .int x2, .int x3, .int x4, .int x5]) ++ List.replicate (8 - (lg_sl ([.ref h0, .int x1, .int x2, .int x3, .int x4, .int x5])).length) Slot.unset).toArray = ls at hl ⊢
  have hl : lv_has ls 8 [(0, .ref h0), (1, .int x1), (2, .int x2), (3, .int x3), (4, .int x4), (5, .int x5)] := hl
  generalize hQ : MQ below _ _ _ _ _ _ = Q
  refine lv_aload_n hx hb dX9_feed_0 rfl (lv_at hl 0 rfl) ?_
  refine va_get (D := D) (ci := 9) (v := .int (nI t0)) (C := RX9) (T := TX9) (N := 34) hx hb hts hinX9 hown hK hP 0 rfl rfl 2 (by decide) (hts (.fieldLink RX9 83 "TaleReaderModel" "taped" "I") (uc8 _ (List.mem_of_getElem? (i := 13) rfl))) (fun _ h9 => h9) rfl dX9_feed_1 ?_
  refine lv_bipush (v := 20) hx hb dX9_feed_4 (by decide) ?_
  refine lv_iadd hx hb dX9_feed_6 ?_
  refine lv_topi (fun z_1 ez_1 => ?_)
  obtain rfl : z_1 = nI (t0 + 20) := ez_1.trans (nI_add t0 20)
  refine lv_sipush (v := 600) hx hb dX9_feed_7 (by decide) ?_
  refine lv_icmp_le (tgt := 15) hx hb dX9_feed_10 (by decide) (fun c_2 => ?_) (fun c_2 => ?_)
  · have h20 := (nI_leI (b := 600) (by omega) (by omega)).mp c_2
    refine lv_iconst (v := 0) hx hb dX9_feed_15 (by decide) ?_
    refine lv_istore (lv' := [(6, .int 0), (0, .ref h0), (1, .int x1), (2, .int x2), (3, .int x3), (4, .int x4), (5, .int x5)]) hx hb dX9_feed_16 hl (by decide) rfl (fun ls hl => ?_)
    have loop_3 : ∀ (nn_5 : Nat) (i : Nat) (g1 : Nat → Int32), (i ≤ 20) → (20 - i < nn_5) → ∀ (H : Heap) (locs : List Loc) (ls : Array Slot), va_P D vwCl [(h0, .inr (9, [.ref b0, .ref b1, .int (nI (t0 + i)), .int (nI tl), .int (nI wn), .int sp, .ref b6, .ref b7, .ref b8, .ref b9, .int (nI dn), .ref b11, .ref b12, .ref b13, .int (nI mn), .int (nI pn), .int db, .int ct, .ref b18, .ref b19, .ref b20, .ref b21, .ref b22, .ref b23, .ref b24, .ref b25, .ref b26, .ref b27, .ref b28, .ref b29, .ref b30, .int (nI qn), .ref b32, .ref b33])), (b0, .inl (cI, 600, .inl g1))] H → va_D A [(h0, .inr (9, [.ref b0, .ref b1, .int (nI (t0 + i)), .int (nI tl), .int (nI wn), .int sp, .ref b6, .ref b7, .ref b8, .ref b9, .int (nI dn), .ref b11, .ref b12, .ref b13, .int (nI mn), .int (nI pn), .int db, .int ct, .ref b18, .ref b19, .ref b20, .ref b21, .ref b22, .ref b23, .ref b24, .ref b25, .ref b26, .ref b27, .ref b28, .ref b29, .ref b30, .int (nI qn), .ref b32, .ref b33])), (b0, .inl (cI, 600, .inl g1))] → va_S A s.heap H locs → lv_has ls 8 [(0, .ref h0), (1, .int x1), (2, .int x2), (3, .int x3), (4, .int x4), (5, .int x5), (6, .int (nI i))] → W p l e ({ frames := 0, cells := 0, slots := 0, locals := 0 } : Room) s m ([.ref h0, .int x1, .int x2, .int x3, .int x4, .int x5] : List Value).toArray below meth cd H locs 0 0 Q (F0 m 18 ls []) := by
      intro nn_5
      induction nn_5 with
      | zero => intros; exact absurd ‹_ < 0› (Nat.not_lt_zero _)
      | succ nn_5 ih_4 =>
        intro i g1 hi hmu H locs ls hP hD hS hl
        refine lv_iload hx hb dX9_feed_18 (lv_at hl 6 rfl) ?_
        refine lv_bipush (v := 20) hx hb dX9_feed_20 (by decide) ?_
        refine lv_icmp_ge (tgt := 115) hx hb dX9_feed_22 (by decide) (fun c_6 => ?_) (fun c_6 => ?_)
        · have hge := (nI_leI (a := 20) (by omega) (by omega)).mp c_6
          have hi20 : i = 20 := by omega
          refine lv_aload_n hx hb dX9_feed_115 rfl (lv_at hl 0 rfl) ?_
          refine va_get (D := D) (ci := 9) (v := .int (nI (t0 + i))) (C := RX9) (T := TX9) (N := 34) hx hb hts hinX9 hown hK hP 0 rfl rfl 2 (by decide) (hts (.fieldLink RX9 83 "TaleReaderModel" "taped" "I") (uc8 _ (List.mem_of_getElem? (i := 13) rfl))) (fun _ h9 => h9) rfl dX9_feed_116 ?_
          have hP9 := hP.sub (ws' := [(h0, .inr (9, [.ref b0, .ref b1, .int (nI (t0 + i)), .int (nI tl), .int (nI wn), .int sp, .ref b6, .ref b7, .ref b8, .ref b9, .int (nI dn), .ref b11, .ref b12, .ref b13, .int (nI mn), .int (nI pn), .int db, .int ct, .ref b18, .ref b19, .ref b20, .ref b21, .ref b22, .ref b23, .ref b24, .ref b25, .ref b26, .ref b27, .ref b28, .ref b29, .ref b30, .int (nI qn), .ref b32, .ref b33])), (b0, .inl (cI, 600, .inl g1))]) [0, 1] rfl
          have hD9 := hD.sub (ws' := [(h0, .inr (9, [.ref b0, .ref b1, .int (nI (t0 + i)), .int (nI tl), .int (nI wn), .int sp, .ref b6, .ref b7, .ref b8, .ref b9, .int (nI dn), .ref b11, .ref b12, .ref b13, .int (nI mn), .int (nI pn), .int db, .int ct, .ref b18, .ref b19, .ref b20, .ref b21, .ref b22, .ref b23, .ref b24, .ref b25, .ref b26, .ref b27, .ref b28, .ref b29, .ref b30, .int (nI qn), .ref b32, .ref b33])), (b0, .inl (cI, 600, .inl g1))]) [0, 1] (by decide) rfl
          rw [← hQ]
          exact W.iret (v := nI (t0 + i)) hx hb hr (fun t ht hW => ⟨⟨nI (t0 + i), (t0 + i, g1), rfl, Or.inr ((⟨(by rw [hi20]), h20, (by rw [hi20])⟩)), ⟨by rw [ht]; exact hP9, va_K.moved hW.alike hK, hD9⟩⟩, hS.F ht⟩) hS.2.2 dX9_feed_119
        · have hlt_i : i < 20 := Nat.lt_of_not_le (fun q => c_6 (nI_le q (by omega)))
          refine lv_iload hx hb dX9_feed_25 (lv_at hl 6 rfl) ?_
          refine lv_iconst (v := 4) hx hb dX9_feed_27 (by decide) ?_
          refine lv_icmp_ge (tgt := 35) hx hb dX9_feed_28 (by decide) (fun c_7 => ?_) (fun c_7 => ?_)
          · refine lv_iload hx hb dX9_feed_35 (lv_at hl 6 rfl) ?_
            refine lv_bipush (v := 8) hx hb dX9_feed_37 (by decide) ?_
            refine lv_icmp_ge (tgt := 46) hx hb dX9_feed_39 (by decide) (fun c_8 => ?_) (fun c_8 => ?_)
            · refine lv_iload hx hb dX9_feed_46 (lv_at hl 6 rfl) ?_
              refine lv_bipush (v := 12) hx hb dX9_feed_48 (by decide) ?_
              refine lv_icmp_ge (tgt := 57) hx hb dX9_feed_50 (by decide) (fun c_9 => ?_) (fun c_9 => ?_)
              · refine lv_iload hx hb dX9_feed_57 (lv_at hl 6 rfl) ?_
                refine lv_bipush (v := 16) hx hb dX9_feed_59 (by decide) ?_
                refine lv_icmp_ge (tgt := 69) hx hb dX9_feed_61 (by decide) (fun c_10 => ?_) (fun c_10 => ?_)
                · refine lv_iload hx hb dX9_feed_69 (lv_at hl 5 rfl) ?_
                  refine lv_istore (lv' := [(7, .int x5), (0, .ref h0), (1, .int x1), (2, .int x2), (3, .int x3), (4, .int x4), (5, .int x5), (6, .int (nI i))]) hx hb dX9_feed_71 hl (by decide) rfl (fun ls hl => ?_)
                  refine lv_aload_n hx hb dX9_feed_73 rfl (lv_at hl 1 rfl) ?_
                  refine va_get (D := D) (ci := 9) (v := .ref b0) (C := RX9) (T := TX9) (N := 34) hx hb hts hinX9 hown hK hP 0 rfl rfl 0 (by decide) (hts (.fieldLink RX9 7 "TaleReaderModel" "tape" "[I") (uc6 _ (List.mem_of_getElem? (i := 17) rfl))) (fun _ h9 => h9) rfl dX9_feed_74 ?_
                  refine lv_aload_n hx hb dX9_feed_77 rfl (lv_at hl 1 rfl) ?_
                  refine va_get (D := D) (ci := 9) (v := .int (nI (t0 + i))) (C := RX9) (T := TX9) (N := 34) hx hb hts hinX9 hown hK hP 0 rfl rfl 2 (by decide) (hts (.fieldLink RX9 83 "TaleReaderModel" "taped" "I") (uc8 _ (List.mem_of_getElem? (i := 13) rfl))) (fun _ h9 => h9) rfl dX9_feed_78 ?_
                  refine lv_iload hx hb dX9_feed_81 (lv_at hl 0 rfl) ?_
                  refine lv_bipush (v := 24) hx hb dX9_feed_83 (by decide) ?_
                  refine lv_bipush (v := 8) hx hb dX9_feed_85 (by decide) ?_
                  refine lv_iload hx hb dX9_feed_87 (lv_at hl 7 rfl) ?_
                  refine lv_iconst (v := 4) hx hb dX9_feed_89 (by decide) ?_
                  refine lv_irem hx hb dX9_feed_90 (by decide) ?_
                  refine lv_topi (fun v_11 ev_11 => ?_)
                  refine lv_imul hx hb dX9_feed_91 ?_
                  refine lv_topi (fun v_12 ev_12 => ?_)
                  refine lv_isub hx hb dX9_feed_92 ?_
                  refine lv_topi (fun v_13 ev_13 => ?_)
                  refine lv_ishr hx hb dX9_feed_93 ?_
                  refine lv_topi (fun v_14 ev_14 => ?_)
                  refine lv_sipush (v := 255) hx hb dX9_feed_94 (by decide) ?_
                  refine lv_iand hx hb dX9_feed_97 ?_
                  refine lv_topi (fun v_15 ev_15 => ?_)
                  refine va_iast (D := D) hx hb hK hP hD hS 1 1 rfl rfl (vp_in_nI (by omega) (by omega)) dX9_feed_98 (fun H_16 L_17 hP hD hS => ?_)
                  obtain ⟨g_18, eg_18⟩ : ∃ gg : Nat → Int32, gg = upd g1 ((nI (t0 + i))).toNatClampNeg v_15 := ⟨_, rfl⟩
                  have hP : va_P D vwCl [(h0, .inr (9, [.ref b0, .ref b1, .int (nI (t0 + i)), .int (nI tl), .int (nI wn), .int sp, .ref b6, .ref b7, .ref b8, .ref b9, .int (nI dn), .ref b11, .ref b12, .ref b13, .int (nI mn), .int (nI pn), .int db, .int ct, .ref b18, .ref b19, .ref b20, .ref b21, .ref b22, .ref b23, .ref b24, .ref b25, .ref b26, .ref b27, .ref b28, .ref b29, .ref b30, .int (nI qn), .ref b32, .ref b33])), (b0, .inl (cI, 600, .inl g_18))] H_16 := by rw [eg_18]; exact hP
                  have hD : va_D A [(h0, .inr (9, [.ref b0, .ref b1, .int (nI (t0 + i)), .int (nI tl), .int (nI wn), .int sp, .ref b6, .ref b7, .ref b8, .ref b9, .int (nI dn), .ref b11, .ref b12, .ref b13, .int (nI mn), .int (nI pn), .int db, .int ct, .ref b18, .ref b19, .ref b20, .ref b21, .ref b22, .ref b23, .ref b24, .ref b25, .ref b26, .ref b27, .ref b28, .ref b29, .ref b30, .int (nI qn), .ref b32, .ref b33])), (b0, .inl (cI, 600, .inl g_18))] := by rw [eg_18]; exact hD
                  refine lv_aload_n hx hb dX9_feed_99 rfl (lv_at hl 1 rfl) ?_
                  refine lv_dup hx hb dX9_feed_100 rfl ?_
                  refine va_get (D := D) (ci := 9) (v := .int (nI (t0 + i))) (C := RX9) (T := TX9) (N := 34) hx hb hts hinX9 hown hK hP 0 rfl rfl 2 (by decide) (hts (.fieldLink RX9 83 "TaleReaderModel" "taped" "I") (uc8 _ (List.mem_of_getElem? (i := 13) rfl))) (fun _ h9 => h9) rfl dX9_feed_101 ?_
                  refine lv_iconst (v := 1) hx hb dX9_feed_104 (by decide) ?_
                  refine lv_iadd hx hb dX9_feed_105 ?_
                  refine lv_topi (fun z_19 ez_19 => ?_)
                  obtain rfl : z_19 = nI (t0 + i + 1) := ez_19.trans (nI_add (t0 + i) 1)
                  refine va_put (D := D) (ci := 9) (v := .int (nI (t0 + i + 1))) (ty := .int) (C := RX9) (T := TX9) (N := 34) hx hb hts hinX9 tyX9 tyX9_ok nmX9 hown hK hP hD hS 0 rfl rfl 2 (by decide) (hts (.fieldLink RX9 83 "TaleReaderModel" "taped" "I") (uc8 _ (List.mem_of_getElem? (i := 13) rfl))) (fun _ h9 => h9) rfl (by decide +kernel) rfl rfl (Nat.le_of_ble_eq_true rfl) dX9_feed_106 (fun H_20 L_21 hP hD hS => ?_)
                  have hP : va_P D vwCl [(h0, .inr (9, [.ref b0, .ref b1, .int (nI (t0 + i + 1)), .int (nI tl), .int (nI wn), .int sp, .ref b6, .ref b7, .ref b8, .ref b9, .int (nI dn), .ref b11, .ref b12, .ref b13, .int (nI mn), .int (nI pn), .int db, .int ct, .ref b18, .ref b19, .ref b20, .ref b21, .ref b22, .ref b23, .ref b24, .ref b25, .ref b26, .ref b27, .ref b28, .ref b29, .ref b30, .int (nI qn), .ref b32, .ref b33])), (b0, .inl (cI, 600, .inl g_18))] H_20 := hP
                  have hD : va_D A [(h0, .inr (9, [.ref b0, .ref b1, .int (nI (t0 + i + 1)), .int (nI tl), .int (nI wn), .int sp, .ref b6, .ref b7, .ref b8, .ref b9, .int (nI dn), .ref b11, .ref b12, .ref b13, .int (nI mn), .int (nI pn), .int db, .int ct, .ref b18, .ref b19, .ref b20, .ref b21, .ref b22, .ref b23, .ref b24, .ref b25, .ref b26, .ref b27, .ref b28, .ref b29, .ref b30, .int (nI qn), .ref b32, .ref b33])), (b0, .inl (cI, 600, .inl g_18))] := hD
                  refine lv_iinc (v := nI (i + 1)) (lv' := [(6, .int (nI (i + 1))), (7, .int x5), (0, .ref h0), (1, .int x1), (2, .int x2), (3, .int x3), (4, .int x4), (5, .int x5)]) hx hb dX9_feed_109 hl (k := 7) rfl (nI_add i 1) (by decide) rfl (fun ls hl => ?_)
                  refine lv_goto (tgt := 18) hx hb dX9_feed_112 (by decide) ?_
                  exact ih_4 (i + 1) g_18 (by first | assumption | exact Or.inl rfl | exact Or.inr rfl | omega) (by omega) H_20 _ ls (hP.sub (ws' := [(h0, .inr (9, [.ref b0, .ref b1, .int (nI (t0 + i + 1)), .int (nI tl), .int (nI wn), .int sp, .ref b6, .ref b7, .ref b8, .ref b9, .int (nI dn), .ref b11, .ref b12, .ref b13, .int (nI mn), .int (nI pn), .int db, .int ct, .ref b18, .ref b19, .ref b20, .ref b21, .ref b22, .ref b23, .ref b24, .ref b25, .ref b26, .ref b27, .ref b28, .ref b29, .ref b30, .int (nI qn), .ref b32, .ref b33])), (b0, .inl (cI, 600, .inl g_18))]) [0, 1] rfl) (hD.sub (ws' := [(h0, .inr (9, [.ref b0, .ref b1, .int (nI (t0 + i + 1)), .int (nI tl), .int (nI wn), .int sp, .ref b6, .ref b7, .ref b8, .ref b9, .int (nI dn), .ref b11, .ref b12, .ref b13, .int (nI mn), .int (nI pn), .int db, .int ct, .ref b18, .ref b19, .ref b20, .ref b21, .ref b22, .ref b23, .ref b24, .ref b25, .ref b26, .ref b27, .ref b28, .ref b29, .ref b30, .int (nI qn), .ref b32, .ref b33])), (b0, .inl (cI, 600, .inl g_18))]) [0, 1] (by decide) rfl) hS (lv_sub hl [2, 3, 4, 5, 6, 7, 0] rfl)
                · refine lv_iload hx hb dX9_feed_64 (lv_at hl 4 rfl) ?_
                  refine lv_goto (tgt := 71) hx hb dX9_feed_66 (by decide) ?_
                  refine lv_istore (lv' := [(7, .int x4), (0, .ref h0), (1, .int x1), (2, .int x2), (3, .int x3), (4, .int x4), (5, .int x5), (6, .int (nI i))]) hx hb dX9_feed_71 hl (by decide) rfl (fun ls hl => ?_)
                  refine lv_aload_n hx hb dX9_feed_73 rfl (lv_at hl 1 rfl) ?_
                  refine va_get (D := D) (ci := 9) (v := .ref b0) (C := RX9) (T := TX9) (N := 34) hx hb hts hinX9 hown hK hP 0 rfl rfl 0 (by decide) (hts (.fieldLink RX9 7 "TaleReaderModel" "tape" "[I") (uc6 _ (List.mem_of_getElem? (i := 17) rfl))) (fun _ h9 => h9) rfl dX9_feed_74 ?_
                  refine lv_aload_n hx hb dX9_feed_77 rfl (lv_at hl 1 rfl) ?_
                  refine va_get (D := D) (ci := 9) (v := .int (nI (t0 + i))) (C := RX9) (T := TX9) (N := 34) hx hb hts hinX9 hown hK hP 0 rfl rfl 2 (by decide) (hts (.fieldLink RX9 83 "TaleReaderModel" "taped" "I") (uc8 _ (List.mem_of_getElem? (i := 13) rfl))) (fun _ h9 => h9) rfl dX9_feed_78 ?_
                  refine lv_iload hx hb dX9_feed_81 (lv_at hl 0 rfl) ?_
                  refine lv_bipush (v := 24) hx hb dX9_feed_83 (by decide) ?_
                  refine lv_bipush (v := 8) hx hb dX9_feed_85 (by decide) ?_
                  refine lv_iload hx hb dX9_feed_87 (lv_at hl 7 rfl) ?_
                  refine lv_iconst (v := 4) hx hb dX9_feed_89 (by decide) ?_
                  refine lv_irem hx hb dX9_feed_90 (by decide) ?_
                  refine lv_topi (fun v_22 ev_22 => ?_)
                  refine lv_imul hx hb dX9_feed_91 ?_
                  refine lv_topi (fun v_23 ev_23 => ?_)
                  refine lv_isub hx hb dX9_feed_92 ?_
                  refine lv_topi (fun v_24 ev_24 => ?_)
                  refine lv_ishr hx hb dX9_feed_93 ?_
                  refine lv_topi (fun v_25 ev_25 => ?_)
                  refine lv_sipush (v := 255) hx hb dX9_feed_94 (by decide) ?_
                  refine lv_iand hx hb dX9_feed_97 ?_
                  refine lv_topi (fun v_26 ev_26 => ?_)
                  refine va_iast (D := D) hx hb hK hP hD hS 1 1 rfl rfl (vp_in_nI (by omega) (by omega)) dX9_feed_98 (fun H_27 L_28 hP hD hS => ?_)
                  obtain ⟨g_29, eg_29⟩ : ∃ gg : Nat → Int32, gg = upd g1 ((nI (t0 + i))).toNatClampNeg v_26 := ⟨_, rfl⟩
                  have hP : va_P D vwCl [(h0, .inr (9, [.ref b0, .ref b1, .int (nI (t0 + i)), .int (nI tl), .int (nI wn), .int sp, .ref b6, .ref b7, .ref b8, .ref b9, .int (nI dn), .ref b11, .ref b12, .ref b13, .int (nI mn), .int (nI pn), .int db, .int ct, .ref b18, .ref b19, .ref b20, .ref b21, .ref b22, .ref b23, .ref b24, .ref b25, .ref b26, .ref b27, .ref b28, .ref b29, .ref b30, .int (nI qn), .ref b32, .ref b33])), (b0, .inl (cI, 600, .inl g_29))] H_27 := by rw [eg_29]; exact hP
                  have hD : va_D A [(h0, .inr (9, [.ref b0, .ref b1, .int (nI (t0 + i)), .int (nI tl), .int (nI wn), .int sp, .ref b6, .ref b7, .ref b8, .ref b9, .int (nI dn), .ref b11, .ref b12, .ref b13, .int (nI mn), .int (nI pn), .int db, .int ct, .ref b18, .ref b19, .ref b20, .ref b21, .ref b22, .ref b23, .ref b24, .ref b25, .ref b26, .ref b27, .ref b28, .ref b29, .ref b30, .int (nI qn), .ref b32, .ref b33])), (b0, .inl (cI, 600, .inl g_29))] := by rw [eg_29]; exact hD
                  refine lv_aload_n hx hb dX9_feed_99 rfl (lv_at hl 1 rfl) ?_
                  refine lv_dup hx hb dX9_feed_100 rfl ?_
                  refine va_get (D := D) (ci := 9) (v := .int (nI (t0 + i))) (C := RX9) (T := TX9) (N := 34) hx hb hts hinX9 hown hK hP 0 rfl rfl 2 (by decide) (hts (.fieldLink RX9 83 "TaleReaderModel" "taped" "I") (uc8 _ (List.mem_of_getElem? (i := 13) rfl))) (fun _ h9 => h9) rfl dX9_feed_101 ?_
                  refine lv_iconst (v := 1) hx hb dX9_feed_104 (by decide) ?_
                  refine lv_iadd hx hb dX9_feed_105 ?_
                  refine lv_topi (fun z_30 ez_30 => ?_)
                  obtain rfl : z_30 = nI (t0 + i + 1) := ez_30.trans (nI_add (t0 + i) 1)
                  refine va_put (D := D) (ci := 9) (v := .int (nI (t0 + i + 1))) (ty := .int) (C := RX9) (T := TX9) (N := 34) hx hb hts hinX9 tyX9 tyX9_ok nmX9 hown hK hP hD hS 0 rfl rfl 2 (by decide) (hts (.fieldLink RX9 83 "TaleReaderModel" "taped" "I") (uc8 _ (List.mem_of_getElem? (i := 13) rfl))) (fun _ h9 => h9) rfl (by decide +kernel) rfl rfl (Nat.le_of_ble_eq_true rfl) dX9_feed_106 (fun H_31 L_32 hP hD hS => ?_)
                  have hP : va_P D vwCl [(h0, .inr (9, [.ref b0, .ref b1, .int (nI (t0 + i + 1)), .int (nI tl), .int (nI wn), .int sp, .ref b6, .ref b7, .ref b8, .ref b9, .int (nI dn), .ref b11, .ref b12, .ref b13, .int (nI mn), .int (nI pn), .int db, .int ct, .ref b18, .ref b19, .ref b20, .ref b21, .ref b22, .ref b23, .ref b24, .ref b25, .ref b26, .ref b27, .ref b28, .ref b29, .ref b30, .int (nI qn), .ref b32, .ref b33])), (b0, .inl (cI, 600, .inl g_29))] H_31 := hP
                  have hD : va_D A [(h0, .inr (9, [.ref b0, .ref b1, .int (nI (t0 + i + 1)), .int (nI tl), .int (nI wn), .int sp, .ref b6, .ref b7, .ref b8, .ref b9, .int (nI dn), .ref b11, .ref b12, .ref b13, .int (nI mn), .int (nI pn), .int db, .int ct, .ref b18, .ref b19, .ref b20, .ref b21, .ref b22, .ref b23, .ref b24, .ref b25, .ref b26, .ref b27, .ref b28, .ref b29, .ref b30, .int (nI qn), .ref b32, .ref b33])), (b0, .inl (cI, 600, .inl g_29))] := hD
                  refine lv_iinc (v := nI (i + 1)) (lv' := [(6, .int (nI (i + 1))), (7, .int x4), (0, .ref h0), (1, .int x1), (2, .int x2), (3, .int x3), (4, .int x4), (5, .int x5)]) hx hb dX9_feed_109 hl (k := 7) rfl (nI_add i 1) (by decide) rfl (fun ls hl => ?_)
                  refine lv_goto (tgt := 18) hx hb dX9_feed_112 (by decide) ?_
                  exact ih_4 (i + 1) g_29 (by first | assumption | exact Or.inl rfl | exact Or.inr rfl | omega) (by omega) H_31 _ ls (hP.sub (ws' := [(h0, .inr (9, [.ref b0, .ref b1, .int (nI (t0 + i + 1)), .int (nI tl), .int (nI wn), .int sp, .ref b6, .ref b7, .ref b8, .ref b9, .int (nI dn), .ref b11, .ref b12, .ref b13, .int (nI mn), .int (nI pn), .int db, .int ct, .ref b18, .ref b19, .ref b20, .ref b21, .ref b22, .ref b23, .ref b24, .ref b25, .ref b26, .ref b27, .ref b28, .ref b29, .ref b30, .int (nI qn), .ref b32, .ref b33])), (b0, .inl (cI, 600, .inl g_29))]) [0, 1] rfl) (hD.sub (ws' := [(h0, .inr (9, [.ref b0, .ref b1, .int (nI (t0 + i + 1)), .int (nI tl), .int (nI wn), .int sp, .ref b6, .ref b7, .ref b8, .ref b9, .int (nI dn), .ref b11, .ref b12, .ref b13, .int (nI mn), .int (nI pn), .int db, .int ct, .ref b18, .ref b19, .ref b20, .ref b21, .ref b22, .ref b23, .ref b24, .ref b25, .ref b26, .ref b27, .ref b28, .ref b29, .ref b30, .int (nI qn), .ref b32, .ref b33])), (b0, .inl (cI, 600, .inl g_29))]) [0, 1] (by decide) rfl) hS (lv_sub hl [2, 3, 4, 5, 6, 7, 0] rfl)
              · refine lv_iload_n hx hb dX9_feed_53 rfl (lv_at hl 3 rfl) ?_
                refine lv_goto (tgt := 71) hx hb dX9_feed_54 (by decide) ?_
                refine lv_istore (lv' := [(7, .int x3), (0, .ref h0), (1, .int x1), (2, .int x2), (3, .int x3), (4, .int x4), (5, .int x5), (6, .int (nI i))]) hx hb dX9_feed_71 hl (by decide) rfl (fun ls hl => ?_)
                refine lv_aload_n hx hb dX9_feed_73 rfl (lv_at hl 1 rfl) ?_
                refine va_get (D := D) (ci := 9) (v := .ref b0) (C := RX9) (T := TX9) (N := 34) hx hb hts hinX9 hown hK hP 0 rfl rfl 0 (by decide) (hts (.fieldLink RX9 7 "TaleReaderModel" "tape" "[I") (uc6 _ (List.mem_of_getElem? (i := 17) rfl))) (fun _ h9 => h9) rfl dX9_feed_74 ?_
                refine lv_aload_n hx hb dX9_feed_77 rfl (lv_at hl 1 rfl) ?_
                refine va_get (D := D) (ci := 9) (v := .int (nI (t0 + i))) (C := RX9) (T := TX9) (N := 34) hx hb hts hinX9 hown hK hP 0 rfl rfl 2 (by decide) (hts (.fieldLink RX9 83 "TaleReaderModel" "taped" "I") (uc8 _ (List.mem_of_getElem? (i := 13) rfl))) (fun _ h9 => h9) rfl dX9_feed_78 ?_
                refine lv_iload hx hb dX9_feed_81 (lv_at hl 0 rfl) ?_
                refine lv_bipush (v := 24) hx hb dX9_feed_83 (by decide) ?_
                refine lv_bipush (v := 8) hx hb dX9_feed_85 (by decide) ?_
                refine lv_iload hx hb dX9_feed_87 (lv_at hl 7 rfl) ?_
                refine lv_iconst (v := 4) hx hb dX9_feed_89 (by decide) ?_
                refine lv_irem hx hb dX9_feed_90 (by decide) ?_
                refine lv_topi (fun v_33 ev_33 => ?_)
                refine lv_imul hx hb dX9_feed_91 ?_
                refine lv_topi (fun v_34 ev_34 => ?_)
                refine lv_isub hx hb dX9_feed_92 ?_
                refine lv_topi (fun v_35 ev_35 => ?_)
                refine lv_ishr hx hb dX9_feed_93 ?_
                refine lv_topi (fun v_36 ev_36 => ?_)
                refine lv_sipush (v := 255) hx hb dX9_feed_94 (by decide) ?_
                refine lv_iand hx hb dX9_feed_97 ?_
                refine lv_topi (fun v_37 ev_37 => ?_)
                refine va_iast (D := D) hx hb hK hP hD hS 1 1 rfl rfl (vp_in_nI (by omega) (by omega)) dX9_feed_98 (fun H_38 L_39 hP hD hS => ?_)
                obtain ⟨g_40, eg_40⟩ : ∃ gg : Nat → Int32, gg = upd g1 ((nI (t0 + i))).toNatClampNeg v_37 := ⟨_, rfl⟩
                have hP : va_P D vwCl [(h0, .inr (9, [.ref b0, .ref b1, .int (nI (t0 + i)), .int (nI tl), .int (nI wn), .int sp, .ref b6, .ref b7, .ref b8, .ref b9, .int (nI dn), .ref b11, .ref b12, .ref b13, .int (nI mn), .int (nI pn), .int db, .int ct, .ref b18, .ref b19, .ref b20, .ref b21, .ref b22, .ref b23, .ref b24, .ref b25, .ref b26, .ref b27, .ref b28, .ref b29, .ref b30, .int (nI qn), .ref b32, .ref b33])), (b0, .inl (cI, 600, .inl g_40))] H_38 := by rw [eg_40]; exact hP
                have hD : va_D A [(h0, .inr (9, [.ref b0, .ref b1, .int (nI (t0 + i)), .int (nI tl), .int (nI wn), .int sp, .ref b6, .ref b7, .ref b8, .ref b9, .int (nI dn), .ref b11, .ref b12, .ref b13, .int (nI mn), .int (nI pn), .int db, .int ct, .ref b18, .ref b19, .ref b20, .ref b21, .ref b22, .ref b23, .ref b24, .ref b25, .ref b26, .ref b27, .ref b28, .ref b29, .ref b30, .int (nI qn), .ref b32, .ref b33])), (b0, .inl (cI, 600, .inl g_40))] := by rw [eg_40]; exact hD
                refine lv_aload_n hx hb dX9_feed_99 rfl (lv_at hl 1 rfl) ?_
                refine lv_dup hx hb dX9_feed_100 rfl ?_
                refine va_get (D := D) (ci := 9) (v := .int (nI (t0 + i))) (C := RX9) (T := TX9) (N := 34) hx hb hts hinX9 hown hK hP 0 rfl rfl 2 (by decide) (hts (.fieldLink RX9 83 "TaleReaderModel" "taped" "I") (uc8 _ (List.mem_of_getElem? (i := 13) rfl))) (fun _ h9 => h9) rfl dX9_feed_101 ?_
                refine lv_iconst (v := 1) hx hb dX9_feed_104 (by decide) ?_
                refine lv_iadd hx hb dX9_feed_105 ?_
                refine lv_topi (fun z_41 ez_41 => ?_)
                obtain rfl : z_41 = nI (t0 + i + 1) := ez_41.trans (nI_add (t0 + i) 1)
                refine va_put (D := D) (ci := 9) (v := .int (nI (t0 + i + 1))) (ty := .int) (C := RX9) (T := TX9) (N := 34) hx hb hts hinX9 tyX9 tyX9_ok nmX9 hown hK hP hD hS 0 rfl rfl 2 (by decide) (hts (.fieldLink RX9 83 "TaleReaderModel" "taped" "I") (uc8 _ (List.mem_of_getElem? (i := 13) rfl))) (fun _ h9 => h9) rfl (by decide +kernel) rfl rfl (Nat.le_of_ble_eq_true rfl) dX9_feed_106 (fun H_42 L_43 hP hD hS => ?_)
                have hP : va_P D vwCl [(h0, .inr (9, [.ref b0, .ref b1, .int (nI (t0 + i + 1)), .int (nI tl), .int (nI wn), .int sp, .ref b6, .ref b7, .ref b8, .ref b9, .int (nI dn), .ref b11, .ref b12, .ref b13, .int (nI mn), .int (nI pn), .int db, .int ct, .ref b18, .ref b19, .ref b20, .ref b21, .ref b22, .ref b23, .ref b24, .ref b25, .ref b26, .ref b27, .ref b28, .ref b29, .ref b30, .int (nI qn), .ref b32, .ref b33])), (b0, .inl (cI, 600, .inl g_40))] H_42 := hP
                have hD : va_D A [(h0, .inr (9, [.ref b0, .ref b1, .int (nI (t0 + i + 1)), .int (nI tl), .int (nI wn), .int sp, .ref b6, .ref b7, .ref b8, .ref b9, .int (nI dn), .ref b11, .ref b12, .ref b13, .int (nI mn), .int (nI pn), .int db, .int ct, .ref b18, .ref b19, .ref b20, .ref b21, .ref b22, .ref b23, .ref b24, .ref b25, .ref b26, .ref b27, .ref b28, .ref b29, .ref b30, .int (nI qn), .ref b32, .ref b33])), (b0, .inl (cI, 600, .inl g_40))] := hD
                refine lv_iinc (v := nI (i + 1)) (lv' := [(6, .int (nI (i + 1))), (7, .int x3), (0, .ref h0), (1, .int x1), (2, .int x2), (3, .int x3), (4, .int x4), (5, .int x5)]) hx hb dX9_feed_109 hl (k := 7) rfl (nI_add i 1) (by decide) rfl (fun ls hl => ?_)
                refine lv_goto (tgt := 18) hx hb dX9_feed_112 (by decide) ?_
                exact ih_4 (i + 1) g_40 (by first | assumption | exact Or.inl rfl | exact Or.inr rfl | omega) (by omega) H_42 _ ls (hP.sub (ws' := [(h0, .inr (9, [.ref b0, .ref b1, .int (nI (t0 + i + 1)), .int (nI tl), .int (nI wn), .int sp, .ref b6, .ref b7, .ref b8, .ref b9, .int (nI dn), .ref b11, .ref b12, .ref b13, .int (nI mn), .int (nI pn), .int db, .int ct, .ref b18, .ref b19, .ref b20, .ref b21, .ref b22, .ref b23, .ref b24, .ref b25, .ref b26, .ref b27, .ref b28, .ref b29, .ref b30, .int (nI qn), .ref b32, .ref b33])), (b0, .inl (cI, 600, .inl g_40))]) [0, 1] rfl) (hD.sub (ws' := [(h0, .inr (9, [.ref b0, .ref b1, .int (nI (t0 + i + 1)), .int (nI tl), .int (nI wn), .int sp, .ref b6, .ref b7, .ref b8, .ref b9, .int (nI dn), .ref b11, .ref b12, .ref b13, .int (nI mn), .int (nI pn), .int db, .int ct, .ref b18, .ref b19, .ref b20, .ref b21, .ref b22, .ref b23, .ref b24, .ref b25, .ref b26, .ref b27, .ref b28, .ref b29, .ref b30, .int (nI qn), .ref b32, .ref b33])), (b0, .inl (cI, 600, .inl g_40))]) [0, 1] (by decide) rfl) hS (lv_sub hl [2, 3, 4, 5, 6, 7, 0] rfl)
            · refine lv_iload_n hx hb dX9_feed_42 rfl (lv_at hl 2 rfl) ?_
              refine lv_goto (tgt := 71) hx hb dX9_feed_43 (by decide) ?_
              refine lv_istore (lv' := [(7, .int x2), (0, .ref h0), (1, .int x1), (2, .int x2), (3, .int x3), (4, .int x4), (5, .int x5), (6, .int (nI i))]) hx hb dX9_feed_71 hl (by decide) rfl (fun ls hl => ?_)
              refine lv_aload_n hx hb dX9_feed_73 rfl (lv_at hl 1 rfl) ?_
              refine va_get (D := D) (ci := 9) (v := .ref b0) (C := RX9) (T := TX9) (N := 34) hx hb hts hinX9 hown hK hP 0 rfl rfl 0 (by decide) (hts (.fieldLink RX9 7 "TaleReaderModel" "tape" "[I") (uc6 _ (List.mem_of_getElem? (i := 17) rfl))) (fun _ h9 => h9) rfl dX9_feed_74 ?_
              refine lv_aload_n hx hb dX9_feed_77 rfl (lv_at hl 1 rfl) ?_
              refine va_get (D := D) (ci := 9) (v := .int (nI (t0 + i))) (C := RX9) (T := TX9) (N := 34) hx hb hts hinX9 hown hK hP 0 rfl rfl 2 (by decide) (hts (.fieldLink RX9 83 "TaleReaderModel" "taped" "I") (uc8 _ (List.mem_of_getElem? (i := 13) rfl))) (fun _ h9 => h9) rfl dX9_feed_78 ?_
              refine lv_iload hx hb dX9_feed_81 (lv_at hl 0 rfl) ?_
              refine lv_bipush (v := 24) hx hb dX9_feed_83 (by decide) ?_
              refine lv_bipush (v := 8) hx hb dX9_feed_85 (by decide) ?_
              refine lv_iload hx hb dX9_feed_87 (lv_at hl 7 rfl) ?_
              refine lv_iconst (v := 4) hx hb dX9_feed_89 (by decide) ?_
              refine lv_irem hx hb dX9_feed_90 (by decide) ?_
              refine lv_topi (fun v_44 ev_44 => ?_)
              refine lv_imul hx hb dX9_feed_91 ?_
              refine lv_topi (fun v_45 ev_45 => ?_)
              refine lv_isub hx hb dX9_feed_92 ?_
              refine lv_topi (fun v_46 ev_46 => ?_)
              refine lv_ishr hx hb dX9_feed_93 ?_
              refine lv_topi (fun v_47 ev_47 => ?_)
              refine lv_sipush (v := 255) hx hb dX9_feed_94 (by decide) ?_
              refine lv_iand hx hb dX9_feed_97 ?_
              refine lv_topi (fun v_48 ev_48 => ?_)
              refine va_iast (D := D) hx hb hK hP hD hS 1 1 rfl rfl (vp_in_nI (by omega) (by omega)) dX9_feed_98 (fun H_49 L_50 hP hD hS => ?_)
              obtain ⟨g_51, eg_51⟩ : ∃ gg : Nat → Int32, gg = upd g1 ((nI (t0 + i))).toNatClampNeg v_48 := ⟨_, rfl⟩
              have hP : va_P D vwCl [(h0, .inr (9, [.ref b0, .ref b1, .int (nI (t0 + i)), .int (nI tl), .int (nI wn), .int sp, .ref b6, .ref b7, .ref b8, .ref b9, .int (nI dn), .ref b11, .ref b12, .ref b13, .int (nI mn), .int (nI pn), .int db, .int ct, .ref b18, .ref b19, .ref b20, .ref b21, .ref b22, .ref b23, .ref b24, .ref b25, .ref b26, .ref b27, .ref b28, .ref b29, .ref b30, .int (nI qn), .ref b32, .ref b33])), (b0, .inl (cI, 600, .inl g_51))] H_49 := by rw [eg_51]; exact hP
              have hD : va_D A [(h0, .inr (9, [.ref b0, .ref b1, .int (nI (t0 + i)), .int (nI tl), .int (nI wn), .int sp, .ref b6, .ref b7, .ref b8, .ref b9, .int (nI dn), .ref b11, .ref b12, .ref b13, .int (nI mn), .int (nI pn), .int db, .int ct, .ref b18, .ref b19, .ref b20, .ref b21, .ref b22, .ref b23, .ref b24, .ref b25, .ref b26, .ref b27, .ref b28, .ref b29, .ref b30, .int (nI qn), .ref b32, .ref b33])), (b0, .inl (cI, 600, .inl g_51))] := by rw [eg_51]; exact hD
              refine lv_aload_n hx hb dX9_feed_99 rfl (lv_at hl 1 rfl) ?_
              refine lv_dup hx hb dX9_feed_100 rfl ?_
              refine va_get (D := D) (ci := 9) (v := .int (nI (t0 + i))) (C := RX9) (T := TX9) (N := 34) hx hb hts hinX9 hown hK hP 0 rfl rfl 2 (by decide) (hts (.fieldLink RX9 83 "TaleReaderModel" "taped" "I") (uc8 _ (List.mem_of_getElem? (i := 13) rfl))) (fun _ h9 => h9) rfl dX9_feed_101 ?_
              refine lv_iconst (v := 1) hx hb dX9_feed_104 (by decide) ?_
              refine lv_iadd hx hb dX9_feed_105 ?_
              refine lv_topi (fun z_52 ez_52 => ?_)
              obtain rfl : z_52 = nI (t0 + i + 1) := ez_52.trans (nI_add (t0 + i) 1)
              refine va_put (D := D) (ci := 9) (v := .int (nI (t0 + i + 1))) (ty := .int) (C := RX9) (T := TX9) (N := 34) hx hb hts hinX9 tyX9 tyX9_ok nmX9 hown hK hP hD hS 0 rfl rfl 2 (by decide) (hts (.fieldLink RX9 83 "TaleReaderModel" "taped" "I") (uc8 _ (List.mem_of_getElem? (i := 13) rfl))) (fun _ h9 => h9) rfl (by decide +kernel) rfl rfl (Nat.le_of_ble_eq_true rfl) dX9_feed_106 (fun H_53 L_54 hP hD hS => ?_)
              have hP : va_P D vwCl [(h0, .inr (9, [.ref b0, .ref b1, .int (nI (t0 + i + 1)), .int (nI tl), .int (nI wn), .int sp, .ref b6, .ref b7, .ref b8, .ref b9, .int (nI dn), .ref b11, .ref b12, .ref b13, .int (nI mn), .int (nI pn), .int db, .int ct, .ref b18, .ref b19, .ref b20, .ref b21, .ref b22, .ref b23, .ref b24, .ref b25, .ref b26, .ref b27, .ref b28, .ref b29, .ref b30, .int (nI qn), .ref b32, .ref b33])), (b0, .inl (cI, 600, .inl g_51))] H_53 := hP
              have hD : va_D A [(h0, .inr (9, [.ref b0, .ref b1, .int (nI (t0 + i + 1)), .int (nI tl), .int (nI wn), .int sp, .ref b6, .ref b7, .ref b8, .ref b9, .int (nI dn), .ref b11, .ref b12, .ref b13, .int (nI mn), .int (nI pn), .int db, .int ct, .ref b18, .ref b19, .ref b20, .ref b21, .ref b22, .ref b23, .ref b24, .ref b25, .ref b26, .ref b27, .ref b28, .ref b29, .ref b30, .int (nI qn), .ref b32, .ref b33])), (b0, .inl (cI, 600, .inl g_51))] := hD
              refine lv_iinc (v := nI (i + 1)) (lv' := [(6, .int (nI (i + 1))), (7, .int x2), (0, .ref h0), (1, .int x1), (2, .int x2), (3, .int x3), (4, .int x4), (5, .int x5)]) hx hb dX9_feed_109 hl (k := 7) rfl (nI_add i 1) (by decide) rfl (fun ls hl => ?_)
              refine lv_goto (tgt := 18) hx hb dX9_feed_112 (by decide) ?_
              exact ih_4 (i + 1) g_51 (by first | assumption | exact Or.inl rfl | exact Or.inr rfl | omega) (by omega) H_53 _ ls (hP.sub (ws' := [(h0, .inr (9, [.ref b0, .ref b1, .int (nI (t0 + i + 1)), .int (nI tl), .int (nI wn), .int sp, .ref b6, .ref b7, .ref b8, .ref b9, .int (nI dn), .ref b11, .ref b12, .ref b13, .int (nI mn), .int (nI pn), .int db, .int ct, .ref b18, .ref b19, .ref b20, .ref b21, .ref b22, .ref b23, .ref b24, .ref b25, .ref b26, .ref b27, .ref b28, .ref b29, .ref b30, .int (nI qn), .ref b32, .ref b33])), (b0, .inl (cI, 600, .inl g_51))]) [0, 1] rfl) (hD.sub (ws' := [(h0, .inr (9, [.ref b0, .ref b1, .int (nI (t0 + i + 1)), .int (nI tl), .int (nI wn), .int sp, .ref b6, .ref b7, .ref b8, .ref b9, .int (nI dn), .ref b11, .ref b12, .ref b13, .int (nI mn), .int (nI pn), .int db, .int ct, .ref b18, .ref b19, .ref b20, .ref b21, .ref b22, .ref b23, .ref b24, .ref b25, .ref b26, .ref b27, .ref b28, .ref b29, .ref b30, .int (nI qn), .ref b32, .ref b33])), (b0, .inl (cI, 600, .inl g_51))]) [0, 1] (by decide) rfl) hS (lv_sub hl [2, 3, 4, 5, 6, 7, 0] rfl)
          · refine lv_iload_n hx hb dX9_feed_31 rfl (lv_at hl 1 rfl) ?_
            refine lv_goto (tgt := 71) hx hb dX9_feed_32 (by decide) ?_
            refine lv_istore (lv' := [(7, .int x1), (0, .ref h0), (1, .int x1), (2, .int x2), (3, .int x3), (4, .int x4), (5, .int x5), (6, .int (nI i))]) hx hb dX9_feed_71 hl (by decide) rfl (fun ls hl => ?_)
            refine lv_aload_n hx hb dX9_feed_73 rfl (lv_at hl 1 rfl) ?_
            refine va_get (D := D) (ci := 9) (v := .ref b0) (C := RX9) (T := TX9) (N := 34) hx hb hts hinX9 hown hK hP 0 rfl rfl 0 (by decide) (hts (.fieldLink RX9 7 "TaleReaderModel" "tape" "[I") (uc6 _ (List.mem_of_getElem? (i := 17) rfl))) (fun _ h9 => h9) rfl dX9_feed_74 ?_
            refine lv_aload_n hx hb dX9_feed_77 rfl (lv_at hl 1 rfl) ?_
            refine va_get (D := D) (ci := 9) (v := .int (nI (t0 + i))) (C := RX9) (T := TX9) (N := 34) hx hb hts hinX9 hown hK hP 0 rfl rfl 2 (by decide) (hts (.fieldLink RX9 83 "TaleReaderModel" "taped" "I") (uc8 _ (List.mem_of_getElem? (i := 13) rfl))) (fun _ h9 => h9) rfl dX9_feed_78 ?_
            refine lv_iload hx hb dX9_feed_81 (lv_at hl 0 rfl) ?_
            refine lv_bipush (v := 24) hx hb dX9_feed_83 (by decide) ?_
            refine lv_bipush (v := 8) hx hb dX9_feed_85 (by decide) ?_
            refine lv_iload hx hb dX9_feed_87 (lv_at hl 7 rfl) ?_
            refine lv_iconst (v := 4) hx hb dX9_feed_89 (by decide) ?_
            refine lv_irem hx hb dX9_feed_90 (by decide) ?_
            refine lv_topi (fun v_55 ev_55 => ?_)
            refine lv_imul hx hb dX9_feed_91 ?_
            refine lv_topi (fun v_56 ev_56 => ?_)
            refine lv_isub hx hb dX9_feed_92 ?_
            refine lv_topi (fun v_57 ev_57 => ?_)
            refine lv_ishr hx hb dX9_feed_93 ?_
            refine lv_topi (fun v_58 ev_58 => ?_)
            refine lv_sipush (v := 255) hx hb dX9_feed_94 (by decide) ?_
            refine lv_iand hx hb dX9_feed_97 ?_
            refine lv_topi (fun v_59 ev_59 => ?_)
            refine va_iast (D := D) hx hb hK hP hD hS 1 1 rfl rfl (vp_in_nI (by omega) (by omega)) dX9_feed_98 (fun H_60 L_61 hP hD hS => ?_)
            obtain ⟨g_62, eg_62⟩ : ∃ gg : Nat → Int32, gg = upd g1 ((nI (t0 + i))).toNatClampNeg v_59 := ⟨_, rfl⟩
            have hP : va_P D vwCl [(h0, .inr (9, [.ref b0, .ref b1, .int (nI (t0 + i)), .int (nI tl), .int (nI wn), .int sp, .ref b6, .ref b7, .ref b8, .ref b9, .int (nI dn), .ref b11, .ref b12, .ref b13, .int (nI mn), .int (nI pn), .int db, .int ct, .ref b18, .ref b19, .ref b20, .ref b21, .ref b22, .ref b23, .ref b24, .ref b25, .ref b26, .ref b27, .ref b28, .ref b29, .ref b30, .int (nI qn), .ref b32, .ref b33])), (b0, .inl (cI, 600, .inl g_62))] H_60 := by rw [eg_62]; exact hP
            have hD : va_D A [(h0, .inr (9, [.ref b0, .ref b1, .int (nI (t0 + i)), .int (nI tl), .int (nI wn), .int sp, .ref b6, .ref b7, .ref b8, .ref b9, .int (nI dn), .ref b11, .ref b12, .ref b13, .int (nI mn), .int (nI pn), .int db, .int ct, .ref b18, .ref b19, .ref b20, .ref b21, .ref b22, .ref b23, .ref b24, .ref b25, .ref b26, .ref b27, .ref b28, .ref b29, .ref b30, .int (nI qn), .ref b32, .ref b33])), (b0, .inl (cI, 600, .inl g_62))] := by rw [eg_62]; exact hD
            refine lv_aload_n hx hb dX9_feed_99 rfl (lv_at hl 1 rfl) ?_
            refine lv_dup hx hb dX9_feed_100 rfl ?_
            refine va_get (D := D) (ci := 9) (v := .int (nI (t0 + i))) (C := RX9) (T := TX9) (N := 34) hx hb hts hinX9 hown hK hP 0 rfl rfl 2 (by decide) (hts (.fieldLink RX9 83 "TaleReaderModel" "taped" "I") (uc8 _ (List.mem_of_getElem? (i := 13) rfl))) (fun _ h9 => h9) rfl dX9_feed_101 ?_
            refine lv_iconst (v := 1) hx hb dX9_feed_104 (by decide) ?_
            refine lv_iadd hx hb dX9_feed_105 ?_
            refine lv_topi (fun z_63 ez_63 => ?_)
            obtain rfl : z_63 = nI (t0 + i + 1) := ez_63.trans (nI_add (t0 + i) 1)
            refine va_put (D := D) (ci := 9) (v := .int (nI (t0 + i + 1))) (ty := .int) (C := RX9) (T := TX9) (N := 34) hx hb hts hinX9 tyX9 tyX9_ok nmX9 hown hK hP hD hS 0 rfl rfl 2 (by decide) (hts (.fieldLink RX9 83 "TaleReaderModel" "taped" "I") (uc8 _ (List.mem_of_getElem? (i := 13) rfl))) (fun _ h9 => h9) rfl (by decide +kernel) rfl rfl (Nat.le_of_ble_eq_true rfl) dX9_feed_106 (fun H_64 L_65 hP hD hS => ?_)
            have hP : va_P D vwCl [(h0, .inr (9, [.ref b0, .ref b1, .int (nI (t0 + i + 1)), .int (nI tl), .int (nI wn), .int sp, .ref b6, .ref b7, .ref b8, .ref b9, .int (nI dn), .ref b11, .ref b12, .ref b13, .int (nI mn), .int (nI pn), .int db, .int ct, .ref b18, .ref b19, .ref b20, .ref b21, .ref b22, .ref b23, .ref b24, .ref b25, .ref b26, .ref b27, .ref b28, .ref b29, .ref b30, .int (nI qn), .ref b32, .ref b33])), (b0, .inl (cI, 600, .inl g_62))] H_64 := hP
            have hD : va_D A [(h0, .inr (9, [.ref b0, .ref b1, .int (nI (t0 + i + 1)), .int (nI tl), .int (nI wn), .int sp, .ref b6, .ref b7, .ref b8, .ref b9, .int (nI dn), .ref b11, .ref b12, .ref b13, .int (nI mn), .int (nI pn), .int db, .int ct, .ref b18, .ref b19, .ref b20, .ref b21, .ref b22, .ref b23, .ref b24, .ref b25, .ref b26, .ref b27, .ref b28, .ref b29, .ref b30, .int (nI qn), .ref b32, .ref b33])), (b0, .inl (cI, 600, .inl g_62))] := hD
            refine lv_iinc (v := nI (i + 1)) (lv' := [(6, .int (nI (i + 1))), (7, .int x1), (0, .ref h0), (1, .int x1), (2, .int x2), (3, .int x3), (4, .int x4), (5, .int x5)]) hx hb dX9_feed_109 hl (k := 7) rfl (nI_add i 1) (by decide) rfl (fun ls hl => ?_)
            refine lv_goto (tgt := 18) hx hb dX9_feed_112 (by decide) ?_
            exact ih_4 (i + 1) g_62 (by first | assumption | exact Or.inl rfl | exact Or.inr rfl | omega) (by omega) H_64 _ ls (hP.sub (ws' := [(h0, .inr (9, [.ref b0, .ref b1, .int (nI (t0 + i + 1)), .int (nI tl), .int (nI wn), .int sp, .ref b6, .ref b7, .ref b8, .ref b9, .int (nI dn), .ref b11, .ref b12, .ref b13, .int (nI mn), .int (nI pn), .int db, .int ct, .ref b18, .ref b19, .ref b20, .ref b21, .ref b22, .ref b23, .ref b24, .ref b25, .ref b26, .ref b27, .ref b28, .ref b29, .ref b30, .int (nI qn), .ref b32, .ref b33])), (b0, .inl (cI, 600, .inl g_62))]) [0, 1] rfl) (hD.sub (ws' := [(h0, .inr (9, [.ref b0, .ref b1, .int (nI (t0 + i + 1)), .int (nI tl), .int (nI wn), .int sp, .ref b6, .ref b7, .ref b8, .ref b9, .int (nI dn), .ref b11, .ref b12, .ref b13, .int (nI mn), .int (nI pn), .int db, .int ct, .ref b18, .ref b19, .ref b20, .ref b21, .ref b22, .ref b23, .ref b24, .ref b25, .ref b26, .ref b27, .ref b28, .ref b29, .ref b30, .int (nI qn), .ref b32, .ref b33])), (b0, .inl (cI, 600, .inl g_62))]) [0, 1] (by decide) rfl) hS (lv_sub hl [2, 3, 4, 5, 6, 7, 0] rfl)
    exact loop_3 _ 0 a_tape (by first | assumption | exact Or.inl rfl | exact Or.inr rfl | omega) (Nat.lt_succ_self _) s.heap _ ls (hP.sub (ws' := [(h0, .inr (9, [.ref b0, .ref b1, .int (nI t0), .int (nI tl), .int (nI wn), .int sp, .ref b6, .ref b7, .ref b8, .ref b9, .int (nI dn), .ref b11, .ref b12, .ref b13, .int (nI mn), .int (nI pn), .int db, .int ct, .ref b18, .ref b19, .ref b20, .ref b21, .ref b22, .ref b23, .ref b24, .ref b25, .ref b26, .ref b27, .ref b28, .ref b29, .ref b30, .int (nI qn), .ref b32, .ref b33])), (b0, .inl (cI, 600, .inl a_tape))]) [0, 1] rfl) (hD.sub (ws' := [(h0, .inr (9, [.ref b0, .ref b1, .int (nI t0), .int (nI tl), .int (nI wn), .int sp, .ref b6, .ref b7, .ref b8, .ref b9, .int (nI dn), .ref b11, .ref b12, .ref b13, .int (nI mn), .int (nI pn), .int db, .int ct, .ref b18, .ref b19, .ref b20, .ref b21, .ref b22, .ref b23, .ref b24, .ref b25, .ref b26, .ref b27, .ref b28, .ref b29, .ref b30, .int (nI qn), .ref b32, .ref b33])), (b0, .inl (cI, 600, .inl a_tape))]) [0, 1] (by decide) rfl) hS (lv_sub hl [1, 2, 3, 4, 5, 6, 0] rfl)
  · have h20 : ¬ t0 + 20 ≤ 600 := fun q => c_2 (nI_le (b := 600) q (by omega))
    refine lv_iconst (v := (-1)) hx hb dX9_feed_13 (by decide) ?_
    have hP9 := hP.sub (ws' := [(h0, .inr (9, [.ref b0, .ref b1, .int (nI t0), .int (nI tl), .int (nI wn), .int sp, .ref b6, .ref b7, .ref b8, .ref b9, .int (nI dn), .ref b11, .ref b12, .ref b13, .int (nI mn), .int (nI pn), .int db, .int ct, .ref b18, .ref b19, .ref b20, .ref b21, .ref b22, .ref b23, .ref b24, .ref b25, .ref b26, .ref b27, .ref b28, .ref b29, .ref b30, .int (nI qn), .ref b32, .ref b33])), (b0, .inl (cI, 600, .inl a_tape))]) [0, 1] rfl
    have hD9 := hD.sub (ws' := [(h0, .inr (9, [.ref b0, .ref b1, .int (nI t0), .int (nI tl), .int (nI wn), .int sp, .ref b6, .ref b7, .ref b8, .ref b9, .int (nI dn), .ref b11, .ref b12, .ref b13, .int (nI mn), .int (nI pn), .int db, .int ct, .ref b18, .ref b19, .ref b20, .ref b21, .ref b22, .ref b23, .ref b24, .ref b25, .ref b26, .ref b27, .ref b28, .ref b29, .ref b30, .int (nI qn), .ref b32, .ref b33])), (b0, .inl (cI, 600, .inl a_tape))]) [0, 1] (by decide) rfl
    rw [← hQ]
    exact W.iret (v := (-1)) hx hb hr (fun t ht hW => ⟨⟨(-1), (t0, a_tape), rfl, Or.inl (⟨rfl, h20, rfl, rfl⟩), ⟨by rw [ht]; exact hP9, va_K.moved hW.alike hK, hD9⟩⟩, hS.F ht⟩) hS.2.2 dX9_feed_14
set_option maxHeartbeats 4000000 in
set_option maxRecDepth 100000 in
theorem m_end (l : Launch) (D : va_G) (cB cI cZ : ClassId) (E : pEt) (sz : Nat) (h0 : Nat) (x : Int32) (b0 : Nat) (b1 : Nat) (vt : Int32) (tl : Nat) (wn : Nat) (sp : Int32) (b6 : Nat) (b7 : Nat) (b8 : Nat) (b9 : Nat) (dn : Nat) (b11 : Nat) (b12 : Nat) (b13 : Nat) (mn : Nat) (pn : Nat) (db : Int32) (ct : Int32) (b18 : Nat) (b19 : Nat) (b20 : Nat) (b21 : Nat) (b22 : Nat) (b23 : Nat) (b24 : Nat) (b25 : Nat) (b26 : Nat) (b27 : Nat) (b28 : Nat) (b29 : Nat) (b30 : Nat) (qn : Nat) (b32 : Nat) (b33 : Nat) : Met l yX9_end (.code yX9_end cX9_end 2 (some .boolean) :: wsL_law) ({ frames := 1, cells := 0, slots := 0, locals := 22 } : Room) (va_Pc [.ref h0, .int x] (pInE E D (pT cB cI cZ) sz [(h0, .inr (9, [.ref b0, .ref b1, .int vt, .int (nI tl), .int (nI wn), .int sp, .ref b6, .ref b7, .ref b8, .ref b9, .int (nI dn), .ref b11, .ref b12, .ref b13, .int (nI mn), .int (nI pn), .int db, .int ct, .ref b18, .ref b19, .ref b20, .ref b21, .ref b22, .ref b23, .ref b24, .ref b25, .ref b26, .ref b27, .ref b28, .ref b29, .ref b30, .int (nI qn), .ref b32, .ref b33]))])) (va_Qi (fun (r : Int32) (u : Int32) => ((0 = r) ∧ (vt = u) ∧ (x < 0 ∨ vt < x)) ∨ ((1 = r) ∧ (x = u) ∧ (¬ x < 0) ∧ (¬ vt < x))) (fun (u : Int32) (t : State) => pAt D (pT cB cI cZ) (va_A [(h0, .inr (9, [.ref b0, .ref b1, .int vt, .int (nI tl), .int (nI wn), .int sp, .ref b6, .ref b7, .ref b8, .ref b9, .int (nI dn), .ref b11, .ref b12, .ref b13, .int (nI mn), .int (nI pn), .int db, .int ct, .ref b18, .ref b19, .ref b20, .ref b21, .ref b22, .ref b23, .ref b24, .ref b25, .ref b26, .ref b27, .ref b28, .ref b29, .ref b30, .int (nI qn), .ref b32, .ref b33]))] sz) [(h0, .inr (9, [.ref b0, .ref b1, .int u, .int (nI tl), .int (nI wn), .int sp, .ref b6, .ref b7, .ref b8, .ref b9, .int (nI dn), .ref b11, .ref b12, .ref b13, .int (nI mn), .int (nI pn), .int db, .int ct, .ref b18, .ref b19, .ref b20, .ref b21, .ref b22, .ref b23, .ref b24, .ref b25, .ref b26, .ref b27, .ref b28, .ref b29, .ref b30, .int (nI qn), .ref b32, .ref b33]))] t) (va_A [(h0, .inr (9, [.ref b0, .ref b1, .int vt, .int (nI tl), .int (nI wn), .int sp, .ref b6, .ref b7, .ref b8, .ref b9, .int (nI dn), .ref b11, .ref b12, .ref b13, .int (nI mn), .int (nI pn), .int db, .int ct, .ref b18, .ref b19, .ref b20, .ref b21, .ref b22, .ref b23, .ref b24, .ref b25, .ref b26, .ref b27, .ref b28, .ref b29, .ref b30, .int (nI qn), .ref b32, .ref b33]))] sz)) 0 0 (va_A [(h0, .inr (9, [.ref b0, .ref b1, .int vt, .int (nI tl), .int (nI wn), .int sp, .ref b6, .ref b7, .ref b8, .ref b9, .int (nI dn), .ref b11, .ref b12, .ref b13, .int (nI mn), .int (nI pn), .int db, .int ct, .ref b18, .ref b19, .ref b20, .ref b21, .ref b22, .ref b23, .ref b24, .ref b25, .ref b26, .ref b27, .ref b28, .ref b29, .ref b30, .int (nI qn), .ref b32, .ref b33]))] sz) := by
  refine Met.ofW (cc := cX9_end) (maxL := 2) (ret := (some .boolean)) (by decide) rfl ?_
  intro p e s m args below meth cd s₁ B hml hv
  obtain ⟨rfl, hsz, hP, hK, hD0, hE⟩ := hv
  have hx := B.exec
  have hb := B.bytes
  have hr := B.returns
  have hts0 := atoms_spec (ws := .code yX9_end cX9_end 2 (some .boolean) :: wsL_law) B.pre
  have hts := fun (w : Cond) (h : w ∈ wsL_law) => hts0 w (List.mem_cons_of_mem _ h)
  have hown : s.vm.findClass RX9 = some m.cls := findClass_of_methodNamed B.named
  have hlocks := B.notSynchronized
  have hinX9 := inlX9
  subst hsz
  have hD := hD0.self (sz := s.heap.size)
  generalize hAe : va_A [(h0, .inr (9, [.ref b0, .ref b1, .int vt, .int (nI tl), .int (nI wn), .int sp, .ref b6, .ref b7, .ref b8, .ref b9, .int (nI dn), .ref b11, .ref b12, .ref b13, .int (nI mn), .int (nI pn), .int db, .int ct, .ref b18, .ref b19, .ref b20, .ref b21, .ref b22, .ref b23, .ref b24, .ref b25, .ref b26, .ref b27, .ref b28, .ref b29, .ref b30, .int (nI qn), .ref b32, .ref b33]))] s.heap.size = A at hD hE ⊢
  have hA : ∀ q : Nat, s.heap.size ≤ q → A q := fun q h => by rw [← hAe]; exact Or.inr h
  have hS : va_S A s.heap s.heap [] := va_S.rf
  have hP : va_P D vwCl [(h0, .inr (9, [.ref b0, .ref b1, .int vt, .int (nI tl), .int (nI wn), .int sp, .ref b6, .ref b7, .ref b8, .ref b9, .int (nI dn), .ref b11, .ref b12, .ref b13, .int (nI mn), .int (nI pn), .int db, .int ct, .ref b18, .ref b19, .ref b20, .ref b21, .ref b22, .ref b23, .ref b24, .ref b25, .ref b26, .ref b27, .ref b28, .ref b29, .ref b30, .int (nI qn), .ref b32, .ref b33]))] s.heap := hP
  have hl := lv_entry ([.ref h0, .int x]) (n := 2) (Nat.le_of_ble_eq_true rfl)
  rw [lg_entry_eq]
  generalize (lg_sl ([.ref h0, .int x]) ++ List.replicate (2 - (lg_sl ([.ref h0, .int x])).length) Slot.unset).toArray = ls at hl ⊢
  have hl : lv_has ls 2 [(0, .ref h0), (1, .int x)] := hl
  refine lv_iload_n hx hb dX9_end_0 rfl (lv_at hl 1 rfl) ?_
  refine lv_iconst (v := 0) hx hb dX9_end_1 (by decide) ?_
  refine lv_aload_n hx hb dX9_end_2 rfl (lv_at hl 0 rfl) ?_
  refine va_get (D := D) (ci := 9) (v := .int vt) (C := RX9) (T := TX9) (N := 34) hx hb hts hinX9 hown hK hP 0 rfl rfl 2 (by decide) (hts (.fieldLink RX9 83 "TaleReaderModel" "taped" "I") (uc8 _ (List.mem_of_getElem? (i := 13) rfl))) (fun _ h9 => h9) rfl dX9_end_3 ?_
  have hPc := hP.sub (ws' := []) [] rfl
  have hDc := hD.sub (ws' := []) [] (by decide) rfl
  have hFc := va_free (wc := []) hD hS hA [] rfl
  refine va_calli (va_runS (As := [.int x, .int 0, .int vt]) (rest := []) ⟨hx, hb, hml, hown, hts⟩ (m_isIn l D cB cI cZ E s.heap.size x 0 vt) (va_cwS 3 hts (uS (uc9 _ (List.mem_of_getElem? (i := 2) rfl)) (uc9 _ (List.mem_of_getElem? (i := 3) rfl)) (uc1 _ (List.mem_of_getElem? (i := 5) rfl)) (uc9 _ (List.mem_of_getElem? (i := 4) rfl))) rfl rfl rfl (by decide +kernel) ⟨Nat.le_of_ble_eq_true rfl, Nat.le_of_ble_eq_true rfl⟩) (pSE hE hS hFc hK hPc hDc) rfl rfl hl.1 rfl (lv_room (Nat.le_of_ble_eq_true rfl)) dX9_end_6 ⟨Nat.le_of_ble_eq_true rfl, Nat.le_of_ble_eq_true rfl⟩) hS (fun q _ h => hFc q h) hFc (fun r_1 u t H_2 L_3 ht hvm hw hB hz1 hk1 hS => ?_)
  obtain ⟨hP1, -, hD1⟩ := hB
  rw [ht] at hP1
  obtain ⟨hP, hD⟩ := va_join (wr := [(h0, .inr (9, [.ref b0, .ref b1, .int vt, .int (nI tl), .int (nI wn), .int sp, .ref b6, .ref b7, .ref b8, .ref b9, .int (nI dn), .ref b11, .ref b12, .ref b13, .int (nI mn), .int (nI pn), .int db, .int ct, .ref b18, .ref b19, .ref b20, .ref b21, .ref b22, .ref b23, .ref b24, .ref b25, .ref b26, .ref b27, .ref b28, .ref b29, .ref b30, .int (nI qn), .ref b32, .ref b33]))]) (w1 := []) hP hD [] [0] rfl rfl (by decide) (by decide) hk1 hFc hP1 hD1
  have hP : va_P D vwCl [(h0, .inr (9, [.ref b0, .ref b1, .int vt, .int (nI tl), .int (nI wn), .int sp, .ref b6, .ref b7, .ref b8, .ref b9, .int (nI dn), .ref b11, .ref b12, .ref b13, .int (nI mn), .int (nI pn), .int db, .int ct, .ref b18, .ref b19, .ref b20, .ref b21, .ref b22, .ref b23, .ref b24, .ref b25, .ref b26, .ref b27, .ref b28, .ref b29, .ref b30, .int (nI qn), .ref b32, .ref b33]))] H_2 := hP.sub [0] rfl
  have hD : va_D A [(h0, .inr (9, [.ref b0, .ref b1, .int vt, .int (nI tl), .int (nI wn), .int sp, .ref b6, .ref b7, .ref b8, .ref b9, .int (nI dn), .ref b11, .ref b12, .ref b13, .int (nI mn), .int (nI pn), .int db, .int ct, .ref b18, .ref b19, .ref b20, .ref b21, .ref b22, .ref b23, .ref b24, .ref b25, .ref b26, .ref b27, .ref b28, .ref b29, .ref b30, .int (nI qn), .ref b32, .ref b33]))] := hD.sub [0] (by decide) rfl
  try dsimp only at hw
  rcases hw with ⟨rfl, h_4⟩ | ⟨rfl, h_5, h_6⟩
  · refine lv_if_ne (tgt := 14) hx hb dX9_end_9 (by decide) (fun c_7 => ?_) (fun c_7 => ?_)
    · exact False.elim (by revert c_7; decide)
    · refine lv_iconst (v := 0) hx hb dX9_end_12 (by decide) ?_
      have hP9 := hP.sub (ws' := [(h0, .inr (9, [.ref b0, .ref b1, .int vt, .int (nI tl), .int (nI wn), .int sp, .ref b6, .ref b7, .ref b8, .ref b9, .int (nI dn), .ref b11, .ref b12, .ref b13, .int (nI mn), .int (nI pn), .int db, .int ct, .ref b18, .ref b19, .ref b20, .ref b21, .ref b22, .ref b23, .ref b24, .ref b25, .ref b26, .ref b27, .ref b28, .ref b29, .ref b30, .int (nI qn), .ref b32, .ref b33]))]) [0] rfl
      have hD9 := hD.sub (ws' := [(h0, .inr (9, [.ref b0, .ref b1, .int vt, .int (nI tl), .int (nI wn), .int sp, .ref b6, .ref b7, .ref b8, .ref b9, .int (nI dn), .ref b11, .ref b12, .ref b13, .int (nI mn), .int (nI pn), .int db, .int ct, .ref b18, .ref b19, .ref b20, .ref b21, .ref b22, .ref b23, .ref b24, .ref b25, .ref b26, .ref b27, .ref b28, .ref b29, .ref b30, .int (nI qn), .ref b32, .ref b33]))]) [0] (by decide) rfl
      exact W.zret (v := 0) hx hb hr (rfl) (fun t ht hW => ⟨⟨0, vt, rfl, Or.inl (⟨rfl, rfl, by assumption⟩), ⟨by rw [ht]; exact hP9, va_K.moved hW.alike hK, hD9⟩⟩, hS.F ht⟩) hS.2.2 dX9_end_13
  · refine lv_if_ne (tgt := 14) hx hb dX9_end_9 (by decide) (fun c_8 => ?_) (fun c_8 => ?_)
    · refine lv_aload_n hx hb dX9_end_14 rfl (lv_at hl 0 rfl) ?_
      refine lv_iload_n hx hb dX9_end_15 rfl (lv_at hl 1 rfl) ?_
      refine va_put (D := D) (ci := 9) (v := .int x) (ty := .int) (C := RX9) (T := TX9) (N := 34) hx hb hts hinX9 tyX9 tyX9_ok nmX9 hown hK hP hD hS 0 rfl rfl 2 (by decide) (hts (.fieldLink RX9 83 "TaleReaderModel" "taped" "I") (uc8 _ (List.mem_of_getElem? (i := 13) rfl))) (fun _ h9 => h9) rfl (by decide +kernel) rfl rfl (Nat.le_of_ble_eq_true rfl) dX9_end_16 (fun H_9 L_10 hP hD hS => ?_)
      have hP : va_P D vwCl [(h0, .inr (9, [.ref b0, .ref b1, .int x, .int (nI tl), .int (nI wn), .int sp, .ref b6, .ref b7, .ref b8, .ref b9, .int (nI dn), .ref b11, .ref b12, .ref b13, .int (nI mn), .int (nI pn), .int db, .int ct, .ref b18, .ref b19, .ref b20, .ref b21, .ref b22, .ref b23, .ref b24, .ref b25, .ref b26, .ref b27, .ref b28, .ref b29, .ref b30, .int (nI qn), .ref b32, .ref b33]))] H_9 := hP
      have hD : va_D A [(h0, .inr (9, [.ref b0, .ref b1, .int x, .int (nI tl), .int (nI wn), .int sp, .ref b6, .ref b7, .ref b8, .ref b9, .int (nI dn), .ref b11, .ref b12, .ref b13, .int (nI mn), .int (nI pn), .int db, .int ct, .ref b18, .ref b19, .ref b20, .ref b21, .ref b22, .ref b23, .ref b24, .ref b25, .ref b26, .ref b27, .ref b28, .ref b29, .ref b30, .int (nI qn), .ref b32, .ref b33]))] := hD
      refine lv_iconst (v := 1) hx hb dX9_end_19 (by decide) ?_
      have hP9 := hP.sub (ws' := [(h0, .inr (9, [.ref b0, .ref b1, .int x, .int (nI tl), .int (nI wn), .int sp, .ref b6, .ref b7, .ref b8, .ref b9, .int (nI dn), .ref b11, .ref b12, .ref b13, .int (nI mn), .int (nI pn), .int db, .int ct, .ref b18, .ref b19, .ref b20, .ref b21, .ref b22, .ref b23, .ref b24, .ref b25, .ref b26, .ref b27, .ref b28, .ref b29, .ref b30, .int (nI qn), .ref b32, .ref b33]))]) [0] rfl
      have hD9 := hD.sub (ws' := [(h0, .inr (9, [.ref b0, .ref b1, .int x, .int (nI tl), .int (nI wn), .int sp, .ref b6, .ref b7, .ref b8, .ref b9, .int (nI dn), .ref b11, .ref b12, .ref b13, .int (nI mn), .int (nI pn), .int db, .int ct, .ref b18, .ref b19, .ref b20, .ref b21, .ref b22, .ref b23, .ref b24, .ref b25, .ref b26, .ref b27, .ref b28, .ref b29, .ref b30, .int (nI qn), .ref b32, .ref b33]))]) [0] (by decide) rfl
      exact W.zret (v := 1) hx hb hr (rfl) (fun t ht hW => ⟨⟨1, x, rfl, Or.inr ((⟨rfl, rfl, by assumption, by assumption⟩)), ⟨by rw [ht]; exact hP9, va_K.moved hW.alike hK, hD9⟩⟩, hS.F ht⟩) hS.2.2 dX9_end_20
    · exact False.elim (by revert c_8; decide)
set_option maxHeartbeats 4000000 in
set_option maxRecDepth 100000 in
theorem m_isMention (l : Launch) (D : va_G) (cB cI cZ : ClassId) (E : pEt) (sz : Nat) (h0 : Nat) (x : Int32) (b0 : Nat) (b1 : Nat) (t0 : Nat) (tl : Nat) (wn : Nat) (sp : Int32) (b6 : Nat) (b7 : Nat) (b8 : Nat) (b9 : Nat) (dn : Nat) (b11 : Nat) (b12 : Nat) (b13 : Nat) (mn : Nat) (pn : Nat) (db : Int32) (ct : Int32) (b18 : Nat) (b19 : Nat) (b20 : Nat) (b21 : Nat) (b22 : Nat) (b23 : Nat) (b24 : Nat) (b25 : Nat) (b26 : Nat) (b27 : Nat) (b28 : Nat) (b29 : Nat) (b30 : Nat) (qn : Nat) (b32 : Nat) (b33 : Nat) (hnn : mn ≤ 300) : Met l yX9_isMention (.code yX9_isMention cX9_isMention 2 (some .boolean) :: wsL_law) ({ frames := 1, cells := 0, slots := 0, locals := 22 } : Room) (va_Pc [.ref h0, .int x] (pInE E D (pT cB cI cZ) sz [(h0, .inr (9, [.ref b0, .ref b1, .int (nI t0), .int (nI tl), .int (nI wn), .int sp, .ref b6, .ref b7, .ref b8, .ref b9, .int (nI dn), .ref b11, .ref b12, .ref b13, .int (nI mn), .int (nI pn), .int db, .int ct, .ref b18, .ref b19, .ref b20, .ref b21, .ref b22, .ref b23, .ref b24, .ref b25, .ref b26, .ref b27, .ref b28, .ref b29, .ref b30, .int (nI qn), .ref b32, .ref b33]))])) (va_Qi (fun (r : Int32) (u : Unit) => (0 = r) ∨ ((1 = r) ∧ (∃ j : Nat, j < mn ∧ x = nI j))) (fun (u : Unit) (t : State) => pAt D (pT cB cI cZ) (va_A [(h0, .inr (9, [.ref b0, .ref b1, .int (nI t0), .int (nI tl), .int (nI wn), .int sp, .ref b6, .ref b7, .ref b8, .ref b9, .int (nI dn), .ref b11, .ref b12, .ref b13, .int (nI mn), .int (nI pn), .int db, .int ct, .ref b18, .ref b19, .ref b20, .ref b21, .ref b22, .ref b23, .ref b24, .ref b25, .ref b26, .ref b27, .ref b28, .ref b29, .ref b30, .int (nI qn), .ref b32, .ref b33]))] sz) [(h0, .inr (9, [.ref b0, .ref b1, .int (nI t0), .int (nI tl), .int (nI wn), .int sp, .ref b6, .ref b7, .ref b8, .ref b9, .int (nI dn), .ref b11, .ref b12, .ref b13, .int (nI mn), .int (nI pn), .int db, .int ct, .ref b18, .ref b19, .ref b20, .ref b21, .ref b22, .ref b23, .ref b24, .ref b25, .ref b26, .ref b27, .ref b28, .ref b29, .ref b30, .int (nI qn), .ref b32, .ref b33]))] t) (va_A [(h0, .inr (9, [.ref b0, .ref b1, .int (nI t0), .int (nI tl), .int (nI wn), .int sp, .ref b6, .ref b7, .ref b8, .ref b9, .int (nI dn), .ref b11, .ref b12, .ref b13, .int (nI mn), .int (nI pn), .int db, .int ct, .ref b18, .ref b19, .ref b20, .ref b21, .ref b22, .ref b23, .ref b24, .ref b25, .ref b26, .ref b27, .ref b28, .ref b29, .ref b30, .int (nI qn), .ref b32, .ref b33]))] sz)) 0 0 (va_A [(h0, .inr (9, [.ref b0, .ref b1, .int (nI t0), .int (nI tl), .int (nI wn), .int sp, .ref b6, .ref b7, .ref b8, .ref b9, .int (nI dn), .ref b11, .ref b12, .ref b13, .int (nI mn), .int (nI pn), .int db, .int ct, .ref b18, .ref b19, .ref b20, .ref b21, .ref b22, .ref b23, .ref b24, .ref b25, .ref b26, .ref b27, .ref b28, .ref b29, .ref b30, .int (nI qn), .ref b32, .ref b33]))] sz) := by
  refine Met.ofW (cc := cX9_isMention) (maxL := 2) (ret := (some .boolean)) (by decide) rfl ?_
  intro p e s m args below meth cd s₁ B hml hv
  obtain ⟨rfl, hsz, hP, hK, hD0, hE⟩ := hv
  have hx := B.exec
  have hb := B.bytes
  have hr := B.returns
  have hts0 := atoms_spec (ws := .code yX9_isMention cX9_isMention 2 (some .boolean) :: wsL_law) B.pre
  have hts := fun (w : Cond) (h : w ∈ wsL_law) => hts0 w (List.mem_cons_of_mem _ h)
  have hown : s.vm.findClass RX9 = some m.cls := findClass_of_methodNamed B.named
  have hlocks := B.notSynchronized
  have hinX9 := inlX9
  subst hsz
  have hD := hD0.self (sz := s.heap.size)
  generalize hAe : va_A [(h0, .inr (9, [.ref b0, .ref b1, .int (nI t0), .int (nI tl), .int (nI wn), .int sp, .ref b6, .ref b7, .ref b8, .ref b9, .int (nI dn), .ref b11, .ref b12, .ref b13, .int (nI mn), .int (nI pn), .int db, .int ct, .ref b18, .ref b19, .ref b20, .ref b21, .ref b22, .ref b23, .ref b24, .ref b25, .ref b26, .ref b27, .ref b28, .ref b29, .ref b30, .int (nI qn), .ref b32, .ref b33]))] s.heap.size = A at hD hE ⊢
  have hA : ∀ q : Nat, s.heap.size ≤ q → A q := fun q h => by rw [← hAe]; exact Or.inr h
  have hS : va_S A s.heap s.heap [] := va_S.rf
  have hP : va_P D vwCl [(h0, .inr (9, [.ref b0, .ref b1, .int (nI t0), .int (nI tl), .int (nI wn), .int sp, .ref b6, .ref b7, .ref b8, .ref b9, .int (nI dn), .ref b11, .ref b12, .ref b13, .int (nI mn), .int (nI pn), .int db, .int ct, .ref b18, .ref b19, .ref b20, .ref b21, .ref b22, .ref b23, .ref b24, .ref b25, .ref b26, .ref b27, .ref b28, .ref b29, .ref b30, .int (nI qn), .ref b32, .ref b33]))] s.heap := hP
  have hl := lv_entry ([.ref h0, .int x]) (n := 2) (Nat.le_of_ble_eq_true rfl)
  rw [lg_entry_eq]
  generalize (lg_sl ([.ref h0, .int x]) ++ List.replicate (2 - (lg_sl ([.ref h0, .int x])).length) Slot.unset).toArray = ls at hl ⊢
  have hl : lv_has ls 2 [(0, .ref h0), (1, .int x)] := hl
  refine lv_iload_n hx hb dX9_isMention_0 rfl (lv_at hl 1 rfl) ?_
  refine lv_iconst (v := 0) hx hb dX9_isMention_1 (by decide) ?_
  refine lv_aload_n hx hb dX9_isMention_2 rfl (lv_at hl 0 rfl) ?_
  refine va_get (D := D) (ci := 9) (v := .int (nI mn)) (C := RX9) (T := TX9) (N := 34) hx hb hts hinX9 hown hK hP 0 rfl rfl 14 (by decide) (hts (.fieldLink RX9 157 "TaleReaderModel" "mentions" "I") (uc25 _ (List.mem_of_getElem? (i := 8) rfl))) (fun _ h9 => h9) rfl dX9_isMention_3 ?_
  refine lv_iconst (v := 1) hx hb dX9_isMention_6 (by decide) ?_
  refine lv_isub hx hb dX9_isMention_7 ?_
  refine lv_topi (fun z_1 ez_1 => ?_)
  obtain rfl : z_1 = nI mn - 1 := ez_1.trans (rfl)
  have hPc := hP.sub (ws' := []) [] rfl
  have hDc := hD.sub (ws' := []) [] (by decide) rfl
  have hFc := va_free (wc := []) hD hS hA [] rfl
  refine va_calli (va_runS (As := [.int x, .int 0, .int (nI mn - 1)]) (rest := []) ⟨hx, hb, hml, hown, hts⟩ (m_isIn l D cB cI cZ E s.heap.size x 0 (nI mn - 1)) (va_cwS 3 hts (uS (uc9 _ (List.mem_of_getElem? (i := 2) rfl)) (uc9 _ (List.mem_of_getElem? (i := 3) rfl)) (uc1 _ (List.mem_of_getElem? (i := 5) rfl)) (uc9 _ (List.mem_of_getElem? (i := 4) rfl))) rfl rfl rfl (by decide +kernel) ⟨Nat.le_of_ble_eq_true rfl, Nat.le_of_ble_eq_true rfl⟩) (pSE hE hS hFc hK hPc hDc) rfl rfl hl.1 rfl (lv_room (Nat.le_of_ble_eq_true rfl)) dX9_isMention_8 ⟨Nat.le_of_ble_eq_true rfl, Nat.le_of_ble_eq_true rfl⟩) hS (fun q _ h => hFc q h) hFc (fun r_2 u t H_3 L_4 ht hvm hw hB hz1 hk1 hS => ?_)
  obtain ⟨hP1, -, hD1⟩ := hB
  rw [ht] at hP1
  obtain ⟨hP, hD⟩ := va_join (wr := [(h0, .inr (9, [.ref b0, .ref b1, .int (nI t0), .int (nI tl), .int (nI wn), .int sp, .ref b6, .ref b7, .ref b8, .ref b9, .int (nI dn), .ref b11, .ref b12, .ref b13, .int (nI mn), .int (nI pn), .int db, .int ct, .ref b18, .ref b19, .ref b20, .ref b21, .ref b22, .ref b23, .ref b24, .ref b25, .ref b26, .ref b27, .ref b28, .ref b29, .ref b30, .int (nI qn), .ref b32, .ref b33]))]) (w1 := []) hP hD [] [0] rfl rfl (by decide) (by decide) hk1 hFc hP1 hD1
  have hP : va_P D vwCl [(h0, .inr (9, [.ref b0, .ref b1, .int (nI t0), .int (nI tl), .int (nI wn), .int sp, .ref b6, .ref b7, .ref b8, .ref b9, .int (nI dn), .ref b11, .ref b12, .ref b13, .int (nI mn), .int (nI pn), .int db, .int ct, .ref b18, .ref b19, .ref b20, .ref b21, .ref b22, .ref b23, .ref b24, .ref b25, .ref b26, .ref b27, .ref b28, .ref b29, .ref b30, .int (nI qn), .ref b32, .ref b33]))] H_3 := hP.sub [0] rfl
  have hD : va_D A [(h0, .inr (9, [.ref b0, .ref b1, .int (nI t0), .int (nI tl), .int (nI wn), .int sp, .ref b6, .ref b7, .ref b8, .ref b9, .int (nI dn), .ref b11, .ref b12, .ref b13, .int (nI mn), .int (nI pn), .int db, .int ct, .ref b18, .ref b19, .ref b20, .ref b21, .ref b22, .ref b23, .ref b24, .ref b25, .ref b26, .ref b27, .ref b28, .ref b29, .ref b30, .int (nI qn), .ref b32, .ref b33]))] := hD.sub [0] (by decide) rfl
  try dsimp only at hw
  rcases hw with ⟨rfl, h_5⟩ | ⟨rfl, h_6, h_7⟩
  · have hP9 := hP.sub (ws' := [(h0, .inr (9, [.ref b0, .ref b1, .int (nI t0), .int (nI tl), .int (nI wn), .int sp, .ref b6, .ref b7, .ref b8, .ref b9, .int (nI dn), .ref b11, .ref b12, .ref b13, .int (nI mn), .int (nI pn), .int db, .int ct, .ref b18, .ref b19, .ref b20, .ref b21, .ref b22, .ref b23, .ref b24, .ref b25, .ref b26, .ref b27, .ref b28, .ref b29, .ref b30, .int (nI qn), .ref b32, .ref b33]))]) [0] rfl
    have hD9 := hD.sub (ws' := [(h0, .inr (9, [.ref b0, .ref b1, .int (nI t0), .int (nI tl), .int (nI wn), .int sp, .ref b6, .ref b7, .ref b8, .ref b9, .int (nI dn), .ref b11, .ref b12, .ref b13, .int (nI mn), .int (nI pn), .int db, .int ct, .ref b18, .ref b19, .ref b20, .ref b21, .ref b22, .ref b23, .ref b24, .ref b25, .ref b26, .ref b27, .ref b28, .ref b29, .ref b30, .int (nI qn), .ref b32, .ref b33]))]) [0] (by decide) rfl
    exact W.zret (v := 0) hx hb hr (rfl) (fun t ht hW => ⟨⟨0, (), rfl, Or.inl (rfl), ⟨by rw [ht]; exact hP9, va_K.moved hW.alike hK, hD9⟩⟩, hS.F ht⟩) hS.2.2 dX9_isMention_11
  · have hix := mIx h_6 h_7 hnn
    have hP9 := hP.sub (ws' := [(h0, .inr (9, [.ref b0, .ref b1, .int (nI t0), .int (nI tl), .int (nI wn), .int sp, .ref b6, .ref b7, .ref b8, .ref b9, .int (nI dn), .ref b11, .ref b12, .ref b13, .int (nI mn), .int (nI pn), .int db, .int ct, .ref b18, .ref b19, .ref b20, .ref b21, .ref b22, .ref b23, .ref b24, .ref b25, .ref b26, .ref b27, .ref b28, .ref b29, .ref b30, .int (nI qn), .ref b32, .ref b33]))]) [0] rfl
    have hD9 := hD.sub (ws' := [(h0, .inr (9, [.ref b0, .ref b1, .int (nI t0), .int (nI tl), .int (nI wn), .int sp, .ref b6, .ref b7, .ref b8, .ref b9, .int (nI dn), .ref b11, .ref b12, .ref b13, .int (nI mn), .int (nI pn), .int db, .int ct, .ref b18, .ref b19, .ref b20, .ref b21, .ref b22, .ref b23, .ref b24, .ref b25, .ref b26, .ref b27, .ref b28, .ref b29, .ref b30, .int (nI qn), .ref b32, .ref b33]))]) [0] (by decide) rfl
    exact W.zret (v := 1) hx hb hr (rfl) (fun t ht hW => ⟨⟨1, (), rfl, Or.inr ((⟨rfl, hix⟩)), ⟨by rw [ht]; exact hP9, va_K.moved hW.alike hK, hD9⟩⟩, hS.F ht⟩) hS.2.2 dX9_isMention_11
set_option maxHeartbeats 4000000 in
set_option maxRecDepth 100000 in
theorem m_isPerson (l : Launch) (D : va_G) (cB cI cZ : ClassId) (E : pEt) (sz : Nat) (h0 : Nat) (x : Int32) (b0 : Nat) (b1 : Nat) (t0 : Nat) (tl : Nat) (wn : Nat) (sp : Int32) (b6 : Nat) (b7 : Nat) (b8 : Nat) (b9 : Nat) (dn : Nat) (b11 : Nat) (b12 : Nat) (b13 : Nat) (mn : Nat) (pn : Nat) (db : Int32) (ct : Int32) (b18 : Nat) (b19 : Nat) (b20 : Nat) (b21 : Nat) (b22 : Nat) (b23 : Nat) (b24 : Nat) (b25 : Nat) (b26 : Nat) (b27 : Nat) (b28 : Nat) (b29 : Nat) (b30 : Nat) (qn : Nat) (b32 : Nat) (b33 : Nat) (hnn : pn ≤ 300) : Met l yX9_isPerson (.code yX9_isPerson cX9_isPerson 2 (some .boolean) :: wsL_law) ({ frames := 1, cells := 0, slots := 0, locals := 22 } : Room) (va_Pc [.ref h0, .int x] (pInE E D (pT cB cI cZ) sz [(h0, .inr (9, [.ref b0, .ref b1, .int (nI t0), .int (nI tl), .int (nI wn), .int sp, .ref b6, .ref b7, .ref b8, .ref b9, .int (nI dn), .ref b11, .ref b12, .ref b13, .int (nI mn), .int (nI pn), .int db, .int ct, .ref b18, .ref b19, .ref b20, .ref b21, .ref b22, .ref b23, .ref b24, .ref b25, .ref b26, .ref b27, .ref b28, .ref b29, .ref b30, .int (nI qn), .ref b32, .ref b33]))])) (va_Qi (fun (r : Int32) (u : Unit) => (0 = r) ∨ ((1 = r) ∧ (∃ j : Nat, j < pn ∧ x = nI j))) (fun (u : Unit) (t : State) => pAt D (pT cB cI cZ) (va_A [(h0, .inr (9, [.ref b0, .ref b1, .int (nI t0), .int (nI tl), .int (nI wn), .int sp, .ref b6, .ref b7, .ref b8, .ref b9, .int (nI dn), .ref b11, .ref b12, .ref b13, .int (nI mn), .int (nI pn), .int db, .int ct, .ref b18, .ref b19, .ref b20, .ref b21, .ref b22, .ref b23, .ref b24, .ref b25, .ref b26, .ref b27, .ref b28, .ref b29, .ref b30, .int (nI qn), .ref b32, .ref b33]))] sz) [(h0, .inr (9, [.ref b0, .ref b1, .int (nI t0), .int (nI tl), .int (nI wn), .int sp, .ref b6, .ref b7, .ref b8, .ref b9, .int (nI dn), .ref b11, .ref b12, .ref b13, .int (nI mn), .int (nI pn), .int db, .int ct, .ref b18, .ref b19, .ref b20, .ref b21, .ref b22, .ref b23, .ref b24, .ref b25, .ref b26, .ref b27, .ref b28, .ref b29, .ref b30, .int (nI qn), .ref b32, .ref b33]))] t) (va_A [(h0, .inr (9, [.ref b0, .ref b1, .int (nI t0), .int (nI tl), .int (nI wn), .int sp, .ref b6, .ref b7, .ref b8, .ref b9, .int (nI dn), .ref b11, .ref b12, .ref b13, .int (nI mn), .int (nI pn), .int db, .int ct, .ref b18, .ref b19, .ref b20, .ref b21, .ref b22, .ref b23, .ref b24, .ref b25, .ref b26, .ref b27, .ref b28, .ref b29, .ref b30, .int (nI qn), .ref b32, .ref b33]))] sz)) 0 0 (va_A [(h0, .inr (9, [.ref b0, .ref b1, .int (nI t0), .int (nI tl), .int (nI wn), .int sp, .ref b6, .ref b7, .ref b8, .ref b9, .int (nI dn), .ref b11, .ref b12, .ref b13, .int (nI mn), .int (nI pn), .int db, .int ct, .ref b18, .ref b19, .ref b20, .ref b21, .ref b22, .ref b23, .ref b24, .ref b25, .ref b26, .ref b27, .ref b28, .ref b29, .ref b30, .int (nI qn), .ref b32, .ref b33]))] sz) := by
  refine Met.ofW (cc := cX9_isPerson) (maxL := 2) (ret := (some .boolean)) (by decide) rfl ?_
  intro p e s m args below meth cd s₁ B hml hv
  obtain ⟨rfl, hsz, hP, hK, hD0, hE⟩ := hv
  have hx := B.exec
  have hb := B.bytes
  have hr := B.returns
  have hts0 := atoms_spec (ws := .code yX9_isPerson cX9_isPerson 2 (some .boolean) :: wsL_law) B.pre
  have hts := fun (w : Cond) (h : w ∈ wsL_law) => hts0 w (List.mem_cons_of_mem _ h)
  have hown : s.vm.findClass RX9 = some m.cls := findClass_of_methodNamed B.named
  have hlocks := B.notSynchronized
  have hinX9 := inlX9
  subst hsz
  have hD := hD0.self (sz := s.heap.size)
  generalize hAe : va_A [(h0, .inr (9, [.ref b0, .ref b1, .int (nI t0), .int (nI tl), .int (nI wn), .int sp, .ref b6, .ref b7, .ref b8, .ref b9, .int (nI dn), .ref b11, .ref b12, .ref b13, .int (nI mn), .int (nI pn), .int db, .int ct, .ref b18, .ref b19, .ref b20, .ref b21, .ref b22, .ref b23, .ref b24, .ref b25, .ref b26, .ref b27, .ref b28, .ref b29, .ref b30, .int (nI qn), .ref b32, .ref b33]))] s.heap.size = A at hD hE ⊢
  have hA : ∀ q : Nat, s.heap.size ≤ q → A q := fun q h => by rw [← hAe]; exact Or.inr h
  have hS : va_S A s.heap s.heap [] := va_S.rf
  have hP : va_P D vwCl [(h0, .inr (9, [.ref b0, .ref b1, .int (nI t0), .int (nI tl), .int (nI wn), .int sp, .ref b6, .ref b7, .ref b8, .ref b9, .int (nI dn), .ref b11, .ref b12, .ref b13, .int (nI mn), .int (nI pn), .int db, .int ct, .ref b18, .ref b19, .ref b20, .ref b21, .ref b22, .ref b23, .ref b24, .ref b25, .ref b26, .ref b27, .ref b28, .ref b29, .ref b30, .int (nI qn), .ref b32, .ref b33]))] s.heap := hP
  have hl := lv_entry ([.ref h0, .int x]) (n := 2) (Nat.le_of_ble_eq_true rfl)
  rw [lg_entry_eq]
  generalize (lg_sl ([.ref h0, .int x]) ++ List.replicate (2 - (lg_sl ([.ref h0, .int x])).length) Slot.unset).toArray = ls at hl ⊢
  have hl : lv_has ls 2 [(0, .ref h0), (1, .int x)] := hl
  refine lv_iload_n hx hb dX9_isPerson_0 rfl (lv_at hl 1 rfl) ?_
  refine lv_iconst (v := 0) hx hb dX9_isPerson_1 (by decide) ?_
  refine lv_aload_n hx hb dX9_isPerson_2 rfl (lv_at hl 0 rfl) ?_
  refine va_get (D := D) (ci := 9) (v := .int (nI pn)) (C := RX9) (T := TX9) (N := 34) hx hb hts hinX9 hown hK hP 0 rfl rfl 15 (by decide) (hts (.fieldLink RX9 167 "TaleReaderModel" "persons" "I") (uc26 _ (List.mem_of_getElem? (i := 4) rfl))) (fun _ h9 => h9) rfl dX9_isPerson_3 ?_
  refine lv_iconst (v := 1) hx hb dX9_isPerson_6 (by decide) ?_
  refine lv_isub hx hb dX9_isPerson_7 ?_
  refine lv_topi (fun z_1 ez_1 => ?_)
  obtain rfl : z_1 = nI pn - 1 := ez_1.trans (rfl)
  have hPc := hP.sub (ws' := []) [] rfl
  have hDc := hD.sub (ws' := []) [] (by decide) rfl
  have hFc := va_free (wc := []) hD hS hA [] rfl
  refine va_calli (va_runS (As := [.int x, .int 0, .int (nI pn - 1)]) (rest := []) ⟨hx, hb, hml, hown, hts⟩ (m_isIn l D cB cI cZ E s.heap.size x 0 (nI pn - 1)) (va_cwS 3 hts (uS (uc9 _ (List.mem_of_getElem? (i := 2) rfl)) (uc9 _ (List.mem_of_getElem? (i := 3) rfl)) (uc1 _ (List.mem_of_getElem? (i := 5) rfl)) (uc9 _ (List.mem_of_getElem? (i := 4) rfl))) rfl rfl rfl (by decide +kernel) ⟨Nat.le_of_ble_eq_true rfl, Nat.le_of_ble_eq_true rfl⟩) (pSE hE hS hFc hK hPc hDc) rfl rfl hl.1 rfl (lv_room (Nat.le_of_ble_eq_true rfl)) dX9_isPerson_8 ⟨Nat.le_of_ble_eq_true rfl, Nat.le_of_ble_eq_true rfl⟩) hS (fun q _ h => hFc q h) hFc (fun r_2 u t H_3 L_4 ht hvm hw hB hz1 hk1 hS => ?_)
  obtain ⟨hP1, -, hD1⟩ := hB
  rw [ht] at hP1
  obtain ⟨hP, hD⟩ := va_join (wr := [(h0, .inr (9, [.ref b0, .ref b1, .int (nI t0), .int (nI tl), .int (nI wn), .int sp, .ref b6, .ref b7, .ref b8, .ref b9, .int (nI dn), .ref b11, .ref b12, .ref b13, .int (nI mn), .int (nI pn), .int db, .int ct, .ref b18, .ref b19, .ref b20, .ref b21, .ref b22, .ref b23, .ref b24, .ref b25, .ref b26, .ref b27, .ref b28, .ref b29, .ref b30, .int (nI qn), .ref b32, .ref b33]))]) (w1 := []) hP hD [] [0] rfl rfl (by decide) (by decide) hk1 hFc hP1 hD1
  have hP : va_P D vwCl [(h0, .inr (9, [.ref b0, .ref b1, .int (nI t0), .int (nI tl), .int (nI wn), .int sp, .ref b6, .ref b7, .ref b8, .ref b9, .int (nI dn), .ref b11, .ref b12, .ref b13, .int (nI mn), .int (nI pn), .int db, .int ct, .ref b18, .ref b19, .ref b20, .ref b21, .ref b22, .ref b23, .ref b24, .ref b25, .ref b26, .ref b27, .ref b28, .ref b29, .ref b30, .int (nI qn), .ref b32, .ref b33]))] H_3 := hP.sub [0] rfl
  have hD : va_D A [(h0, .inr (9, [.ref b0, .ref b1, .int (nI t0), .int (nI tl), .int (nI wn), .int sp, .ref b6, .ref b7, .ref b8, .ref b9, .int (nI dn), .ref b11, .ref b12, .ref b13, .int (nI mn), .int (nI pn), .int db, .int ct, .ref b18, .ref b19, .ref b20, .ref b21, .ref b22, .ref b23, .ref b24, .ref b25, .ref b26, .ref b27, .ref b28, .ref b29, .ref b30, .int (nI qn), .ref b32, .ref b33]))] := hD.sub [0] (by decide) rfl
  try dsimp only at hw
  rcases hw with ⟨rfl, h_5⟩ | ⟨rfl, h_6, h_7⟩
  · have hP9 := hP.sub (ws' := [(h0, .inr (9, [.ref b0, .ref b1, .int (nI t0), .int (nI tl), .int (nI wn), .int sp, .ref b6, .ref b7, .ref b8, .ref b9, .int (nI dn), .ref b11, .ref b12, .ref b13, .int (nI mn), .int (nI pn), .int db, .int ct, .ref b18, .ref b19, .ref b20, .ref b21, .ref b22, .ref b23, .ref b24, .ref b25, .ref b26, .ref b27, .ref b28, .ref b29, .ref b30, .int (nI qn), .ref b32, .ref b33]))]) [0] rfl
    have hD9 := hD.sub (ws' := [(h0, .inr (9, [.ref b0, .ref b1, .int (nI t0), .int (nI tl), .int (nI wn), .int sp, .ref b6, .ref b7, .ref b8, .ref b9, .int (nI dn), .ref b11, .ref b12, .ref b13, .int (nI mn), .int (nI pn), .int db, .int ct, .ref b18, .ref b19, .ref b20, .ref b21, .ref b22, .ref b23, .ref b24, .ref b25, .ref b26, .ref b27, .ref b28, .ref b29, .ref b30, .int (nI qn), .ref b32, .ref b33]))]) [0] (by decide) rfl
    exact W.zret (v := 0) hx hb hr (rfl) (fun t ht hW => ⟨⟨0, (), rfl, Or.inl (rfl), ⟨by rw [ht]; exact hP9, va_K.moved hW.alike hK, hD9⟩⟩, hS.F ht⟩) hS.2.2 dX9_isPerson_11
  · have hix := mIx h_6 h_7 hnn
    have hP9 := hP.sub (ws' := [(h0, .inr (9, [.ref b0, .ref b1, .int (nI t0), .int (nI tl), .int (nI wn), .int sp, .ref b6, .ref b7, .ref b8, .ref b9, .int (nI dn), .ref b11, .ref b12, .ref b13, .int (nI mn), .int (nI pn), .int db, .int ct, .ref b18, .ref b19, .ref b20, .ref b21, .ref b22, .ref b23, .ref b24, .ref b25, .ref b26, .ref b27, .ref b28, .ref b29, .ref b30, .int (nI qn), .ref b32, .ref b33]))]) [0] rfl
    have hD9 := hD.sub (ws' := [(h0, .inr (9, [.ref b0, .ref b1, .int (nI t0), .int (nI tl), .int (nI wn), .int sp, .ref b6, .ref b7, .ref b8, .ref b9, .int (nI dn), .ref b11, .ref b12, .ref b13, .int (nI mn), .int (nI pn), .int db, .int ct, .ref b18, .ref b19, .ref b20, .ref b21, .ref b22, .ref b23, .ref b24, .ref b25, .ref b26, .ref b27, .ref b28, .ref b29, .ref b30, .int (nI qn), .ref b32, .ref b33]))]) [0] (by decide) rfl
    exact W.zret (v := 1) hx hb hr (rfl) (fun t ht hW => ⟨⟨1, (), rfl, Or.inr ((⟨rfl, hix⟩)), ⟨by rw [ht]; exact hP9, va_K.moved hW.alike hK, hD9⟩⟩, hS.F ht⟩) hS.2.2 dX9_isPerson_11
set_option maxHeartbeats 4000000 in
set_option maxRecDepth 100000 in
theorem m_isTold (l : Launch) (D : va_G) (cB cI cZ : ClassId) (E : pEt) (sz : Nat) (h0 : Nat) (i0 : Nat) (n0 : Nat) (b0 : Nat) (b1 : Nat) (t0 : Nat) (tl : Nat) (wn : Nat) (sp : Int32) (b6 : Nat) (b7 : Nat) (b8 : Nat) (b9 : Nat) (dn : Nat) (b11 : Nat) (b12 : Nat) (b13 : Nat) (mn : Nat) (pn : Nat) (db : Int32) (ct : Int32) (b18 : Nat) (b19 : Nat) (b20 : Nat) (b21 : Nat) (b22 : Nat) (b23 : Nat) (b24 : Nat) (b25 : Nat) (b26 : Nat) (b27 : Nat) (b28 : Nat) (b29 : Nat) (b30 : Nat) (qn : Nat) (b32 : Nat) (b33 : Nat) (a_tape : Nat → Int32) (a_toldLong : Nat → Int32) (a_toldLetter : Nat → Int32) (hi0 : i0 < 8) (hn0 : n0 ≤ 10) : Met l yX9_isTold (.code yX9_isTold cX9_isTold 5 (some .boolean) :: wsL_law) ({ frames := 0, cells := 0, slots := 0, locals := 0 } : Room) (va_Pc [.ref h0, .int (nI i0), .int (nI n0)] (pInE E D (pT cB cI cZ) sz [(h0, .inr (9, [.ref b0, .ref b1, .int (nI t0), .int (nI tl), .int (nI wn), .int sp, .ref b6, .ref b7, .ref b8, .ref b9, .int (nI dn), .ref b11, .ref b12, .ref b13, .int (nI mn), .int (nI pn), .int db, .int ct, .ref b18, .ref b19, .ref b20, .ref b21, .ref b22, .ref b23, .ref b24, .ref b25, .ref b26, .ref b27, .ref b28, .ref b29, .ref b30, .int (nI qn), .ref b32, .ref b33])), (b0, .inl (cI, 600, .inl a_tape)), (b11, .inl (cI, 8, .inl a_toldLong)), (b12, .inl (cI, 80, .inl a_toldLetter))])) (va_Qi (fun (r : Int32) (u : Unit) => r = 0 ∨ r = 1) (fun (u : Unit) (t : State) => pAt D (pT cB cI cZ) (va_A [(h0, .inr (9, [.ref b0, .ref b1, .int (nI t0), .int (nI tl), .int (nI wn), .int sp, .ref b6, .ref b7, .ref b8, .ref b9, .int (nI dn), .ref b11, .ref b12, .ref b13, .int (nI mn), .int (nI pn), .int db, .int ct, .ref b18, .ref b19, .ref b20, .ref b21, .ref b22, .ref b23, .ref b24, .ref b25, .ref b26, .ref b27, .ref b28, .ref b29, .ref b30, .int (nI qn), .ref b32, .ref b33])), (b0, .inl (cI, 600, .inl a_tape)), (b11, .inl (cI, 8, .inl a_toldLong)), (b12, .inl (cI, 80, .inl a_toldLetter))] sz) [(h0, .inr (9, [.ref b0, .ref b1, .int (nI t0), .int (nI tl), .int (nI wn), .int sp, .ref b6, .ref b7, .ref b8, .ref b9, .int (nI dn), .ref b11, .ref b12, .ref b13, .int (nI mn), .int (nI pn), .int db, .int ct, .ref b18, .ref b19, .ref b20, .ref b21, .ref b22, .ref b23, .ref b24, .ref b25, .ref b26, .ref b27, .ref b28, .ref b29, .ref b30, .int (nI qn), .ref b32, .ref b33])), (b0, .inl (cI, 600, .inl a_tape)), (b11, .inl (cI, 8, .inl a_toldLong)), (b12, .inl (cI, 80, .inl a_toldLetter))] t) (va_A [(h0, .inr (9, [.ref b0, .ref b1, .int (nI t0), .int (nI tl), .int (nI wn), .int sp, .ref b6, .ref b7, .ref b8, .ref b9, .int (nI dn), .ref b11, .ref b12, .ref b13, .int (nI mn), .int (nI pn), .int db, .int ct, .ref b18, .ref b19, .ref b20, .ref b21, .ref b22, .ref b23, .ref b24, .ref b25, .ref b26, .ref b27, .ref b28, .ref b29, .ref b30, .int (nI qn), .ref b32, .ref b33])), (b0, .inl (cI, 600, .inl a_tape)), (b11, .inl (cI, 8, .inl a_toldLong)), (b12, .inl (cI, 80, .inl a_toldLetter))] sz)) 0 0 (va_A [(h0, .inr (9, [.ref b0, .ref b1, .int (nI t0), .int (nI tl), .int (nI wn), .int sp, .ref b6, .ref b7, .ref b8, .ref b9, .int (nI dn), .ref b11, .ref b12, .ref b13, .int (nI mn), .int (nI pn), .int db, .int ct, .ref b18, .ref b19, .ref b20, .ref b21, .ref b22, .ref b23, .ref b24, .ref b25, .ref b26, .ref b27, .ref b28, .ref b29, .ref b30, .int (nI qn), .ref b32, .ref b33])), (b0, .inl (cI, 600, .inl a_tape)), (b11, .inl (cI, 8, .inl a_toldLong)), (b12, .inl (cI, 80, .inl a_toldLetter))] sz) := by
  refine Met.ofW (cc := cX9_isTold) (maxL := 5) (ret := (some .boolean)) (by decide) rfl ?_
  intro p e s m args below meth cd s₁ B hml hv
  obtain ⟨rfl, hsz, hP, hK, hD0, hE⟩ := hv
  have hx := B.exec
  have hb := B.bytes
  have hr := B.returns
  have hts0 := atoms_spec (ws := .code yX9_isTold cX9_isTold 5 (some .boolean) :: wsL_law) B.pre
  have hts := fun (w : Cond) (h : w ∈ wsL_law) => hts0 w (List.mem_cons_of_mem _ h)
  have hown : s.vm.findClass RX9 = some m.cls := findClass_of_methodNamed B.named
  have hlocks := B.notSynchronized
  have hinX9 := inlX9
  subst hsz
  have hD := hD0.self (sz := s.heap.size)
  generalize hAe : va_A [(h0, .inr (9, [.ref b0, .ref b1, .int (nI t0), .int (nI tl), .int (nI wn), .int sp, .ref b6, .ref b7, .ref b8, .ref b9, .int (nI dn), .ref b11, .ref b12, .ref b13, .int (nI mn), .int (nI pn), .int db, .int ct, .ref b18, .ref b19, .ref b20, .ref b21, .ref b22, .ref b23, .ref b24, .ref b25, .ref b26, .ref b27, .ref b28, .ref b29, .ref b30, .int (nI qn), .ref b32, .ref b33])), (b0, .inl (cI, 600, .inl a_tape)), (b11, .inl (cI, 8, .inl a_toldLong)), (b12, .inl (cI, 80, .inl a_toldLetter))] s.heap.size = A at hD hE ⊢
  have hA : ∀ q : Nat, s.heap.size ≤ q → A q := fun q h => by rw [← hAe]; exact Or.inr h
  have hS : va_S A s.heap s.heap [] := va_S.rf
  have hP : va_P D vwCl [(h0, .inr (9, [.ref b0, .ref b1, .int (nI t0), .int (nI tl), .int (nI wn), .int sp, .ref b6, .ref b7, .ref b8, .ref b9, .int (nI dn), .ref b11, .ref b12, .ref b13, .int (nI mn), .int (nI pn), .int db, .int ct, .ref b18, .ref b19, .ref b20, .ref b21, .ref b22, .ref b23, .ref b24, .ref b25, .ref b26, .ref b27, .ref b28, .ref b29, .ref b30, .int (nI qn), .ref b32, .ref b33])), (b0, .inl (cI, 600, .inl a_tape)), (b11, .inl (cI, 8, .inl a_toldLong)), (b12, .inl (cI, 80, .inl a_toldLetter))] s.heap := hP
  have hl := lv_entry ([.ref h0, .int (nI i0), .int (nI n0)]) (n := 5) (Nat.le_of_ble_eq_true rfl)
  rw [lg_entry_eq]
  generalize (lg_sl ([.ref h0, .int (nI i0), .int (nI n0)]) ++ List.replicate (5 - (lg_sl ([.ref h0, .int (nI i0), .int (nI n0)])).length) Slot.unset).toArray = ls at hl ⊢
  have hl : lv_has ls 5 [(0, .ref h0), (1, .int (nI i0)), (2, .int (nI n0))] := hl
  generalize hQ : MQ below _ _ _ _ _ _ = Q
  refine lv_aload_n hx hb dX9_isTold_0 rfl (lv_at hl 0 rfl) ?_
  refine va_get (D := D) (ci := 9) (v := .ref b11) (C := RX9) (T := TX9) (N := 34) hx hb hts hinX9 hown hK hP 0 rfl rfl 11 (by decide) (hts (.fieldLink RX9 29 "TaleReaderModel" "toldLong" "[I") (uc6 _ (List.mem_of_getElem? (i := 23) rfl))) (fun _ h9 => h9) rfl dX9_isTold_1 ?_
  refine lv_iload_n hx hb dX9_isTold_4 rfl (lv_at hl 1 rfl) ?_
  refine va_iald (D := D) hx hb hK hP 2 1 rfl rfl (vp_in_nI (by omega) (by omega)) dX9_isTold_5 ?_
  refine lv_topi (fun v_1 ev_1 => ?_)
  refine lv_iload_n hx hb dX9_isTold_6 rfl (lv_at hl 2 rfl) ?_
  refine lv_icmp_ne (tgt := 14) hx hb dX9_isTold_7 (by decide) (fun c_2 => ?_) (fun c_2 => ?_)
  · refine lv_iconst (v := 0) hx hb dX9_isTold_14 (by decide) ?_
    refine lv_istore_n (lv' := [(3, .int 0), (0, .ref h0), (1, .int (nI i0)), (2, .int (nI n0))]) hx hb dX9_isTold_15 rfl hl (by decide) rfl (fun ls hl => ?_)
    refine lv_iconst (v := 0) hx hb dX9_isTold_16 (by decide) ?_
    refine lv_istore (lv' := [(4, .int 0), (3, .int 0), (0, .ref h0), (1, .int (nI i0)), (2, .int (nI n0))]) hx hb dX9_isTold_17 hl (by decide) rfl (fun ls hl => ?_)
    have loop_3 : ∀ (nn_5 : Nat) (i : Nat) (v3 : Int32), (v3 = 0 ∨ v3 = 1) → (i ≤ 600) → (n0 - i < nn_5) → ∀ (H : Heap) (locs : List Loc) (ls : Array Slot), va_P D vwCl [(h0, .inr (9, [.ref b0, .ref b1, .int (nI t0), .int (nI tl), .int (nI wn), .int sp, .ref b6, .ref b7, .ref b8, .ref b9, .int (nI dn), .ref b11, .ref b12, .ref b13, .int (nI mn), .int (nI pn), .int db, .int ct, .ref b18, .ref b19, .ref b20, .ref b21, .ref b22, .ref b23, .ref b24, .ref b25, .ref b26, .ref b27, .ref b28, .ref b29, .ref b30, .int (nI qn), .ref b32, .ref b33])), (b0, .inl (cI, 600, .inl a_tape)), (b11, .inl (cI, 8, .inl a_toldLong)), (b12, .inl (cI, 80, .inl a_toldLetter))] H → va_D A [(h0, .inr (9, [.ref b0, .ref b1, .int (nI t0), .int (nI tl), .int (nI wn), .int sp, .ref b6, .ref b7, .ref b8, .ref b9, .int (nI dn), .ref b11, .ref b12, .ref b13, .int (nI mn), .int (nI pn), .int db, .int ct, .ref b18, .ref b19, .ref b20, .ref b21, .ref b22, .ref b23, .ref b24, .ref b25, .ref b26, .ref b27, .ref b28, .ref b29, .ref b30, .int (nI qn), .ref b32, .ref b33])), (b0, .inl (cI, 600, .inl a_tape)), (b11, .inl (cI, 8, .inl a_toldLong)), (b12, .inl (cI, 80, .inl a_toldLetter))] → va_S A s.heap H locs → lv_has ls 5 [(0, .ref h0), (1, .int (nI i0)), (2, .int (nI n0)), (3, .int v3), (4, .int (nI i))] → W p l e ({ frames := 0, cells := 0, slots := 0, locals := 0 } : Room) s m ([.ref h0, .int (nI i0), .int (nI n0)] : List Value).toArray below meth cd H locs 0 0 Q (F0 m 19 ls []) := by
      intro nn_5
      induction nn_5 with
      | zero => intros; exact absurd ‹_ < 0› (Nat.not_lt_zero _)
      | succ nn_5 ih_4 =>
        intro i v3 hbv hi600 hmu H locs ls hP hD hS hl
        refine lv_iload hx hb dX9_isTold_19 (lv_at hl 4 rfl) ?_
        refine lv_iload_n hx hb dX9_isTold_21 rfl (lv_at hl 2 rfl) ?_
        refine lv_icmp_ge (tgt := 63) hx hb dX9_isTold_22 (by decide) (fun c_6 => ?_) (fun c_6 => ?_)
        · refine lv_iload_n hx hb dX9_isTold_63 rfl (lv_at hl 3 rfl) ?_
          have hP9 := hP.sub (ws' := [(h0, .inr (9, [.ref b0, .ref b1, .int (nI t0), .int (nI tl), .int (nI wn), .int sp, .ref b6, .ref b7, .ref b8, .ref b9, .int (nI dn), .ref b11, .ref b12, .ref b13, .int (nI mn), .int (nI pn), .int db, .int ct, .ref b18, .ref b19, .ref b20, .ref b21, .ref b22, .ref b23, .ref b24, .ref b25, .ref b26, .ref b27, .ref b28, .ref b29, .ref b30, .int (nI qn), .ref b32, .ref b33])), (b0, .inl (cI, 600, .inl a_tape)), (b11, .inl (cI, 8, .inl a_toldLong)), (b12, .inl (cI, 80, .inl a_toldLetter))]) [0, 1, 2, 3] rfl
          have hD9 := hD.sub (ws' := [(h0, .inr (9, [.ref b0, .ref b1, .int (nI t0), .int (nI tl), .int (nI wn), .int sp, .ref b6, .ref b7, .ref b8, .ref b9, .int (nI dn), .ref b11, .ref b12, .ref b13, .int (nI mn), .int (nI pn), .int db, .int ct, .ref b18, .ref b19, .ref b20, .ref b21, .ref b22, .ref b23, .ref b24, .ref b25, .ref b26, .ref b27, .ref b28, .ref b29, .ref b30, .int (nI qn), .ref b32, .ref b33])), (b0, .inl (cI, 600, .inl a_tape)), (b11, .inl (cI, 8, .inl a_toldLong)), (b12, .inl (cI, 80, .inl a_toldLetter))]) [0, 1, 2, 3] (by decide) rfl
          rw [← hQ]
          exact W.zret (v := v3) hx hb hr (by rcases hbv with rfl | rfl <;> rfl) (fun t ht hW => ⟨⟨v3, (), rfl, hbv, ⟨by rw [ht]; exact hP9, va_K.moved hW.alike hK, hD9⟩⟩, hS.F ht⟩) hS.2.2 dX9_isTold_64
        · have hlt_i : i < n0 := Nat.lt_of_not_le (fun q => c_6 (nI_le q (by omega)))
          refine lv_iload_n hx hb dX9_isTold_25 rfl (lv_at hl 3 rfl) ?_
          refine lv_if_eq (tgt := 63) hx hb dX9_isTold_26 (by decide) (fun c_7 => ?_) (fun c_7 => ?_)
          · refine lv_iload_n hx hb dX9_isTold_63 rfl (lv_at hl 3 rfl) ?_
            have hP9 := hP.sub (ws' := [(h0, .inr (9, [.ref b0, .ref b1, .int (nI t0), .int (nI tl), .int (nI wn), .int sp, .ref b6, .ref b7, .ref b8, .ref b9, .int (nI dn), .ref b11, .ref b12, .ref b13, .int (nI mn), .int (nI pn), .int db, .int ct, .ref b18, .ref b19, .ref b20, .ref b21, .ref b22, .ref b23, .ref b24, .ref b25, .ref b26, .ref b27, .ref b28, .ref b29, .ref b30, .int (nI qn), .ref b32, .ref b33])), (b0, .inl (cI, 600, .inl a_tape)), (b11, .inl (cI, 8, .inl a_toldLong)), (b12, .inl (cI, 80, .inl a_toldLetter))]) [0, 1, 2, 3] rfl
            have hD9 := hD.sub (ws' := [(h0, .inr (9, [.ref b0, .ref b1, .int (nI t0), .int (nI tl), .int (nI wn), .int sp, .ref b6, .ref b7, .ref b8, .ref b9, .int (nI dn), .ref b11, .ref b12, .ref b13, .int (nI mn), .int (nI pn), .int db, .int ct, .ref b18, .ref b19, .ref b20, .ref b21, .ref b22, .ref b23, .ref b24, .ref b25, .ref b26, .ref b27, .ref b28, .ref b29, .ref b30, .int (nI qn), .ref b32, .ref b33])), (b0, .inl (cI, 600, .inl a_tape)), (b11, .inl (cI, 8, .inl a_toldLong)), (b12, .inl (cI, 80, .inl a_toldLetter))]) [0, 1, 2, 3] (by decide) rfl
            rw [← hQ]
            exact W.zret (v := v3) hx hb hr (by rcases hbv with rfl | rfl <;> rfl) (fun t ht hW => ⟨⟨v3, (), rfl, hbv, ⟨by rw [ht]; exact hP9, va_K.moved hW.alike hK, hD9⟩⟩, hS.F ht⟩) hS.2.2 dX9_isTold_64
          · refine lv_aload_n hx hb dX9_isTold_29 rfl (lv_at hl 0 rfl) ?_
            refine va_get (D := D) (ci := 9) (v := .ref b12) (C := RX9) (T := TX9) (N := 34) hx hb hts hinX9 hown hK hP 0 rfl rfl 12 (by decide) (hts (.fieldLink RX9 32 "TaleReaderModel" "toldLetter" "[I") (uc7 _ (List.mem_of_getElem? (i := 0) rfl))) (fun _ h9 => h9) rfl dX9_isTold_30 ?_
            refine lv_bipush (v := 10) hx hb dX9_isTold_33 (by decide) ?_
            refine lv_iload_n hx hb dX9_isTold_35 rfl (lv_at hl 1 rfl) ?_
            refine lv_imul hx hb dX9_isTold_36 ?_
            refine lv_topi (fun z_8 ez_8 => ?_)
            obtain rfl : z_8 = nI (10 * i0) := ez_8.trans (pk_mul 10 i0)
            refine lv_iload hx hb dX9_isTold_37 (lv_at hl 4 rfl) ?_
            refine lv_iadd hx hb dX9_isTold_39 ?_
            refine lv_topi (fun z_9 ez_9 => ?_)
            obtain rfl : z_9 = nI (10 * i0 + i) := ez_9.trans (nI_add (10 * i0) i)
            refine va_iald (D := D) hx hb hK hP 3 1 rfl rfl (vp_in_nI (by omega) (by omega)) dX9_isTold_40 ?_
            refine lv_topi (fun v_10 ev_10 => ?_)
            refine lv_aload_n hx hb dX9_isTold_41 rfl (lv_at hl 0 rfl) ?_
            refine va_get (D := D) (ci := 9) (v := .ref b0) (C := RX9) (T := TX9) (N := 34) hx hb hts hinX9 hown hK hP 0 rfl rfl 0 (by decide) (hts (.fieldLink RX9 7 "TaleReaderModel" "tape" "[I") (uc6 _ (List.mem_of_getElem? (i := 17) rfl))) (fun _ h9 => h9) rfl dX9_isTold_42 ?_
            refine lv_iload hx hb dX9_isTold_45 (lv_at hl 4 rfl) ?_
            refine va_iald (D := D) hx hb hK hP 1 1 rfl rfl (vp_in_nI (by omega) (by omega)) dX9_isTold_47 ?_
            refine lv_topi (fun v_11 ev_11 => ?_)
            refine lv_icmp_ne (tgt := 55) hx hb dX9_isTold_48 (by decide) (fun c_12 => ?_) (fun c_12 => ?_)
            · refine lv_iconst (v := 0) hx hb dX9_isTold_55 (by decide) ?_
              refine lv_istore_n (lv' := [(3, .int 0), (0, .ref h0), (1, .int (nI i0)), (2, .int (nI n0)), (4, .int (nI i))]) hx hb dX9_isTold_56 rfl hl (by decide) rfl (fun ls hl => ?_)
              refine lv_iinc (v := nI (i + 1)) (lv' := [(4, .int (nI (i + 1))), (3, .int 0), (0, .ref h0), (1, .int (nI i0)), (2, .int (nI n0))]) hx hb dX9_isTold_57 hl (k := 4) rfl (nI_add i 1) (by decide) rfl (fun ls hl => ?_)
              refine lv_goto (tgt := 19) hx hb dX9_isTold_60 (by decide) ?_
              exact ih_4 (i + 1) 0 (by first | assumption | exact Or.inl rfl | exact Or.inr rfl | omega) (by first | assumption | exact Or.inl rfl | exact Or.inr rfl | omega) (by omega) H _ ls (hP.sub (ws' := [(h0, .inr (9, [.ref b0, .ref b1, .int (nI t0), .int (nI tl), .int (nI wn), .int sp, .ref b6, .ref b7, .ref b8, .ref b9, .int (nI dn), .ref b11, .ref b12, .ref b13, .int (nI mn), .int (nI pn), .int db, .int ct, .ref b18, .ref b19, .ref b20, .ref b21, .ref b22, .ref b23, .ref b24, .ref b25, .ref b26, .ref b27, .ref b28, .ref b29, .ref b30, .int (nI qn), .ref b32, .ref b33])), (b0, .inl (cI, 600, .inl a_tape)), (b11, .inl (cI, 8, .inl a_toldLong)), (b12, .inl (cI, 80, .inl a_toldLetter))]) [0, 1, 2, 3] rfl) (hD.sub (ws' := [(h0, .inr (9, [.ref b0, .ref b1, .int (nI t0), .int (nI tl), .int (nI wn), .int sp, .ref b6, .ref b7, .ref b8, .ref b9, .int (nI dn), .ref b11, .ref b12, .ref b13, .int (nI mn), .int (nI pn), .int db, .int ct, .ref b18, .ref b19, .ref b20, .ref b21, .ref b22, .ref b23, .ref b24, .ref b25, .ref b26, .ref b27, .ref b28, .ref b29, .ref b30, .int (nI qn), .ref b32, .ref b33])), (b0, .inl (cI, 600, .inl a_tape)), (b11, .inl (cI, 8, .inl a_toldLong)), (b12, .inl (cI, 80, .inl a_toldLetter))]) [0, 1, 2, 3] (by decide) rfl) hS (lv_sub hl [2, 3, 4, 1, 0] rfl)
            · refine lv_iconst (v := 1) hx hb dX9_isTold_51 (by decide) ?_
              refine lv_goto (tgt := 56) hx hb dX9_isTold_52 (by decide) ?_
              refine lv_istore_n (lv' := [(3, .int 1), (0, .ref h0), (1, .int (nI i0)), (2, .int (nI n0)), (4, .int (nI i))]) hx hb dX9_isTold_56 rfl hl (by decide) rfl (fun ls hl => ?_)
              refine lv_iinc (v := nI (i + 1)) (lv' := [(4, .int (nI (i + 1))), (3, .int 1), (0, .ref h0), (1, .int (nI i0)), (2, .int (nI n0))]) hx hb dX9_isTold_57 hl (k := 4) rfl (nI_add i 1) (by decide) rfl (fun ls hl => ?_)
              refine lv_goto (tgt := 19) hx hb dX9_isTold_60 (by decide) ?_
              exact ih_4 (i + 1) 1 (by first | assumption | exact Or.inl rfl | exact Or.inr rfl | omega) (by first | assumption | exact Or.inl rfl | exact Or.inr rfl | omega) (by omega) H _ ls (hP.sub (ws' := [(h0, .inr (9, [.ref b0, .ref b1, .int (nI t0), .int (nI tl), .int (nI wn), .int sp, .ref b6, .ref b7, .ref b8, .ref b9, .int (nI dn), .ref b11, .ref b12, .ref b13, .int (nI mn), .int (nI pn), .int db, .int ct, .ref b18, .ref b19, .ref b20, .ref b21, .ref b22, .ref b23, .ref b24, .ref b25, .ref b26, .ref b27, .ref b28, .ref b29, .ref b30, .int (nI qn), .ref b32, .ref b33])), (b0, .inl (cI, 600, .inl a_tape)), (b11, .inl (cI, 8, .inl a_toldLong)), (b12, .inl (cI, 80, .inl a_toldLetter))]) [0, 1, 2, 3] rfl) (hD.sub (ws' := [(h0, .inr (9, [.ref b0, .ref b1, .int (nI t0), .int (nI tl), .int (nI wn), .int sp, .ref b6, .ref b7, .ref b8, .ref b9, .int (nI dn), .ref b11, .ref b12, .ref b13, .int (nI mn), .int (nI pn), .int db, .int ct, .ref b18, .ref b19, .ref b20, .ref b21, .ref b22, .ref b23, .ref b24, .ref b25, .ref b26, .ref b27, .ref b28, .ref b29, .ref b30, .int (nI qn), .ref b32, .ref b33])), (b0, .inl (cI, 600, .inl a_tape)), (b11, .inl (cI, 8, .inl a_toldLong)), (b12, .inl (cI, 80, .inl a_toldLetter))]) [0, 1, 2, 3] (by decide) rfl) hS (lv_sub hl [2, 3, 4, 1, 0] rfl)
    exact loop_3 _ 0 0 (by first | assumption | exact Or.inl rfl | exact Or.inr rfl | omega) (by first | assumption | exact Or.inl rfl | exact Or.inr rfl | omega) (Nat.lt_succ_self _) s.heap _ ls (hP.sub (ws' := [(h0, .inr (9, [.ref b0, .ref b1, .int (nI t0), .int (nI tl), .int (nI wn), .int sp, .ref b6, .ref b7, .ref b8, .ref b9, .int (nI dn), .ref b11, .ref b12, .ref b13, .int (nI mn), .int (nI pn), .int db, .int ct, .ref b18, .ref b19, .ref b20, .ref b21, .ref b22, .ref b23, .ref b24, .ref b25, .ref b26, .ref b27, .ref b28, .ref b29, .ref b30, .int (nI qn), .ref b32, .ref b33])), (b0, .inl (cI, 600, .inl a_tape)), (b11, .inl (cI, 8, .inl a_toldLong)), (b12, .inl (cI, 80, .inl a_toldLetter))]) [0, 1, 2, 3] rfl) (hD.sub (ws' := [(h0, .inr (9, [.ref b0, .ref b1, .int (nI t0), .int (nI tl), .int (nI wn), .int sp, .ref b6, .ref b7, .ref b8, .ref b9, .int (nI dn), .ref b11, .ref b12, .ref b13, .int (nI mn), .int (nI pn), .int db, .int ct, .ref b18, .ref b19, .ref b20, .ref b21, .ref b22, .ref b23, .ref b24, .ref b25, .ref b26, .ref b27, .ref b28, .ref b29, .ref b30, .int (nI qn), .ref b32, .ref b33])), (b0, .inl (cI, 600, .inl a_tape)), (b11, .inl (cI, 8, .inl a_toldLong)), (b12, .inl (cI, 80, .inl a_toldLetter))]) [0, 1, 2, 3] (by decide) rfl) hS (lv_sub hl [2, 3, 4, 1, 0] rfl)
  · refine lv_iconst (v := 1) hx hb dX9_isTold_10 (by decide) ?_
    refine lv_goto (tgt := 15) hx hb dX9_isTold_11 (by decide) ?_
    refine lv_istore_n (lv' := [(3, .int 1), (0, .ref h0), (1, .int (nI i0)), (2, .int (nI n0))]) hx hb dX9_isTold_15 rfl hl (by decide) rfl (fun ls hl => ?_)
    refine lv_iconst (v := 0) hx hb dX9_isTold_16 (by decide) ?_
    refine lv_istore (lv' := [(4, .int 0), (3, .int 1), (0, .ref h0), (1, .int (nI i0)), (2, .int (nI n0))]) hx hb dX9_isTold_17 hl (by decide) rfl (fun ls hl => ?_)
    have loop_13 : ∀ (nn_15 : Nat) (i : Nat) (v3 : Int32), (v3 = 0 ∨ v3 = 1) → (i ≤ 600) → (n0 - i < nn_15) → ∀ (H : Heap) (locs : List Loc) (ls : Array Slot), va_P D vwCl [(h0, .inr (9, [.ref b0, .ref b1, .int (nI t0), .int (nI tl), .int (nI wn), .int sp, .ref b6, .ref b7, .ref b8, .ref b9, .int (nI dn), .ref b11, .ref b12, .ref b13, .int (nI mn), .int (nI pn), .int db, .int ct, .ref b18, .ref b19, .ref b20, .ref b21, .ref b22, .ref b23, .ref b24, .ref b25, .ref b26, .ref b27, .ref b28, .ref b29, .ref b30, .int (nI qn), .ref b32, .ref b33])), (b0, .inl (cI, 600, .inl a_tape)), (b11, .inl (cI, 8, .inl a_toldLong)), (b12, .inl (cI, 80, .inl a_toldLetter))] H → va_D A [(h0, .inr (9, [.ref b0, .ref b1, .int (nI t0), .int (nI tl), .int (nI wn), .int sp, .ref b6, .ref b7, .ref b8, .ref b9, .int (nI dn), .ref b11, .ref b12, .ref b13, .int (nI mn), .int (nI pn), .int db, .int ct, .ref b18, .ref b19, .ref b20, .ref b21, .ref b22, .ref b23, .ref b24, .ref b25, .ref b26, .ref b27, .ref b28, .ref b29, .ref b30, .int (nI qn), .ref b32, .ref b33])), (b0, .inl (cI, 600, .inl a_tape)), (b11, .inl (cI, 8, .inl a_toldLong)), (b12, .inl (cI, 80, .inl a_toldLetter))] → va_S A s.heap H locs → lv_has ls 5 [(0, .ref h0), (1, .int (nI i0)), (2, .int (nI n0)), (3, .int v3), (4, .int (nI i))] → W p l e ({ frames := 0, cells := 0, slots := 0, locals := 0 } : Room) s m ([.ref h0, .int (nI i0), .int (nI n0)] : List Value).toArray below meth cd H locs 0 0 Q (F0 m 19 ls []) := by
      intro nn_15
      induction nn_15 with
      | zero => intros; exact absurd ‹_ < 0› (Nat.not_lt_zero _)
      | succ nn_15 ih_14 =>
        intro i v3 hbv hi600 hmu H locs ls hP hD hS hl
        refine lv_iload hx hb dX9_isTold_19 (lv_at hl 4 rfl) ?_
        refine lv_iload_n hx hb dX9_isTold_21 rfl (lv_at hl 2 rfl) ?_
        refine lv_icmp_ge (tgt := 63) hx hb dX9_isTold_22 (by decide) (fun c_16 => ?_) (fun c_16 => ?_)
        · refine lv_iload_n hx hb dX9_isTold_63 rfl (lv_at hl 3 rfl) ?_
          have hP9 := hP.sub (ws' := [(h0, .inr (9, [.ref b0, .ref b1, .int (nI t0), .int (nI tl), .int (nI wn), .int sp, .ref b6, .ref b7, .ref b8, .ref b9, .int (nI dn), .ref b11, .ref b12, .ref b13, .int (nI mn), .int (nI pn), .int db, .int ct, .ref b18, .ref b19, .ref b20, .ref b21, .ref b22, .ref b23, .ref b24, .ref b25, .ref b26, .ref b27, .ref b28, .ref b29, .ref b30, .int (nI qn), .ref b32, .ref b33])), (b0, .inl (cI, 600, .inl a_tape)), (b11, .inl (cI, 8, .inl a_toldLong)), (b12, .inl (cI, 80, .inl a_toldLetter))]) [0, 1, 2, 3] rfl
          have hD9 := hD.sub (ws' := [(h0, .inr (9, [.ref b0, .ref b1, .int (nI t0), .int (nI tl), .int (nI wn), .int sp, .ref b6, .ref b7, .ref b8, .ref b9, .int (nI dn), .ref b11, .ref b12, .ref b13, .int (nI mn), .int (nI pn), .int db, .int ct, .ref b18, .ref b19, .ref b20, .ref b21, .ref b22, .ref b23, .ref b24, .ref b25, .ref b26, .ref b27, .ref b28, .ref b29, .ref b30, .int (nI qn), .ref b32, .ref b33])), (b0, .inl (cI, 600, .inl a_tape)), (b11, .inl (cI, 8, .inl a_toldLong)), (b12, .inl (cI, 80, .inl a_toldLetter))]) [0, 1, 2, 3] (by decide) rfl
          rw [← hQ]
          exact W.zret (v := v3) hx hb hr (by rcases hbv with rfl | rfl <;> rfl) (fun t ht hW => ⟨⟨v3, (), rfl, hbv, ⟨by rw [ht]; exact hP9, va_K.moved hW.alike hK, hD9⟩⟩, hS.F ht⟩) hS.2.2 dX9_isTold_64
        · have hlt_i : i < n0 := Nat.lt_of_not_le (fun q => c_16 (nI_le q (by omega)))
          refine lv_iload_n hx hb dX9_isTold_25 rfl (lv_at hl 3 rfl) ?_
          refine lv_if_eq (tgt := 63) hx hb dX9_isTold_26 (by decide) (fun c_17 => ?_) (fun c_17 => ?_)
          · refine lv_iload_n hx hb dX9_isTold_63 rfl (lv_at hl 3 rfl) ?_
            have hP9 := hP.sub (ws' := [(h0, .inr (9, [.ref b0, .ref b1, .int (nI t0), .int (nI tl), .int (nI wn), .int sp, .ref b6, .ref b7, .ref b8, .ref b9, .int (nI dn), .ref b11, .ref b12, .ref b13, .int (nI mn), .int (nI pn), .int db, .int ct, .ref b18, .ref b19, .ref b20, .ref b21, .ref b22, .ref b23, .ref b24, .ref b25, .ref b26, .ref b27, .ref b28, .ref b29, .ref b30, .int (nI qn), .ref b32, .ref b33])), (b0, .inl (cI, 600, .inl a_tape)), (b11, .inl (cI, 8, .inl a_toldLong)), (b12, .inl (cI, 80, .inl a_toldLetter))]) [0, 1, 2, 3] rfl
            have hD9 := hD.sub (ws' := [(h0, .inr (9, [.ref b0, .ref b1, .int (nI t0), .int (nI tl), .int (nI wn), .int sp, .ref b6, .ref b7, .ref b8, .ref b9, .int (nI dn), .ref b11, .ref b12, .ref b13, .int (nI mn), .int (nI pn), .int db, .int ct, .ref b18, .ref b19, .ref b20, .ref b21, .ref b22, .ref b23, .ref b24, .ref b25, .ref b26, .ref b27, .ref b28, .ref b29, .ref b30, .int (nI qn), .ref b32, .ref b33])), (b0, .inl (cI, 600, .inl a_tape)), (b11, .inl (cI, 8, .inl a_toldLong)), (b12, .inl (cI, 80, .inl a_toldLetter))]) [0, 1, 2, 3] (by decide) rfl
            rw [← hQ]
            exact W.zret (v := v3) hx hb hr (by rcases hbv with rfl | rfl <;> rfl) (fun t ht hW => ⟨⟨v3, (), rfl, hbv, ⟨by rw [ht]; exact hP9, va_K.moved hW.alike hK, hD9⟩⟩, hS.F ht⟩) hS.2.2 dX9_isTold_64
          · refine lv_aload_n hx hb dX9_isTold_29 rfl (lv_at hl 0 rfl) ?_
            refine va_get (D := D) (ci := 9) (v := .ref b12) (C := RX9) (T := TX9) (N := 34) hx hb hts hinX9 hown hK hP 0 rfl rfl 12 (by decide) (hts (.fieldLink RX9 32 "TaleReaderModel" "toldLetter" "[I") (uc7 _ (List.mem_of_getElem? (i := 0) rfl))) (fun _ h9 => h9) rfl dX9_isTold_30 ?_
            refine lv_bipush (v := 10) hx hb dX9_isTold_33 (by decide) ?_
            refine lv_iload_n hx hb dX9_isTold_35 rfl (lv_at hl 1 rfl) ?_
            refine lv_imul hx hb dX9_isTold_36 ?_
            refine lv_topi (fun z_18 ez_18 => ?_)
            obtain rfl : z_18 = nI (10 * i0) := ez_18.trans (pk_mul 10 i0)
            refine lv_iload hx hb dX9_isTold_37 (lv_at hl 4 rfl) ?_
            refine lv_iadd hx hb dX9_isTold_39 ?_
            refine lv_topi (fun z_19 ez_19 => ?_)
            obtain rfl : z_19 = nI (10 * i0 + i) := ez_19.trans (nI_add (10 * i0) i)
            refine va_iald (D := D) hx hb hK hP 3 1 rfl rfl (vp_in_nI (by omega) (by omega)) dX9_isTold_40 ?_
            refine lv_topi (fun v_20 ev_20 => ?_)
            refine lv_aload_n hx hb dX9_isTold_41 rfl (lv_at hl 0 rfl) ?_
            refine va_get (D := D) (ci := 9) (v := .ref b0) (C := RX9) (T := TX9) (N := 34) hx hb hts hinX9 hown hK hP 0 rfl rfl 0 (by decide) (hts (.fieldLink RX9 7 "TaleReaderModel" "tape" "[I") (uc6 _ (List.mem_of_getElem? (i := 17) rfl))) (fun _ h9 => h9) rfl dX9_isTold_42 ?_
            refine lv_iload hx hb dX9_isTold_45 (lv_at hl 4 rfl) ?_
            refine va_iald (D := D) hx hb hK hP 1 1 rfl rfl (vp_in_nI (by omega) (by omega)) dX9_isTold_47 ?_
            refine lv_topi (fun v_21 ev_21 => ?_)
            refine lv_icmp_ne (tgt := 55) hx hb dX9_isTold_48 (by decide) (fun c_22 => ?_) (fun c_22 => ?_)
            · refine lv_iconst (v := 0) hx hb dX9_isTold_55 (by decide) ?_
              refine lv_istore_n (lv' := [(3, .int 0), (0, .ref h0), (1, .int (nI i0)), (2, .int (nI n0)), (4, .int (nI i))]) hx hb dX9_isTold_56 rfl hl (by decide) rfl (fun ls hl => ?_)
              refine lv_iinc (v := nI (i + 1)) (lv' := [(4, .int (nI (i + 1))), (3, .int 0), (0, .ref h0), (1, .int (nI i0)), (2, .int (nI n0))]) hx hb dX9_isTold_57 hl (k := 4) rfl (nI_add i 1) (by decide) rfl (fun ls hl => ?_)
              refine lv_goto (tgt := 19) hx hb dX9_isTold_60 (by decide) ?_
              exact ih_14 (i + 1) 0 (by first | assumption | exact Or.inl rfl | exact Or.inr rfl | omega) (by first | assumption | exact Or.inl rfl | exact Or.inr rfl | omega) (by omega) H _ ls (hP.sub (ws' := [(h0, .inr (9, [.ref b0, .ref b1, .int (nI t0), .int (nI tl), .int (nI wn), .int sp, .ref b6, .ref b7, .ref b8, .ref b9, .int (nI dn), .ref b11, .ref b12, .ref b13, .int (nI mn), .int (nI pn), .int db, .int ct, .ref b18, .ref b19, .ref b20, .ref b21, .ref b22, .ref b23, .ref b24, .ref b25, .ref b26, .ref b27, .ref b28, .ref b29, .ref b30, .int (nI qn), .ref b32, .ref b33])), (b0, .inl (cI, 600, .inl a_tape)), (b11, .inl (cI, 8, .inl a_toldLong)), (b12, .inl (cI, 80, .inl a_toldLetter))]) [0, 1, 2, 3] rfl) (hD.sub (ws' := [(h0, .inr (9, [.ref b0, .ref b1, .int (nI t0), .int (nI tl), .int (nI wn), .int sp, .ref b6, .ref b7, .ref b8, .ref b9, .int (nI dn), .ref b11, .ref b12, .ref b13, .int (nI mn), .int (nI pn), .int db, .int ct, .ref b18, .ref b19, .ref b20, .ref b21, .ref b22, .ref b23, .ref b24, .ref b25, .ref b26, .ref b27, .ref b28, .ref b29, .ref b30, .int (nI qn), .ref b32, .ref b33])), (b0, .inl (cI, 600, .inl a_tape)), (b11, .inl (cI, 8, .inl a_toldLong)), (b12, .inl (cI, 80, .inl a_toldLetter))]) [0, 1, 2, 3] (by decide) rfl) hS (lv_sub hl [2, 3, 4, 1, 0] rfl)
            · refine lv_iconst (v := 1) hx hb dX9_isTold_51 (by decide) ?_
              refine lv_goto (tgt := 56) hx hb dX9_isTold_52 (by decide) ?_
              refine lv_istore_n (lv' := [(3, .int 1), (0, .ref h0), (1, .int (nI i0)), (2, .int (nI n0)), (4, .int (nI i))]) hx hb dX9_isTold_56 rfl hl (by decide) rfl (fun ls hl => ?_)
              refine lv_iinc (v := nI (i + 1)) (lv' := [(4, .int (nI (i + 1))), (3, .int 1), (0, .ref h0), (1, .int (nI i0)), (2, .int (nI n0))]) hx hb dX9_isTold_57 hl (k := 4) rfl (nI_add i 1) (by decide) rfl (fun ls hl => ?_)
              refine lv_goto (tgt := 19) hx hb dX9_isTold_60 (by decide) ?_
              exact ih_14 (i + 1) 1 (by first | assumption | exact Or.inl rfl | exact Or.inr rfl | omega) (by first | assumption | exact Or.inl rfl | exact Or.inr rfl | omega) (by omega) H _ ls (hP.sub (ws' := [(h0, .inr (9, [.ref b0, .ref b1, .int (nI t0), .int (nI tl), .int (nI wn), .int sp, .ref b6, .ref b7, .ref b8, .ref b9, .int (nI dn), .ref b11, .ref b12, .ref b13, .int (nI mn), .int (nI pn), .int db, .int ct, .ref b18, .ref b19, .ref b20, .ref b21, .ref b22, .ref b23, .ref b24, .ref b25, .ref b26, .ref b27, .ref b28, .ref b29, .ref b30, .int (nI qn), .ref b32, .ref b33])), (b0, .inl (cI, 600, .inl a_tape)), (b11, .inl (cI, 8, .inl a_toldLong)), (b12, .inl (cI, 80, .inl a_toldLetter))]) [0, 1, 2, 3] rfl) (hD.sub (ws' := [(h0, .inr (9, [.ref b0, .ref b1, .int (nI t0), .int (nI tl), .int (nI wn), .int sp, .ref b6, .ref b7, .ref b8, .ref b9, .int (nI dn), .ref b11, .ref b12, .ref b13, .int (nI mn), .int (nI pn), .int db, .int ct, .ref b18, .ref b19, .ref b20, .ref b21, .ref b22, .ref b23, .ref b24, .ref b25, .ref b26, .ref b27, .ref b28, .ref b29, .ref b30, .int (nI qn), .ref b32, .ref b33])), (b0, .inl (cI, 600, .inl a_tape)), (b11, .inl (cI, 8, .inl a_toldLong)), (b12, .inl (cI, 80, .inl a_toldLetter))]) [0, 1, 2, 3] (by decide) rfl) hS (lv_sub hl [2, 3, 4, 1, 0] rfl)
    exact loop_13 _ 0 1 (by first | assumption | exact Or.inl rfl | exact Or.inr rfl | omega) (by first | assumption | exact Or.inl rfl | exact Or.inr rfl | omega) (Nat.lt_succ_self _) s.heap _ ls (hP.sub (ws' := [(h0, .inr (9, [.ref b0, .ref b1, .int (nI t0), .int (nI tl), .int (nI wn), .int sp, .ref b6, .ref b7, .ref b8, .ref b9, .int (nI dn), .ref b11, .ref b12, .ref b13, .int (nI mn), .int (nI pn), .int db, .int ct, .ref b18, .ref b19, .ref b20, .ref b21, .ref b22, .ref b23, .ref b24, .ref b25, .ref b26, .ref b27, .ref b28, .ref b29, .ref b30, .int (nI qn), .ref b32, .ref b33])), (b0, .inl (cI, 600, .inl a_tape)), (b11, .inl (cI, 8, .inl a_toldLong)), (b12, .inl (cI, 80, .inl a_toldLetter))]) [0, 1, 2, 3] rfl) (hD.sub (ws' := [(h0, .inr (9, [.ref b0, .ref b1, .int (nI t0), .int (nI tl), .int (nI wn), .int sp, .ref b6, .ref b7, .ref b8, .ref b9, .int (nI dn), .ref b11, .ref b12, .ref b13, .int (nI mn), .int (nI pn), .int db, .int ct, .ref b18, .ref b19, .ref b20, .ref b21, .ref b22, .ref b23, .ref b24, .ref b25, .ref b26, .ref b27, .ref b28, .ref b29, .ref b30, .int (nI qn), .ref b32, .ref b33])), (b0, .inl (cI, 600, .inl a_tape)), (b11, .inl (cI, 8, .inl a_toldLong)), (b12, .inl (cI, 80, .inl a_toldLetter))]) [0, 1, 2, 3] (by decide) rfl) hS (lv_sub hl [2, 3, 4, 1, 0] rfl)
set_option maxHeartbeats 4000000 in
set_option maxRecDepth 100000 in
theorem m_look (l : Launch) (D : va_G) (cB cI cZ : ClassId) (E : pEt) (sz : Nat) (h0 : Nat) (x : Int32) (b0 : Nat) (b1 : Nat) (t0 : Nat) (tl : Nat) (wn : Nat) (sp : Int32) (b6 : Nat) (b7 : Nat) (b8 : Nat) (b9 : Nat) (dn : Nat) (b11 : Nat) (b12 : Nat) (b13 : Nat) (mn : Nat) (pn : Nat) (db : Int32) (ct : Int32) (b18 : Nat) (b19 : Nat) (b20 : Nat) (b21 : Nat) (b22 : Nat) (b23 : Nat) (b24 : Nat) (b25 : Nat) (b26 : Nat) (b27 : Nat) (b28 : Nat) (b29 : Nat) (b30 : Nat) (qn : Nat) (b32 : Nat) (b33 : Nat) (a_wordSentence : Nat → Int32) (a_who : Nat → Int32) (hwn : wn ≤ 300) (hmn : mn ≤ 80) : Met l yX9_look (.code yX9_look cX9_look 4 (some .int) :: wsL_law) ({ frames := 0, cells := 0, slots := 0, locals := 0 } : Room) (va_Pc [.ref h0, .int x] (pInE E D (pT cB cI cZ) sz [(h0, .inr (9, [.ref b0, .ref b1, .int (nI t0), .int (nI tl), .int (nI wn), .int sp, .ref b6, .ref b7, .ref b8, .ref b9, .int (nI dn), .ref b11, .ref b12, .ref b13, .int (nI mn), .int (nI pn), .int db, .int ct, .ref b18, .ref b19, .ref b20, .ref b21, .ref b22, .ref b23, .ref b24, .ref b25, .ref b26, .ref b27, .ref b28, .ref b29, .ref b30, .int (nI qn), .ref b32, .ref b33])), (b8, .inl (cI, 301, .inl a_wordSentence)), (b20, .inl (cI, 80, .inl a_who))])) (va_Qi (fun (r : Int32) (u : Unit) => True) (fun (u : Unit) (t : State) => pAt D (pT cB cI cZ) (va_A [(h0, .inr (9, [.ref b0, .ref b1, .int (nI t0), .int (nI tl), .int (nI wn), .int sp, .ref b6, .ref b7, .ref b8, .ref b9, .int (nI dn), .ref b11, .ref b12, .ref b13, .int (nI mn), .int (nI pn), .int db, .int ct, .ref b18, .ref b19, .ref b20, .ref b21, .ref b22, .ref b23, .ref b24, .ref b25, .ref b26, .ref b27, .ref b28, .ref b29, .ref b30, .int (nI qn), .ref b32, .ref b33])), (b8, .inl (cI, 301, .inl a_wordSentence)), (b20, .inl (cI, 80, .inl a_who))] sz) [(h0, .inr (9, [.ref b0, .ref b1, .int (nI t0), .int (nI tl), .int (nI wn), .int sp, .ref b6, .ref b7, .ref b8, .ref b9, .int (nI dn), .ref b11, .ref b12, .ref b13, .int (nI mn), .int (nI pn), .int db, .int ct, .ref b18, .ref b19, .ref b20, .ref b21, .ref b22, .ref b23, .ref b24, .ref b25, .ref b26, .ref b27, .ref b28, .ref b29, .ref b30, .int (nI qn), .ref b32, .ref b33])), (b8, .inl (cI, 301, .inl a_wordSentence)), (b20, .inl (cI, 80, .inl a_who))] t) (va_A [(h0, .inr (9, [.ref b0, .ref b1, .int (nI t0), .int (nI tl), .int (nI wn), .int sp, .ref b6, .ref b7, .ref b8, .ref b9, .int (nI dn), .ref b11, .ref b12, .ref b13, .int (nI mn), .int (nI pn), .int db, .int ct, .ref b18, .ref b19, .ref b20, .ref b21, .ref b22, .ref b23, .ref b24, .ref b25, .ref b26, .ref b27, .ref b28, .ref b29, .ref b30, .int (nI qn), .ref b32, .ref b33])), (b8, .inl (cI, 301, .inl a_wordSentence)), (b20, .inl (cI, 80, .inl a_who))] sz)) 0 0 (va_A [(h0, .inr (9, [.ref b0, .ref b1, .int (nI t0), .int (nI tl), .int (nI wn), .int sp, .ref b6, .ref b7, .ref b8, .ref b9, .int (nI dn), .ref b11, .ref b12, .ref b13, .int (nI mn), .int (nI pn), .int db, .int ct, .ref b18, .ref b19, .ref b20, .ref b21, .ref b22, .ref b23, .ref b24, .ref b25, .ref b26, .ref b27, .ref b28, .ref b29, .ref b30, .int (nI qn), .ref b32, .ref b33])), (b8, .inl (cI, 301, .inl a_wordSentence)), (b20, .inl (cI, 80, .inl a_who))] sz) := by
  refine Met.ofW (cc := cX9_look) (maxL := 4) (ret := (some .int)) (by decide) rfl ?_
  intro p e s m args below meth cd s₁ B hml hv
  obtain ⟨rfl, hsz, hP, hK, hD0, hE⟩ := hv
  have hx := B.exec
  have hb := B.bytes
  have hr := B.returns
  have hts0 := atoms_spec (ws := .code yX9_look cX9_look 4 (some .int) :: wsL_law) B.pre
  have hts := fun (w : Cond) (h : w ∈ wsL_law) => hts0 w (List.mem_cons_of_mem _ h)
  have hown : s.vm.findClass RX9 = some m.cls := findClass_of_methodNamed B.named
  have hlocks := B.notSynchronized
  have hinX9 := inlX9
  subst hsz
  have hD := hD0.self (sz := s.heap.size)
  generalize hAe : va_A [(h0, .inr (9, [.ref b0, .ref b1, .int (nI t0), .int (nI tl), .int (nI wn), .int sp, .ref b6, .ref b7, .ref b8, .ref b9, .int (nI dn), .ref b11, .ref b12, .ref b13, .int (nI mn), .int (nI pn), .int db, .int ct, .ref b18, .ref b19, .ref b20, .ref b21, .ref b22, .ref b23, .ref b24, .ref b25, .ref b26, .ref b27, .ref b28, .ref b29, .ref b30, .int (nI qn), .ref b32, .ref b33])), (b8, .inl (cI, 301, .inl a_wordSentence)), (b20, .inl (cI, 80, .inl a_who))] s.heap.size = A at hD hE ⊢
  have hA : ∀ q : Nat, s.heap.size ≤ q → A q := fun q h => by rw [← hAe]; exact Or.inr h
  have hS : va_S A s.heap s.heap [] := va_S.rf
  have hP : va_P D vwCl [(h0, .inr (9, [.ref b0, .ref b1, .int (nI t0), .int (nI tl), .int (nI wn), .int sp, .ref b6, .ref b7, .ref b8, .ref b9, .int (nI dn), .ref b11, .ref b12, .ref b13, .int (nI mn), .int (nI pn), .int db, .int ct, .ref b18, .ref b19, .ref b20, .ref b21, .ref b22, .ref b23, .ref b24, .ref b25, .ref b26, .ref b27, .ref b28, .ref b29, .ref b30, .int (nI qn), .ref b32, .ref b33])), (b8, .inl (cI, 301, .inl a_wordSentence)), (b20, .inl (cI, 80, .inl a_who))] s.heap := hP
  have hl := lv_entry ([.ref h0, .int x]) (n := 4) (Nat.le_of_ble_eq_true rfl)
  rw [lg_entry_eq]
  generalize (lg_sl ([.ref h0, .int x]) ++ List.replicate (4 - (lg_sl ([.ref h0, .int x])).length) Slot.unset).toArray = ls at hl ⊢
  have hl : lv_has ls 4 [(0, .ref h0), (1, .int x)] := hl
  generalize hQ : MQ below _ _ _ _ _ _ = Q
  refine lv_iconst (v := 0) hx hb dX9_look_0 (by decide) ?_
  refine lv_istore_n (lv' := [(2, .int 0), (0, .ref h0), (1, .int x)]) hx hb dX9_look_1 rfl hl (by decide) rfl (fun ls hl => ?_)
  refine lv_iload_n hx hb dX9_look_2 rfl (lv_at hl 2 rfl) ?_
  rcases pk_ix x (n := 8) (by decide) with hlo | hhi | ⟨j_1, hj_1, rfl⟩
  · refine lv_tableOut (tgt := 161) hx hb dX9_look_3 (Or.inl (Int32.lt_iff_toInt_lt.mp hlo)) (by decide) ?_
    refine lv_iconst (v := (-1)) hx hb dX9_look_161 (by decide) ?_
    have hP9 := hP.sub (ws' := [(h0, .inr (9, [.ref b0, .ref b1, .int (nI t0), .int (nI tl), .int (nI wn), .int sp, .ref b6, .ref b7, .ref b8, .ref b9, .int (nI dn), .ref b11, .ref b12, .ref b13, .int (nI mn), .int (nI pn), .int db, .int ct, .ref b18, .ref b19, .ref b20, .ref b21, .ref b22, .ref b23, .ref b24, .ref b25, .ref b26, .ref b27, .ref b28, .ref b29, .ref b30, .int (nI qn), .ref b32, .ref b33])), (b8, .inl (cI, 301, .inl a_wordSentence)), (b20, .inl (cI, 80, .inl a_who))]) [0, 1, 2] rfl
    have hD9 := hD.sub (ws' := [(h0, .inr (9, [.ref b0, .ref b1, .int (nI t0), .int (nI tl), .int (nI wn), .int sp, .ref b6, .ref b7, .ref b8, .ref b9, .int (nI dn), .ref b11, .ref b12, .ref b13, .int (nI mn), .int (nI pn), .int db, .int ct, .ref b18, .ref b19, .ref b20, .ref b21, .ref b22, .ref b23, .ref b24, .ref b25, .ref b26, .ref b27, .ref b28, .ref b29, .ref b30, .int (nI qn), .ref b32, .ref b33])), (b8, .inl (cI, 301, .inl a_wordSentence)), (b20, .inl (cI, 80, .inl a_who))]) [0, 1, 2] (by decide) rfl
    rw [← hQ]
    exact W.iret (v := (-1)) hx hb hr (fun t ht hW => ⟨⟨(-1), (), rfl, trivial, ⟨by rw [ht]; exact hP9, va_K.moved hW.alike hK, hD9⟩⟩, hS.F ht⟩) hS.2.2 dX9_look_162
  · refine lv_tableOut (tgt := 161) hx hb dX9_look_3 (Or.inr (Int.lt_of_lt_of_le (by decide) (Int32.le_iff_toInt_le.mp hhi))) (by decide) ?_
    refine lv_iconst (v := (-1)) hx hb dX9_look_161 (by decide) ?_
    have hP9 := hP.sub (ws' := [(h0, .inr (9, [.ref b0, .ref b1, .int (nI t0), .int (nI tl), .int (nI wn), .int sp, .ref b6, .ref b7, .ref b8, .ref b9, .int (nI dn), .ref b11, .ref b12, .ref b13, .int (nI mn), .int (nI pn), .int db, .int ct, .ref b18, .ref b19, .ref b20, .ref b21, .ref b22, .ref b23, .ref b24, .ref b25, .ref b26, .ref b27, .ref b28, .ref b29, .ref b30, .int (nI qn), .ref b32, .ref b33])), (b8, .inl (cI, 301, .inl a_wordSentence)), (b20, .inl (cI, 80, .inl a_who))]) [0, 1, 2] rfl
    have hD9 := hD.sub (ws' := [(h0, .inr (9, [.ref b0, .ref b1, .int (nI t0), .int (nI tl), .int (nI wn), .int sp, .ref b6, .ref b7, .ref b8, .ref b9, .int (nI dn), .ref b11, .ref b12, .ref b13, .int (nI mn), .int (nI pn), .int db, .int ct, .ref b18, .ref b19, .ref b20, .ref b21, .ref b22, .ref b23, .ref b24, .ref b25, .ref b26, .ref b27, .ref b28, .ref b29, .ref b30, .int (nI qn), .ref b32, .ref b33])), (b8, .inl (cI, 301, .inl a_wordSentence)), (b20, .inl (cI, 80, .inl a_who))]) [0, 1, 2] (by decide) rfl
    rw [← hQ]
    exact W.iret (v := (-1)) hx hb hr (fun t ht hW => ⟨⟨(-1), (), rfl, trivial, ⟨by rw [ht]; exact hP9, va_K.moved hW.alike hK, hD9⟩⟩, hS.F ht⟩) hS.2.2 dX9_look_162
  · rcases (show j_1 = 0 ∨ j_1 = 1 ∨ j_1 = 2 ∨ j_1 = 3 ∨ j_1 = 4 ∨ j_1 = 5 ∨ j_1 = 6 ∨ j_1 = 7 by omega) with rfl | rfl | rfl | rfl | rfl | rfl | rfl | rfl
    · refine lv_tableIn (tgt := 48) hx hb dX9_look_3 (by decide) (by decide) rfl (by decide) ?_
      refine lv_aload_n hx hb dX9_look_48 rfl (lv_at hl 1 rfl) ?_
      refine va_get (D := D) (ci := 9) (v := .int (nI mn)) (C := RX9) (T := TX9) (N := 34) hx hb hts hinX9 hown hK hP 0 rfl rfl 14 (by decide) (hts (.fieldLink RX9 157 "TaleReaderModel" "mentions" "I") (uc25 _ (List.mem_of_getElem? (i := 8) rfl))) (fun _ h9 => h9) rfl dX9_look_49 ?_
      have hP9 := hP.sub (ws' := [(h0, .inr (9, [.ref b0, .ref b1, .int (nI t0), .int (nI tl), .int (nI wn), .int sp, .ref b6, .ref b7, .ref b8, .ref b9, .int (nI dn), .ref b11, .ref b12, .ref b13, .int (nI mn), .int (nI pn), .int db, .int ct, .ref b18, .ref b19, .ref b20, .ref b21, .ref b22, .ref b23, .ref b24, .ref b25, .ref b26, .ref b27, .ref b28, .ref b29, .ref b30, .int (nI qn), .ref b32, .ref b33])), (b8, .inl (cI, 301, .inl a_wordSentence)), (b20, .inl (cI, 80, .inl a_who))]) [0, 1, 2] rfl
      have hD9 := hD.sub (ws' := [(h0, .inr (9, [.ref b0, .ref b1, .int (nI t0), .int (nI tl), .int (nI wn), .int sp, .ref b6, .ref b7, .ref b8, .ref b9, .int (nI dn), .ref b11, .ref b12, .ref b13, .int (nI mn), .int (nI pn), .int db, .int ct, .ref b18, .ref b19, .ref b20, .ref b21, .ref b22, .ref b23, .ref b24, .ref b25, .ref b26, .ref b27, .ref b28, .ref b29, .ref b30, .int (nI qn), .ref b32, .ref b33])), (b8, .inl (cI, 301, .inl a_wordSentence)), (b20, .inl (cI, 80, .inl a_who))]) [0, 1, 2] (by decide) rfl
      rw [← hQ]
      exact W.iret (v := nI mn) hx hb hr (fun t ht hW => ⟨⟨nI mn, (), rfl, trivial, ⟨by rw [ht]; exact hP9, va_K.moved hW.alike hK, hD9⟩⟩, hS.F ht⟩) hS.2.2 dX9_look_52
    · refine lv_tableIn (tgt := 53) hx hb dX9_look_3 (by decide) (by decide) rfl (by decide) ?_
      refine lv_aload_n hx hb dX9_look_53 rfl (lv_at hl 1 rfl) ?_
      refine va_get (D := D) (ci := 9) (v := .int (nI pn)) (C := RX9) (T := TX9) (N := 34) hx hb hts hinX9 hown hK hP 0 rfl rfl 15 (by decide) (hts (.fieldLink RX9 167 "TaleReaderModel" "persons" "I") (uc26 _ (List.mem_of_getElem? (i := 4) rfl))) (fun _ h9 => h9) rfl dX9_look_54 ?_
      have hP9 := hP.sub (ws' := [(h0, .inr (9, [.ref b0, .ref b1, .int (nI t0), .int (nI tl), .int (nI wn), .int sp, .ref b6, .ref b7, .ref b8, .ref b9, .int (nI dn), .ref b11, .ref b12, .ref b13, .int (nI mn), .int (nI pn), .int db, .int ct, .ref b18, .ref b19, .ref b20, .ref b21, .ref b22, .ref b23, .ref b24, .ref b25, .ref b26, .ref b27, .ref b28, .ref b29, .ref b30, .int (nI qn), .ref b32, .ref b33])), (b8, .inl (cI, 301, .inl a_wordSentence)), (b20, .inl (cI, 80, .inl a_who))]) [0, 1, 2] rfl
      have hD9 := hD.sub (ws' := [(h0, .inr (9, [.ref b0, .ref b1, .int (nI t0), .int (nI tl), .int (nI wn), .int sp, .ref b6, .ref b7, .ref b8, .ref b9, .int (nI dn), .ref b11, .ref b12, .ref b13, .int (nI mn), .int (nI pn), .int db, .int ct, .ref b18, .ref b19, .ref b20, .ref b21, .ref b22, .ref b23, .ref b24, .ref b25, .ref b26, .ref b27, .ref b28, .ref b29, .ref b30, .int (nI qn), .ref b32, .ref b33])), (b8, .inl (cI, 301, .inl a_wordSentence)), (b20, .inl (cI, 80, .inl a_who))]) [0, 1, 2] (by decide) rfl
      rw [← hQ]
      exact W.iret (v := nI pn) hx hb hr (fun t ht hW => ⟨⟨nI pn, (), rfl, trivial, ⟨by rw [ht]; exact hP9, va_K.moved hW.alike hK, hD9⟩⟩, hS.F ht⟩) hS.2.2 dX9_look_57
    · refine lv_tableIn (tgt := 58) hx hb dX9_look_3 (by decide) (by decide) rfl (by decide) ?_
      refine lv_aload_n hx hb dX9_look_58 rfl (lv_at hl 1 rfl) ?_
      refine va_get (D := D) (ci := 9) (v := .int (nI wn)) (C := RX9) (T := TX9) (N := 34) hx hb hts hinX9 hown hK hP 0 rfl rfl 4 (by decide) (hts (.fieldLink RX9 98 "TaleReaderModel" "words" "I") (uc25 _ (List.mem_of_getElem? (i := 13) rfl))) (fun _ h9 => h9) rfl dX9_look_59 ?_
      refine lv_if_le (tgt := 92) hx hb dX9_look_62 (by decide) (fun c_2 => ?_) (fun c_2 => ?_)
      · refine lv_aload_n hx hb dX9_look_92 rfl (lv_at hl 1 rfl) ?_
        refine va_get (D := D) (ci := 9) (v := .int sp) (C := RX9) (T := TX9) (N := 34) hx hb hts hinX9 hown hK hP 0 rfl rfl 5 (by decide) (hts (.fieldLink RX9 101 "TaleReaderModel" "stops" "I") (uc25 _ (List.mem_of_getElem? (i := 14) rfl))) (fun _ h9 => h9) rfl dX9_look_93 ?_
        have hP9 := hP.sub (ws' := [(h0, .inr (9, [.ref b0, .ref b1, .int (nI t0), .int (nI tl), .int (nI wn), .int sp, .ref b6, .ref b7, .ref b8, .ref b9, .int (nI dn), .ref b11, .ref b12, .ref b13, .int (nI mn), .int (nI pn), .int db, .int ct, .ref b18, .ref b19, .ref b20, .ref b21, .ref b22, .ref b23, .ref b24, .ref b25, .ref b26, .ref b27, .ref b28, .ref b29, .ref b30, .int (nI qn), .ref b32, .ref b33])), (b8, .inl (cI, 301, .inl a_wordSentence)), (b20, .inl (cI, 80, .inl a_who))]) [0, 1, 2] rfl
        have hD9 := hD.sub (ws' := [(h0, .inr (9, [.ref b0, .ref b1, .int (nI t0), .int (nI tl), .int (nI wn), .int sp, .ref b6, .ref b7, .ref b8, .ref b9, .int (nI dn), .ref b11, .ref b12, .ref b13, .int (nI mn), .int (nI pn), .int db, .int ct, .ref b18, .ref b19, .ref b20, .ref b21, .ref b22, .ref b23, .ref b24, .ref b25, .ref b26, .ref b27, .ref b28, .ref b29, .ref b30, .int (nI qn), .ref b32, .ref b33])), (b8, .inl (cI, 301, .inl a_wordSentence)), (b20, .inl (cI, 80, .inl a_who))]) [0, 1, 2] (by decide) rfl
        rw [← hQ]
        exact W.iret (v := sp) hx hb hr (fun t ht hW => ⟨⟨sp, (), rfl, trivial, ⟨by rw [ht]; exact hP9, va_K.moved hW.alike hK, hD9⟩⟩, hS.F ht⟩) hS.2.2 dX9_look_96
      · have hw1 : 1 ≤ wn := Nat.succ_le_of_lt (Nat.lt_of_not_le (fun q => c_2 (nI_le (b := 0) q (by omega))))
        refine lv_aload_n hx hb dX9_look_65 rfl (lv_at hl 1 rfl) ?_
        refine va_get (D := D) (ci := 9) (v := .ref b8) (C := RX9) (T := TX9) (N := 34) hx hb hts hinX9 hown hK hP 0 rfl rfl 8 (by decide) (hts (.fieldLink RX9 22 "TaleReaderModel" "wordSentence" "[I") (uc6 _ (List.mem_of_getElem? (i := 21) rfl))) (fun _ h9 => h9) rfl dX9_look_66 ?_
        refine lv_aload_n hx hb dX9_look_69 rfl (lv_at hl 1 rfl) ?_
        refine va_get (D := D) (ci := 9) (v := .int (nI wn)) (C := RX9) (T := TX9) (N := 34) hx hb hts hinX9 hown hK hP 0 rfl rfl 4 (by decide) (hts (.fieldLink RX9 98 "TaleReaderModel" "words" "I") (uc25 _ (List.mem_of_getElem? (i := 13) rfl))) (fun _ h9 => h9) rfl dX9_look_70 ?_
        refine lv_iconst (v := 1) hx hb dX9_look_73 (by decide) ?_
        refine lv_isub hx hb dX9_look_74 ?_
        refine lv_topi (fun z_3 ez_3 => ?_)
        obtain rfl : z_3 = nI (wn - 1) := ez_3.trans (pk_sub (b := 1) (by omega))
        refine va_iald (D := D) hx hb hK hP 1 1 rfl rfl (vp_in_nI (by omega) (by omega)) dX9_look_75 ?_
        refine lv_topi (fun v_4 ev_4 => ?_)
        refine lv_aload_n hx hb dX9_look_76 rfl (lv_at hl 1 rfl) ?_
        refine va_get (D := D) (ci := 9) (v := .int sp) (C := RX9) (T := TX9) (N := 34) hx hb hts hinX9 hown hK hP 0 rfl rfl 5 (by decide) (hts (.fieldLink RX9 101 "TaleReaderModel" "stops" "I") (uc25 _ (List.mem_of_getElem? (i := 14) rfl))) (fun _ h9 => h9) rfl dX9_look_77 ?_
        refine lv_icmp_ne (tgt := 92) hx hb dX9_look_80 (by decide) (fun c_5 => ?_) (fun c_5 => ?_)
        · refine lv_aload_n hx hb dX9_look_92 rfl (lv_at hl 1 rfl) ?_
          refine va_get (D := D) (ci := 9) (v := .int sp) (C := RX9) (T := TX9) (N := 34) hx hb hts hinX9 hown hK hP 0 rfl rfl 5 (by decide) (hts (.fieldLink RX9 101 "TaleReaderModel" "stops" "I") (uc25 _ (List.mem_of_getElem? (i := 14) rfl))) (fun _ h9 => h9) rfl dX9_look_93 ?_
          have hP9 := hP.sub (ws' := [(h0, .inr (9, [.ref b0, .ref b1, .int (nI t0), .int (nI tl), .int (nI wn), .int sp, .ref b6, .ref b7, .ref b8, .ref b9, .int (nI dn), .ref b11, .ref b12, .ref b13, .int (nI mn), .int (nI pn), .int db, .int ct, .ref b18, .ref b19, .ref b20, .ref b21, .ref b22, .ref b23, .ref b24, .ref b25, .ref b26, .ref b27, .ref b28, .ref b29, .ref b30, .int (nI qn), .ref b32, .ref b33])), (b8, .inl (cI, 301, .inl a_wordSentence)), (b20, .inl (cI, 80, .inl a_who))]) [0, 1, 2] rfl
          have hD9 := hD.sub (ws' := [(h0, .inr (9, [.ref b0, .ref b1, .int (nI t0), .int (nI tl), .int (nI wn), .int sp, .ref b6, .ref b7, .ref b8, .ref b9, .int (nI dn), .ref b11, .ref b12, .ref b13, .int (nI mn), .int (nI pn), .int db, .int ct, .ref b18, .ref b19, .ref b20, .ref b21, .ref b22, .ref b23, .ref b24, .ref b25, .ref b26, .ref b27, .ref b28, .ref b29, .ref b30, .int (nI qn), .ref b32, .ref b33])), (b8, .inl (cI, 301, .inl a_wordSentence)), (b20, .inl (cI, 80, .inl a_who))]) [0, 1, 2] (by decide) rfl
          rw [← hQ]
          exact W.iret (v := sp) hx hb hr (fun t ht hW => ⟨⟨sp, (), rfl, trivial, ⟨by rw [ht]; exact hP9, va_K.moved hW.alike hK, hD9⟩⟩, hS.F ht⟩) hS.2.2 dX9_look_96
        · refine lv_aload_n hx hb dX9_look_83 rfl (lv_at hl 1 rfl) ?_
          refine va_get (D := D) (ci := 9) (v := .int sp) (C := RX9) (T := TX9) (N := 34) hx hb hts hinX9 hown hK hP 0 rfl rfl 5 (by decide) (hts (.fieldLink RX9 101 "TaleReaderModel" "stops" "I") (uc25 _ (List.mem_of_getElem? (i := 14) rfl))) (fun _ h9 => h9) rfl dX9_look_84 ?_
          refine lv_iconst (v := 1) hx hb dX9_look_87 (by decide) ?_
          refine lv_iadd hx hb dX9_look_88 ?_
          refine lv_topi (fun v_6 ev_6 => ?_)
          refine lv_goto (tgt := 96) hx hb dX9_look_89 (by decide) ?_
          have hP9 := hP.sub (ws' := [(h0, .inr (9, [.ref b0, .ref b1, .int (nI t0), .int (nI tl), .int (nI wn), .int sp, .ref b6, .ref b7, .ref b8, .ref b9, .int (nI dn), .ref b11, .ref b12, .ref b13, .int (nI mn), .int (nI pn), .int db, .int ct, .ref b18, .ref b19, .ref b20, .ref b21, .ref b22, .ref b23, .ref b24, .ref b25, .ref b26, .ref b27, .ref b28, .ref b29, .ref b30, .int (nI qn), .ref b32, .ref b33])), (b8, .inl (cI, 301, .inl a_wordSentence)), (b20, .inl (cI, 80, .inl a_who))]) [0, 1, 2] rfl
          have hD9 := hD.sub (ws' := [(h0, .inr (9, [.ref b0, .ref b1, .int (nI t0), .int (nI tl), .int (nI wn), .int sp, .ref b6, .ref b7, .ref b8, .ref b9, .int (nI dn), .ref b11, .ref b12, .ref b13, .int (nI mn), .int (nI pn), .int db, .int ct, .ref b18, .ref b19, .ref b20, .ref b21, .ref b22, .ref b23, .ref b24, .ref b25, .ref b26, .ref b27, .ref b28, .ref b29, .ref b30, .int (nI qn), .ref b32, .ref b33])), (b8, .inl (cI, 301, .inl a_wordSentence)), (b20, .inl (cI, 80, .inl a_who))]) [0, 1, 2] (by decide) rfl
          rw [← hQ]
          exact W.iret (v := v_6) hx hb hr (fun t ht hW => ⟨⟨v_6, (), rfl, trivial, ⟨by rw [ht]; exact hP9, va_K.moved hW.alike hK, hD9⟩⟩, hS.F ht⟩) hS.2.2 dX9_look_96
    · refine lv_tableIn (tgt := 97) hx hb dX9_look_3 (by decide) (by decide) rfl (by decide) ?_
      refine lv_aload_n hx hb dX9_look_97 rfl (lv_at hl 1 rfl) ?_
      refine va_get (D := D) (ci := 9) (v := .int db) (C := RX9) (T := TX9) (N := 34) hx hb hts hinX9 hown hK hP 0 rfl rfl 16 (by decide) (hts (.fieldLink RX9 221 "TaleReaderModel" "doubts" "I") (uc26 _ (List.mem_of_getElem? (i := 5) rfl))) (fun _ h9 => h9) rfl dX9_look_98 ?_
      have hP9 := hP.sub (ws' := [(h0, .inr (9, [.ref b0, .ref b1, .int (nI t0), .int (nI tl), .int (nI wn), .int sp, .ref b6, .ref b7, .ref b8, .ref b9, .int (nI dn), .ref b11, .ref b12, .ref b13, .int (nI mn), .int (nI pn), .int db, .int ct, .ref b18, .ref b19, .ref b20, .ref b21, .ref b22, .ref b23, .ref b24, .ref b25, .ref b26, .ref b27, .ref b28, .ref b29, .ref b30, .int (nI qn), .ref b32, .ref b33])), (b8, .inl (cI, 301, .inl a_wordSentence)), (b20, .inl (cI, 80, .inl a_who))]) [0, 1, 2] rfl
      have hD9 := hD.sub (ws' := [(h0, .inr (9, [.ref b0, .ref b1, .int (nI t0), .int (nI tl), .int (nI wn), .int sp, .ref b6, .ref b7, .ref b8, .ref b9, .int (nI dn), .ref b11, .ref b12, .ref b13, .int (nI mn), .int (nI pn), .int db, .int ct, .ref b18, .ref b19, .ref b20, .ref b21, .ref b22, .ref b23, .ref b24, .ref b25, .ref b26, .ref b27, .ref b28, .ref b29, .ref b30, .int (nI qn), .ref b32, .ref b33])), (b8, .inl (cI, 301, .inl a_wordSentence)), (b20, .inl (cI, 80, .inl a_who))]) [0, 1, 2] (by decide) rfl
      rw [← hQ]
      exact W.iret (v := db) hx hb hr (fun t ht hW => ⟨⟨db, (), rfl, trivial, ⟨by rw [ht]; exact hP9, va_K.moved hW.alike hK, hD9⟩⟩, hS.F ht⟩) hS.2.2 dX9_look_101
    · refine lv_tableIn (tgt := 102) hx hb dX9_look_3 (by decide) (by decide) rfl (by decide) ?_
      refine lv_iconst (v := 0) hx hb dX9_look_102 (by decide) ?_
      refine lv_istore_n (lv' := [(3, .int 0), (2, .int 0), (0, .ref h0), (1, .int (nI 4))]) hx hb dX9_look_103 rfl hl (by decide) rfl (fun ls hl => ?_)
      have loop_7 : ∀ (nn_9 : Nat) (i : Nat) (v2 : Int32), (i ≤ 600) → (mn - i < nn_9) → ∀ (H : Heap) (locs : List Loc) (ls : Array Slot), va_P D vwCl [(h0, .inr (9, [.ref b0, .ref b1, .int (nI t0), .int (nI tl), .int (nI wn), .int sp, .ref b6, .ref b7, .ref b8, .ref b9, .int (nI dn), .ref b11, .ref b12, .ref b13, .int (nI mn), .int (nI pn), .int db, .int ct, .ref b18, .ref b19, .ref b20, .ref b21, .ref b22, .ref b23, .ref b24, .ref b25, .ref b26, .ref b27, .ref b28, .ref b29, .ref b30, .int (nI qn), .ref b32, .ref b33])), (b8, .inl (cI, 301, .inl a_wordSentence)), (b20, .inl (cI, 80, .inl a_who))] H → va_D A [(h0, .inr (9, [.ref b0, .ref b1, .int (nI t0), .int (nI tl), .int (nI wn), .int sp, .ref b6, .ref b7, .ref b8, .ref b9, .int (nI dn), .ref b11, .ref b12, .ref b13, .int (nI mn), .int (nI pn), .int db, .int ct, .ref b18, .ref b19, .ref b20, .ref b21, .ref b22, .ref b23, .ref b24, .ref b25, .ref b26, .ref b27, .ref b28, .ref b29, .ref b30, .int (nI qn), .ref b32, .ref b33])), (b8, .inl (cI, 301, .inl a_wordSentence)), (b20, .inl (cI, 80, .inl a_who))] → va_S A s.heap H locs → lv_has ls 4 [(0, .ref h0), (2, .int v2), (3, .int (nI i))] → W p l e ({ frames := 0, cells := 0, slots := 0, locals := 0 } : Room) s m ([.ref h0, .int (nI 4)] : List Value).toArray below meth cd H locs 0 0 Q (F0 m 104 ls []) := by
        intro nn_9
        induction nn_9 with
        | zero => intros; exact absurd ‹_ < 0› (Nat.not_lt_zero _)
        | succ nn_9 ih_8 =>
          intro i v2 hi600 hmu H locs ls hP hD hS hl
          refine lv_iload_n hx hb dX9_look_104 rfl (lv_at hl 2 rfl) ?_
          refine lv_aload_n hx hb dX9_look_105 rfl (lv_at hl 0 rfl) ?_
          refine va_get (D := D) (ci := 9) (v := .int (nI mn)) (C := RX9) (T := TX9) (N := 34) hx hb hts hinX9 hown hK hP 0 rfl rfl 14 (by decide) (hts (.fieldLink RX9 157 "TaleReaderModel" "mentions" "I") (uc25 _ (List.mem_of_getElem? (i := 8) rfl))) (fun _ h9 => h9) rfl dX9_look_106 ?_
          refine lv_icmp_ge (tgt := 136) hx hb dX9_look_109 (by decide) (fun c_10 => ?_) (fun c_10 => ?_)
          · refine lv_iload_n hx hb dX9_look_136 rfl (lv_at hl 1 rfl) ?_
            have hP9 := hP.sub (ws' := [(h0, .inr (9, [.ref b0, .ref b1, .int (nI t0), .int (nI tl), .int (nI wn), .int sp, .ref b6, .ref b7, .ref b8, .ref b9, .int (nI dn), .ref b11, .ref b12, .ref b13, .int (nI mn), .int (nI pn), .int db, .int ct, .ref b18, .ref b19, .ref b20, .ref b21, .ref b22, .ref b23, .ref b24, .ref b25, .ref b26, .ref b27, .ref b28, .ref b29, .ref b30, .int (nI qn), .ref b32, .ref b33])), (b8, .inl (cI, 301, .inl a_wordSentence)), (b20, .inl (cI, 80, .inl a_who))]) [0, 1, 2] rfl
            have hD9 := hD.sub (ws' := [(h0, .inr (9, [.ref b0, .ref b1, .int (nI t0), .int (nI tl), .int (nI wn), .int sp, .ref b6, .ref b7, .ref b8, .ref b9, .int (nI dn), .ref b11, .ref b12, .ref b13, .int (nI mn), .int (nI pn), .int db, .int ct, .ref b18, .ref b19, .ref b20, .ref b21, .ref b22, .ref b23, .ref b24, .ref b25, .ref b26, .ref b27, .ref b28, .ref b29, .ref b30, .int (nI qn), .ref b32, .ref b33])), (b8, .inl (cI, 301, .inl a_wordSentence)), (b20, .inl (cI, 80, .inl a_who))]) [0, 1, 2] (by decide) rfl
            rw [← hQ]
            exact W.iret (v := v2) hx hb hr (fun t ht hW => ⟨⟨v2, (), rfl, trivial, ⟨by rw [ht]; exact hP9, va_K.moved hW.alike hK, hD9⟩⟩, hS.F ht⟩) hS.2.2 dX9_look_137
          · have hlt_i : i < mn := Nat.lt_of_not_le (fun q => c_10 (nI_le q (by omega)))
            refine lv_iload_n hx hb dX9_look_112 rfl (lv_at hl 1 rfl) ?_
            refine lv_aload_n hx hb dX9_look_113 rfl (lv_at hl 0 rfl) ?_
            refine va_get (D := D) (ci := 9) (v := .ref b20) (C := RX9) (T := TX9) (N := 34) hx hb hts hinX9 hown hK hP 0 rfl rfl 20 (by decide) (hts (.fieldLink RX9 44 "TaleReaderModel" "who" "[I") (uc7 _ (List.mem_of_getElem? (i := 4) rfl))) (fun _ h9 => h9) rfl dX9_look_114 ?_
            refine lv_iload_n hx hb dX9_look_117 rfl (lv_at hl 2 rfl) ?_
            refine va_iald (D := D) hx hb hK hP 2 1 rfl rfl (vp_in_nI (by omega) (by omega)) dX9_look_118 ?_
            refine lv_topi (fun v_11 ev_11 => ?_)
            refine lv_iconst (v := (-1)) hx hb dX9_look_119 (by decide) ?_
            refine lv_icmp_ne (tgt := 127) hx hb dX9_look_120 (by decide) (fun c_12 => ?_) (fun c_12 => ?_)
            · refine lv_iconst (v := 0) hx hb dX9_look_127 (by decide) ?_
              refine lv_iadd hx hb dX9_look_128 ?_
              refine lv_topi (fun v_13 ev_13 => ?_)
              refine lv_istore_n (lv' := [(2, .int v_13), (0, .ref h0), (3, .int (nI i))]) hx hb dX9_look_129 rfl hl (by decide) rfl (fun ls hl => ?_)
              refine lv_iinc (v := nI (i + 1)) (lv' := [(3, .int (nI (i + 1))), (2, .int v_13), (0, .ref h0)]) hx hb dX9_look_130 hl (k := 2) rfl (nI_add i 1) (by decide) rfl (fun ls hl => ?_)
              refine lv_goto (tgt := 104) hx hb dX9_look_133 (by decide) ?_
              exact ih_8 (i + 1) v_13 (by first | assumption | exact Or.inl rfl | exact Or.inr rfl | omega) (by omega) H _ ls (hP.sub (ws' := [(h0, .inr (9, [.ref b0, .ref b1, .int (nI t0), .int (nI tl), .int (nI wn), .int sp, .ref b6, .ref b7, .ref b8, .ref b9, .int (nI dn), .ref b11, .ref b12, .ref b13, .int (nI mn), .int (nI pn), .int db, .int ct, .ref b18, .ref b19, .ref b20, .ref b21, .ref b22, .ref b23, .ref b24, .ref b25, .ref b26, .ref b27, .ref b28, .ref b29, .ref b30, .int (nI qn), .ref b32, .ref b33])), (b8, .inl (cI, 301, .inl a_wordSentence)), (b20, .inl (cI, 80, .inl a_who))]) [0, 1, 2] rfl) (hD.sub (ws' := [(h0, .inr (9, [.ref b0, .ref b1, .int (nI t0), .int (nI tl), .int (nI wn), .int sp, .ref b6, .ref b7, .ref b8, .ref b9, .int (nI dn), .ref b11, .ref b12, .ref b13, .int (nI mn), .int (nI pn), .int db, .int ct, .ref b18, .ref b19, .ref b20, .ref b21, .ref b22, .ref b23, .ref b24, .ref b25, .ref b26, .ref b27, .ref b28, .ref b29, .ref b30, .int (nI qn), .ref b32, .ref b33])), (b8, .inl (cI, 301, .inl a_wordSentence)), (b20, .inl (cI, 80, .inl a_who))]) [0, 1, 2] (by decide) rfl) hS (lv_sub hl [2, 1, 0] rfl)
            · refine lv_iconst (v := 1) hx hb dX9_look_123 (by decide) ?_
              refine lv_goto (tgt := 128) hx hb dX9_look_124 (by decide) ?_
              refine lv_iadd hx hb dX9_look_128 ?_
              refine lv_topi (fun v_14 ev_14 => ?_)
              refine lv_istore_n (lv' := [(2, .int v_14), (0, .ref h0), (3, .int (nI i))]) hx hb dX9_look_129 rfl hl (by decide) rfl (fun ls hl => ?_)
              refine lv_iinc (v := nI (i + 1)) (lv' := [(3, .int (nI (i + 1))), (2, .int v_14), (0, .ref h0)]) hx hb dX9_look_130 hl (k := 2) rfl (nI_add i 1) (by decide) rfl (fun ls hl => ?_)
              refine lv_goto (tgt := 104) hx hb dX9_look_133 (by decide) ?_
              exact ih_8 (i + 1) v_14 (by first | assumption | exact Or.inl rfl | exact Or.inr rfl | omega) (by omega) H _ ls (hP.sub (ws' := [(h0, .inr (9, [.ref b0, .ref b1, .int (nI t0), .int (nI tl), .int (nI wn), .int sp, .ref b6, .ref b7, .ref b8, .ref b9, .int (nI dn), .ref b11, .ref b12, .ref b13, .int (nI mn), .int (nI pn), .int db, .int ct, .ref b18, .ref b19, .ref b20, .ref b21, .ref b22, .ref b23, .ref b24, .ref b25, .ref b26, .ref b27, .ref b28, .ref b29, .ref b30, .int (nI qn), .ref b32, .ref b33])), (b8, .inl (cI, 301, .inl a_wordSentence)), (b20, .inl (cI, 80, .inl a_who))]) [0, 1, 2] rfl) (hD.sub (ws' := [(h0, .inr (9, [.ref b0, .ref b1, .int (nI t0), .int (nI tl), .int (nI wn), .int sp, .ref b6, .ref b7, .ref b8, .ref b9, .int (nI dn), .ref b11, .ref b12, .ref b13, .int (nI mn), .int (nI pn), .int db, .int ct, .ref b18, .ref b19, .ref b20, .ref b21, .ref b22, .ref b23, .ref b24, .ref b25, .ref b26, .ref b27, .ref b28, .ref b29, .ref b30, .int (nI qn), .ref b32, .ref b33])), (b8, .inl (cI, 301, .inl a_wordSentence)), (b20, .inl (cI, 80, .inl a_who))]) [0, 1, 2] (by decide) rfl) hS (lv_sub hl [2, 1, 0] rfl)
      exact loop_7 _ 0 0 (by first | assumption | exact Or.inl rfl | exact Or.inr rfl | omega) (Nat.lt_succ_self _) s.heap _ ls (hP.sub (ws' := [(h0, .inr (9, [.ref b0, .ref b1, .int (nI t0), .int (nI tl), .int (nI wn), .int sp, .ref b6, .ref b7, .ref b8, .ref b9, .int (nI dn), .ref b11, .ref b12, .ref b13, .int (nI mn), .int (nI pn), .int db, .int ct, .ref b18, .ref b19, .ref b20, .ref b21, .ref b22, .ref b23, .ref b24, .ref b25, .ref b26, .ref b27, .ref b28, .ref b29, .ref b30, .int (nI qn), .ref b32, .ref b33])), (b8, .inl (cI, 301, .inl a_wordSentence)), (b20, .inl (cI, 80, .inl a_who))]) [0, 1, 2] rfl) (hD.sub (ws' := [(h0, .inr (9, [.ref b0, .ref b1, .int (nI t0), .int (nI tl), .int (nI wn), .int sp, .ref b6, .ref b7, .ref b8, .ref b9, .int (nI dn), .ref b11, .ref b12, .ref b13, .int (nI mn), .int (nI pn), .int db, .int ct, .ref b18, .ref b19, .ref b20, .ref b21, .ref b22, .ref b23, .ref b24, .ref b25, .ref b26, .ref b27, .ref b28, .ref b29, .ref b30, .int (nI qn), .ref b32, .ref b33])), (b8, .inl (cI, 301, .inl a_wordSentence)), (b20, .inl (cI, 80, .inl a_who))]) [0, 1, 2] (by decide) rfl) hS (lv_sub hl [2, 1, 0] rfl)
    · refine lv_tableIn (tgt := 138) hx hb dX9_look_3 (by decide) (by decide) rfl (by decide) ?_
      refine lv_aload_n hx hb dX9_look_138 rfl (lv_at hl 1 rfl) ?_
      refine va_get (D := D) (ci := 9) (v := .int ct) (C := RX9) (T := TX9) (N := 34) hx hb hts hinX9 hown hK hP 0 rfl rfl 17 (by decide) (hts (.fieldLink RX9 160 "TaleReaderModel" "isCut" "Z") (uc26 _ (List.mem_of_getElem? (i := 10) rfl))) (fun _ h9 => h9) rfl dX9_look_139 ?_
      refine lv_if_eq (tgt := 149) hx hb dX9_look_142 (by decide) (fun c_15 => ?_) (fun c_15 => ?_)
      · refine lv_iconst (v := 0) hx hb dX9_look_149 (by decide) ?_
        have hP9 := hP.sub (ws' := [(h0, .inr (9, [.ref b0, .ref b1, .int (nI t0), .int (nI tl), .int (nI wn), .int sp, .ref b6, .ref b7, .ref b8, .ref b9, .int (nI dn), .ref b11, .ref b12, .ref b13, .int (nI mn), .int (nI pn), .int db, .int ct, .ref b18, .ref b19, .ref b20, .ref b21, .ref b22, .ref b23, .ref b24, .ref b25, .ref b26, .ref b27, .ref b28, .ref b29, .ref b30, .int (nI qn), .ref b32, .ref b33])), (b8, .inl (cI, 301, .inl a_wordSentence)), (b20, .inl (cI, 80, .inl a_who))]) [0, 1, 2] rfl
        have hD9 := hD.sub (ws' := [(h0, .inr (9, [.ref b0, .ref b1, .int (nI t0), .int (nI tl), .int (nI wn), .int sp, .ref b6, .ref b7, .ref b8, .ref b9, .int (nI dn), .ref b11, .ref b12, .ref b13, .int (nI mn), .int (nI pn), .int db, .int ct, .ref b18, .ref b19, .ref b20, .ref b21, .ref b22, .ref b23, .ref b24, .ref b25, .ref b26, .ref b27, .ref b28, .ref b29, .ref b30, .int (nI qn), .ref b32, .ref b33])), (b8, .inl (cI, 301, .inl a_wordSentence)), (b20, .inl (cI, 80, .inl a_who))]) [0, 1, 2] (by decide) rfl
        rw [← hQ]
        exact W.iret (v := 0) hx hb hr (fun t ht hW => ⟨⟨0, (), rfl, trivial, ⟨by rw [ht]; exact hP9, va_K.moved hW.alike hK, hD9⟩⟩, hS.F ht⟩) hS.2.2 dX9_look_150
      · refine lv_iconst (v := 1) hx hb dX9_look_145 (by decide) ?_
        refine lv_goto (tgt := 150) hx hb dX9_look_146 (by decide) ?_
        have hP9 := hP.sub (ws' := [(h0, .inr (9, [.ref b0, .ref b1, .int (nI t0), .int (nI tl), .int (nI wn), .int sp, .ref b6, .ref b7, .ref b8, .ref b9, .int (nI dn), .ref b11, .ref b12, .ref b13, .int (nI mn), .int (nI pn), .int db, .int ct, .ref b18, .ref b19, .ref b20, .ref b21, .ref b22, .ref b23, .ref b24, .ref b25, .ref b26, .ref b27, .ref b28, .ref b29, .ref b30, .int (nI qn), .ref b32, .ref b33])), (b8, .inl (cI, 301, .inl a_wordSentence)), (b20, .inl (cI, 80, .inl a_who))]) [0, 1, 2] rfl
        have hD9 := hD.sub (ws' := [(h0, .inr (9, [.ref b0, .ref b1, .int (nI t0), .int (nI tl), .int (nI wn), .int sp, .ref b6, .ref b7, .ref b8, .ref b9, .int (nI dn), .ref b11, .ref b12, .ref b13, .int (nI mn), .int (nI pn), .int db, .int ct, .ref b18, .ref b19, .ref b20, .ref b21, .ref b22, .ref b23, .ref b24, .ref b25, .ref b26, .ref b27, .ref b28, .ref b29, .ref b30, .int (nI qn), .ref b32, .ref b33])), (b8, .inl (cI, 301, .inl a_wordSentence)), (b20, .inl (cI, 80, .inl a_who))]) [0, 1, 2] (by decide) rfl
        rw [← hQ]
        exact W.iret (v := 1) hx hb hr (fun t ht hW => ⟨⟨1, (), rfl, trivial, ⟨by rw [ht]; exact hP9, va_K.moved hW.alike hK, hD9⟩⟩, hS.F ht⟩) hS.2.2 dX9_look_150
    · refine lv_tableIn (tgt := 151) hx hb dX9_look_3 (by decide) (by decide) rfl (by decide) ?_
      refine lv_aload_n hx hb dX9_look_151 rfl (lv_at hl 1 rfl) ?_
      refine va_get (D := D) (ci := 9) (v := .int (nI qn)) (C := RX9) (T := TX9) (N := 34) hx hb hts hinX9 hown hK hP 0 rfl rfl 31 (by decide) (hts (.fieldLink RX9 190 "TaleReaderModel" "pins" "I") (uc25 _ (List.mem_of_getElem? (i := 7) rfl))) (fun _ h9 => h9) rfl dX9_look_152 ?_
      have hP9 := hP.sub (ws' := [(h0, .inr (9, [.ref b0, .ref b1, .int (nI t0), .int (nI tl), .int (nI wn), .int sp, .ref b6, .ref b7, .ref b8, .ref b9, .int (nI dn), .ref b11, .ref b12, .ref b13, .int (nI mn), .int (nI pn), .int db, .int ct, .ref b18, .ref b19, .ref b20, .ref b21, .ref b22, .ref b23, .ref b24, .ref b25, .ref b26, .ref b27, .ref b28, .ref b29, .ref b30, .int (nI qn), .ref b32, .ref b33])), (b8, .inl (cI, 301, .inl a_wordSentence)), (b20, .inl (cI, 80, .inl a_who))]) [0, 1, 2] rfl
      have hD9 := hD.sub (ws' := [(h0, .inr (9, [.ref b0, .ref b1, .int (nI t0), .int (nI tl), .int (nI wn), .int sp, .ref b6, .ref b7, .ref b8, .ref b9, .int (nI dn), .ref b11, .ref b12, .ref b13, .int (nI mn), .int (nI pn), .int db, .int ct, .ref b18, .ref b19, .ref b20, .ref b21, .ref b22, .ref b23, .ref b24, .ref b25, .ref b26, .ref b27, .ref b28, .ref b29, .ref b30, .int (nI qn), .ref b32, .ref b33])), (b8, .inl (cI, 301, .inl a_wordSentence)), (b20, .inl (cI, 80, .inl a_who))]) [0, 1, 2] (by decide) rfl
      rw [← hQ]
      exact W.iret (v := nI qn) hx hb hr (fun t ht hW => ⟨⟨nI qn, (), rfl, trivial, ⟨by rw [ht]; exact hP9, va_K.moved hW.alike hK, hD9⟩⟩, hS.F ht⟩) hS.2.2 dX9_look_155
    · refine lv_tableIn (tgt := 156) hx hb dX9_look_3 (by decide) (by decide) rfl (by decide) ?_
      refine lv_aload_n hx hb dX9_look_156 rfl (lv_at hl 1 rfl) ?_
      refine va_get (D := D) (ci := 9) (v := .int (nI dn)) (C := RX9) (T := TX9) (N := 34) hx hb hts hinX9 hown hK hP 0 rfl rfl 10 (by decide) (hts (.fieldLink RX9 132 "TaleReaderModel" "toldMany" "I") (uc27 _ (List.mem_of_getElem? (i := 17) rfl))) (fun _ h9 => h9) rfl dX9_look_157 ?_
      have hP9 := hP.sub (ws' := [(h0, .inr (9, [.ref b0, .ref b1, .int (nI t0), .int (nI tl), .int (nI wn), .int sp, .ref b6, .ref b7, .ref b8, .ref b9, .int (nI dn), .ref b11, .ref b12, .ref b13, .int (nI mn), .int (nI pn), .int db, .int ct, .ref b18, .ref b19, .ref b20, .ref b21, .ref b22, .ref b23, .ref b24, .ref b25, .ref b26, .ref b27, .ref b28, .ref b29, .ref b30, .int (nI qn), .ref b32, .ref b33])), (b8, .inl (cI, 301, .inl a_wordSentence)), (b20, .inl (cI, 80, .inl a_who))]) [0, 1, 2] rfl
      have hD9 := hD.sub (ws' := [(h0, .inr (9, [.ref b0, .ref b1, .int (nI t0), .int (nI tl), .int (nI wn), .int sp, .ref b6, .ref b7, .ref b8, .ref b9, .int (nI dn), .ref b11, .ref b12, .ref b13, .int (nI mn), .int (nI pn), .int db, .int ct, .ref b18, .ref b19, .ref b20, .ref b21, .ref b22, .ref b23, .ref b24, .ref b25, .ref b26, .ref b27, .ref b28, .ref b29, .ref b30, .int (nI qn), .ref b32, .ref b33])), (b8, .inl (cI, 301, .inl a_wordSentence)), (b20, .inl (cI, 80, .inl a_who))]) [0, 1, 2] (by decide) rfl
      rw [← hQ]
      exact W.iret (v := nI dn) hx hb hr (fun t ht hW => ⟨⟨nI dn, (), rfl, trivial, ⟨by rw [ht]; exact hP9, va_K.moved hW.alike hK, hD9⟩⟩, hS.F ht⟩) hS.2.2 dX9_look_160
