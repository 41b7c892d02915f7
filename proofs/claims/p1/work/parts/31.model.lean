set_option maxHeartbeats 4000000 in
set_option maxRecDepth 100000 in
theorem c_X9_isIn (l : Launch) (D : va_G) (cB cI cZ : ClassId) (sz : Nat) (k : Int32) (x : Int32) (y : Int32) : Met l yX9_isIn (.code yX9_isIn cX9_isIn 3 (some .boolean) :: wsL_law) ({ frames := 0, cells := 0, slots := 0, locals := 0 } : Room) (va_Pc [.int k, .int x, .int y] (pIn D (pT cB cI cZ) sz [])) (va_Qi (fun (r : Int32) (u : Unit) => ((r = 0) ∧ (k < x ∨ y < k)) ∨ ((r = 1) ∧ (¬ k < x) ∧ (¬ y < k))) (fun (u : Unit) (t : State) => pAt D (pT cB cI cZ) (va_A [] sz) [] t) (va_A [] sz)) 0 0 (va_A [] sz) := by
  refine Met.ofW (cc := cX9_isIn) (maxL := 3) (ret := (some .boolean)) (by decide) rfl ?_
  intro p e s m args below meth c s₁ B hml hv
  obtain ⟨rfl, hsz, hP, hK, hD0⟩ := hv
  have hx := B.exec
  have hb := B.bytes
  have hr := B.returns
  have hts0 := atoms_spec (ws := .code yX9_isIn cX9_isIn 3 (some .boolean) :: wsL_law) B.pre
  have hts := fun (w : Cond) (h : w ∈ wsL_law) => hts0 w (List.mem_cons_of_mem _ h)
  have hown : s.vm.findClass RX9 = some m.cls := findClass_of_methodNamed B.named
  have hlocks := B.notSynchronized
  subst hsz
  have hD := hD0.self (sz := s.heap.size)
  generalize hAe : va_A [] s.heap.size = A at hD ⊢
  have hA : ∀ q : Nat, s.heap.size ≤ q → A q := fun q h => by rw [← hAe]; exact Or.inr h
  have hS : va_S A s.heap s.heap [] := va_S.rf
  have hP : va_P D vwCl [] s.heap := hP
  have hl := lv_entry ([.int k, .int x, .int y]) (n := 3) (Nat.le_of_ble_eq_true rfl)
  rw [lg_entry_eq]
  generalize (lg_sl ([.int k, .int x, .int y]) ++ List.replicate (3 - (lg_sl ([.int k, .int x, .int y])).length) Slot.unset).toArray = ls at hl ⊢
  have hl : lv_has ls 3 [(0, .int k), (1, .int x), (2, .int y)] := hl
  refine lv_iload_n hx hb dX9_isIn_0 rfl (lv_at hl 0 rfl) ?_
  refine lv_iload_n hx hb dX9_isIn_1 rfl (lv_at hl 1 rfl) ?_
  refine lv_icmp_lt (tgt := 14) hx hb dX9_isIn_2 (by decide) (fun c_1 => ?_) (fun c_1 => ?_)
  · refine lv_iconst (v := 0) hx hb dX9_isIn_14 (by decide) ?_
    have hP9 := hP.sub (ws' := []) [] rfl
    have hD9 := hD.sub (ws' := []) [] (by decide) rfl
    exact W.zret (v := 0) hx hb hr (rfl) (fun t ht hW => ⟨⟨0, (), rfl, Or.inl (⟨rfl, Or.inl c_1⟩), ⟨by rw [ht]; exact hP9, va_K.moved hW.alike hK, hD9⟩⟩, hS.F ht⟩) hS.2.2 dX9_isIn_15
  · refine lv_iload_n hx hb dX9_isIn_5 rfl (lv_at hl 0 rfl) ?_
    refine lv_iload_n hx hb dX9_isIn_6 rfl (lv_at hl 2 rfl) ?_
    refine lv_icmp_gt (tgt := 14) hx hb dX9_isIn_7 (by decide) (fun c_2 => ?_) (fun c_2 => ?_)
    · refine lv_iconst (v := 0) hx hb dX9_isIn_14 (by decide) ?_
      have hP9 := hP.sub (ws' := []) [] rfl
      have hD9 := hD.sub (ws' := []) [] (by decide) rfl
      exact W.zret (v := 0) hx hb hr (rfl) (fun t ht hW => ⟨⟨0, (), rfl, Or.inl (⟨rfl, Or.inr c_2⟩), ⟨by rw [ht]; exact hP9, va_K.moved hW.alike hK, hD9⟩⟩, hS.F ht⟩) hS.2.2 dX9_isIn_15
    · refine lv_iconst (v := 1) hx hb dX9_isIn_10 (by decide) ?_
      refine lv_goto (tgt := 15) hx hb dX9_isIn_11 (by decide) ?_
      have hP9 := hP.sub (ws' := []) [] rfl
      have hD9 := hD.sub (ws' := []) [] (by decide) rfl
      exact W.zret (v := 1) hx hb hr (rfl) (fun t ht hW => ⟨⟨1, (), rfl, Or.inr ((⟨rfl, by first | assumption | rfl | omega, by first | assumption | rfl | omega⟩)), ⟨by rw [ht]; exact hP9, va_K.moved hW.alike hK, hD9⟩⟩, hS.F ht⟩) hS.2.2 dX9_isIn_15
set_option maxHeartbeats 4000000 in
set_option maxRecDepth 100000 in
theorem c_X9_feed_0 (l : Launch) (D : va_G) (cB cI cZ : ClassId) (sz : Nat) (h0 : Nat) (b0 : Nat) (b1 : Nat) (b6 : Nat) (b7 : Nat) (b8 : Nat) (b9 : Nat) (b11 : Nat) (b12 : Nat) (b13 : Nat) (b18 : Nat) (b19 : Nat) (b20 : Nat) (b21 : Nat) (b22 : Nat) (b23 : Nat) (b24 : Nat) (b25 : Nat) (b26 : Nat) (b27 : Nat) (b28 : Nat) (b29 : Nat) (b30 : Nat) (b32 : Nat) (b33 : Nat) (f : Nat → Int32) (x1 : Int32) (x2 : Int32) (x3 : Int32) (x4 : Int32) (x5 : Int32) : Met l yX9_feed (.code yX9_feed cX9_feed 8 (some .int) :: wsL_law) ({ frames := 0, cells := 0, slots := 0, locals := 0 } : Room) (va_Pc [.ref h0, .int x1, .int x2, .int x3, .int x4, .int x5] (pIn D (pT cB cI cZ) sz [(h0, .inr (9, [.ref b0, .ref b1, .int 0, .int 0, .int 0, .int 0, .ref b6, .ref b7, .ref b8, .ref b9, .int 0, .ref b11, .ref b12, .ref b13, .int 0, .int 0, .int 0, .int 0, .ref b18, .ref b19, .ref b20, .ref b21, .ref b22, .ref b23, .ref b24, .ref b25, .ref b26, .ref b27, .ref b28, .ref b29, .ref b30, .int 0, .ref b32, .ref b33])), (b0, .inl (cI, 600, .inl f))])) (va_Qi (fun (r : Int32) (u : Unit) => r = 20) (fun (u : Unit) (t : State) => pAt D (pT cB cI cZ) (va_A [(h0, .inr (9, [.ref b0, .ref b1, .int 0, .int 0, .int 0, .int 0, .ref b6, .ref b7, .ref b8, .ref b9, .int 0, .ref b11, .ref b12, .ref b13, .int 0, .int 0, .int 0, .int 0, .ref b18, .ref b19, .ref b20, .ref b21, .ref b22, .ref b23, .ref b24, .ref b25, .ref b26, .ref b27, .ref b28, .ref b29, .ref b30, .int 0, .ref b32, .ref b33])), (b0, .inl (cI, 600, .inl f))] sz) [] t) (va_A [(h0, .inr (9, [.ref b0, .ref b1, .int 0, .int 0, .int 0, .int 0, .ref b6, .ref b7, .ref b8, .ref b9, .int 0, .ref b11, .ref b12, .ref b13, .int 0, .int 0, .int 0, .int 0, .ref b18, .ref b19, .ref b20, .ref b21, .ref b22, .ref b23, .ref b24, .ref b25, .ref b26, .ref b27, .ref b28, .ref b29, .ref b30, .int 0, .ref b32, .ref b33])), (b0, .inl (cI, 600, .inl f))] sz)) 0 0 (va_A [(h0, .inr (9, [.ref b0, .ref b1, .int 0, .int 0, .int 0, .int 0, .ref b6, .ref b7, .ref b8, .ref b9, .int 0, .ref b11, .ref b12, .ref b13, .int 0, .int 0, .int 0, .int 0, .ref b18, .ref b19, .ref b20, .ref b21, .ref b22, .ref b23, .ref b24, .ref b25, .ref b26, .ref b27, .ref b28, .ref b29, .ref b30, .int 0, .ref b32, .ref b33])), (b0, .inl (cI, 600, .inl f))] sz) := by
  refine Met.ofW (cc := cX9_feed) (maxL := 8) (ret := (some .int)) (by decide) rfl ?_
  intro p e s m args below meth c s₁ B hml hv
  obtain ⟨rfl, hsz, hP, hK, hD0⟩ := hv
  have hx := B.exec
  have hb := B.bytes
  have hr := B.returns
  have hts0 := atoms_spec (ws := .code yX9_feed cX9_feed 8 (some .int) :: wsL_law) B.pre
  have hts := fun (w : Cond) (h : w ∈ wsL_law) => hts0 w (List.mem_cons_of_mem _ h)
  have hown : s.vm.findClass RX9 = some m.cls := findClass_of_methodNamed B.named
  have hlocks := B.notSynchronized
  have hinX9 := inlX9
  subst hsz
  have hD := hD0.self (sz := s.heap.size)
  generalize hAe : va_A [(h0, .inr (9, [.ref b0, .ref b1, .int 0, .int 0, .int 0, .int 0, .ref b6, .ref b7, .ref b8, .ref b9, .int 0, .ref b11, .ref b12, .ref b13, .int 0, .int 0, .int 0, .int 0, .ref b18, .ref b19, .ref b20, .ref b21, .ref b22, .ref b23, .ref b24, .ref b25, .ref b26, .ref b27, .ref b28, .ref b29, .ref b30, .int 0, .ref b32, .ref b33])), (b0, .inl (cI, 600, .inl f))] s.heap.size = A at hD ⊢
  have hA : ∀ q : Nat, s.heap.size ≤ q → A q := fun q h => by rw [← hAe]; exact Or.inr h
  have hS : va_S A s.heap s.heap [] := va_S.rf
  have hP : va_P D vwCl [(h0, .inr (9, [.ref b0, .ref b1, .int 0, .int 0, .int 0, .int 0, .ref b6, .ref b7, .ref b8, .ref b9, .int 0, .ref b11, .ref b12, .ref b13, .int 0, .int 0, .int 0, .int 0, .ref b18, .ref b19, .ref b20, .ref b21, .ref b22, .ref b23, .ref b24, .ref b25, .ref b26, .ref b27, .ref b28, .ref b29, .ref b30, .int 0, .ref b32, .ref b33])), (b0, .inl (cI, 600, .inl f))] s.heap := hP
  have hl := lv_entry ([.ref h0, .int x1, .int x2, .int x3, .int x4, .int x5]) (n := 8) (Nat.le_of_ble_eq_true rfl)
  rw [lg_entry_eq]
  generalize (lg_sl ([.ref h0, .int x1, .int x2, .int x3, .int x4, .int x5]) ++ List.replicate (8 - (lg_sl ([.ref h0, .int x1, .int x2, .int x3, .int x4, .int x5])).length) Slot.unset).toArray = ls at hl ⊢
  have hl : lv_has ls 8 [(0, .ref h0), (1, .int x1), (2, .int x2), (3, .int x3), (4, .int x4), (5, .int x5)] := hl
  generalize hQ : MQ below _ _ _ _ _ _ = Q
  refine lv_aload_n hx hb dX9_feed_0 rfl (lv_at hl 0 rfl) ?_
  refine va_get (D := D) (ci := 9) (v := .int 0) (C := RX9) (T := TX9) (N := 34) hx hb hts hinX9 hown hK hP 0 rfl rfl 2 (by decide) (hts (.fieldLink RX9 83 "TaleReaderModel" "taped" "I") (uc8 _ (List.mem_of_getElem? (i := 13) rfl))) (fun _ h9 => h9) rfl dX9_feed_1 ?_
  refine lv_bipush (v := 20) hx hb dX9_feed_4 (by decide) ?_
  refine lv_iadd hx hb dX9_feed_6 ?_
  refine lv_topi (fun z_1 ez_1 => ?_)
  obtain rfl : z_1 = 20 := ez_1.trans (by decide)
  refine lv_sipush (v := 600) hx hb dX9_feed_7 (by decide) ?_
  refine lv_icmp_le (tgt := 15) hx hb dX9_feed_10 (by decide) (fun c_2 => ?_) (fun c_2 => ?_)
  · refine lv_iconst (v := 0) hx hb dX9_feed_15 (by decide) ?_
    refine lv_istore (lv' := [(6, .int 0), (0, .ref h0), (1, .int x1), (2, .int x2), (3, .int x3), (4, .int x4), (5, .int x5)]) hx hb dX9_feed_16 hl (by decide) rfl (fun ls hl => ?_)
    have loop_3 : ∀ (nn : Nat) (i : Nat) (g : Nat → Int32), (i ≤ 20) → (20 - i < nn) → ∀ (H : Heap) (locs : List Loc) (ls : Array Slot), va_P D vwCl [(h0, .inr (9, [.ref b0, .ref b1, .int (nI i), .int 0, .int 0, .int 0, .ref b6, .ref b7, .ref b8, .ref b9, .int 0, .ref b11, .ref b12, .ref b13, .int 0, .int 0, .int 0, .int 0, .ref b18, .ref b19, .ref b20, .ref b21, .ref b22, .ref b23, .ref b24, .ref b25, .ref b26, .ref b27, .ref b28, .ref b29, .ref b30, .int 0, .ref b32, .ref b33])), (b0, .inl (cI, 600, .inl g))] H → va_D A [(h0, .inr (9, [.ref b0, .ref b1, .int (nI i), .int 0, .int 0, .int 0, .ref b6, .ref b7, .ref b8, .ref b9, .int 0, .ref b11, .ref b12, .ref b13, .int 0, .int 0, .int 0, .int 0, .ref b18, .ref b19, .ref b20, .ref b21, .ref b22, .ref b23, .ref b24, .ref b25, .ref b26, .ref b27, .ref b28, .ref b29, .ref b30, .int 0, .ref b32, .ref b33])), (b0, .inl (cI, 600, .inl g))] → va_S A s.heap H locs → lv_has ls 8 [(0, .ref h0), (1, .int x1), (2, .int x2), (3, .int x3), (4, .int x4), (5, .int x5), (6, .int (nI i))] → W p l e ({ frames := 0, cells := 0, slots := 0, locals := 0 } : Room) s m ([.ref h0, .int x1, .int x2, .int x3, .int x4, .int x5] : List Value).toArray below meth c H locs 0 0 Q (F0 m 18 ls []) := by
      intro nn
      induction nn with
      | zero => intros; exact absurd ‹_ < 0› (Nat.not_lt_zero _)
      | succ nn ih =>
        intro i g hi hmu H locs ls hP hD hS hl
        refine lv_iload hx hb dX9_feed_18 (lv_at hl 6 rfl) ?_
        refine lv_bipush (v := 20) hx hb dX9_feed_20 (by decide) ?_
        refine lv_icmp_ge (tgt := 115) hx hb dX9_feed_22 (by decide) (fun c_4 => ?_) (fun c_4 => ?_)
        · have hni := (nI_leI (a := 20) (by omega) (by omega)).mp c_4
          refine lv_aload_n hx hb dX9_feed_115 rfl (lv_at hl 0 rfl) ?_
          refine va_get (D := D) (ci := 9) (v := .int (nI i)) (C := RX9) (T := TX9) (N := 34) hx hb hts hinX9 hown hK hP 0 rfl rfl 2 (by decide) (hts (.fieldLink RX9 83 "TaleReaderModel" "taped" "I") (uc8 _ (List.mem_of_getElem? (i := 13) rfl))) (fun _ h9 => h9) rfl dX9_feed_116 ?_
          have hP9 := hP.sub (ws' := []) [] rfl
          have hD9 := hD.sub (ws' := []) [] (by decide) rfl
          rw [← hQ]
          exact W.iret (v := nI i) hx hb hr (fun t ht hW => ⟨⟨nI i, (), rfl, (by rw [show i = 20 by omega]; rfl), ⟨by rw [ht]; exact hP9, va_K.moved hW.alike hK, hD9⟩⟩, hS.F ht⟩) hS.2.2 dX9_feed_119
        · have hni : i < 20 := Nat.lt_of_not_le (fun q => c_4 (nI_le (a := 20) q (by omega)))
          refine lv_iload hx hb dX9_feed_25 (lv_at hl 6 rfl) ?_
          refine lv_iconst (v := 4) hx hb dX9_feed_27 (by decide) ?_
          refine lv_icmp_ge (tgt := 35) hx hb dX9_feed_28 (by decide) (fun c_5 => ?_) (fun c_5 => ?_)
          · refine lv_iload hx hb dX9_feed_35 (lv_at hl 6 rfl) ?_
            refine lv_bipush (v := 8) hx hb dX9_feed_37 (by decide) ?_
            refine lv_icmp_ge (tgt := 46) hx hb dX9_feed_39 (by decide) (fun c_6 => ?_) (fun c_6 => ?_)
            · refine lv_iload hx hb dX9_feed_46 (lv_at hl 6 rfl) ?_
              refine lv_bipush (v := 12) hx hb dX9_feed_48 (by decide) ?_
              refine lv_icmp_ge (tgt := 57) hx hb dX9_feed_50 (by decide) (fun c_7 => ?_) (fun c_7 => ?_)
              · refine lv_iload hx hb dX9_feed_57 (lv_at hl 6 rfl) ?_
                refine lv_bipush (v := 16) hx hb dX9_feed_59 (by decide) ?_
                refine lv_icmp_ge (tgt := 69) hx hb dX9_feed_61 (by decide) (fun c_8 => ?_) (fun c_8 => ?_)
                · refine lv_iload hx hb dX9_feed_69 (lv_at hl 5 rfl) ?_
                  refine lv_istore (lv' := [(7, .int x5), (0, .ref h0), (1, .int x1), (2, .int x2), (3, .int x3), (4, .int x4), (5, .int x5), (6, .int (nI i))]) hx hb dX9_feed_71 hl (by decide) rfl (fun ls hl => ?_)
                  refine lv_aload_n hx hb dX9_feed_73 rfl (lv_at hl 1 rfl) ?_
                  refine va_get (D := D) (ci := 9) (v := .ref b0) (C := RX9) (T := TX9) (N := 34) hx hb hts hinX9 hown hK hP 0 rfl rfl 0 (by decide) (hts (.fieldLink RX9 7 "TaleReaderModel" "tape" "[I") (uc6 _ (List.mem_of_getElem? (i := 17) rfl))) (fun _ h9 => h9) rfl dX9_feed_74 ?_
                  refine lv_aload_n hx hb dX9_feed_77 rfl (lv_at hl 1 rfl) ?_
                  refine va_get (D := D) (ci := 9) (v := .int (nI i)) (C := RX9) (T := TX9) (N := 34) hx hb hts hinX9 hown hK hP 0 rfl rfl 2 (by decide) (hts (.fieldLink RX9 83 "TaleReaderModel" "taped" "I") (uc8 _ (List.mem_of_getElem? (i := 13) rfl))) (fun _ h9 => h9) rfl dX9_feed_78 ?_
                  refine lv_iload hx hb dX9_feed_81 (lv_at hl 0 rfl) ?_
                  refine lv_bipush (v := 24) hx hb dX9_feed_83 (by decide) ?_
                  refine lv_bipush (v := 8) hx hb dX9_feed_85 (by decide) ?_
                  refine lv_iload hx hb dX9_feed_87 (lv_at hl 7 rfl) ?_
                  refine lv_iconst (v := 4) hx hb dX9_feed_89 (by decide) ?_
                  refine lv_irem hx hb dX9_feed_90 (by decide) ?_
                  refine lv_imul hx hb dX9_feed_91 ?_
                  refine lv_isub hx hb dX9_feed_92 ?_
                  refine lv_ishr hx hb dX9_feed_93 ?_
                  refine lv_sipush (v := 255) hx hb dX9_feed_94 (by decide) ?_
                  refine lv_iand hx hb dX9_feed_97 ?_
                  refine va_iast (D := D) hx hb hK hP hD hS 1 1 rfl rfl (vp_in_nI (by omega) (by omega)) dX9_feed_98 (fun H_9 L_10 hP hD hS => ?_)
                  obtain ⟨g_11, eg_11⟩ : ∃ gg : Nat → Int32, gg = upd g ((nI i)).toNatClampNeg ((x5 >>> ((24 - (8 * ((nI i) - (nI i) / 4 * 4))) &&& 31)) &&& 255) := ⟨_, rfl⟩
                  have hP : va_P D vwCl [(h0, .inr (9, [.ref b0, .ref b1, .int (nI i), .int 0, .int 0, .int 0, .ref b6, .ref b7, .ref b8, .ref b9, .int 0, .ref b11, .ref b12, .ref b13, .int 0, .int 0, .int 0, .int 0, .ref b18, .ref b19, .ref b20, .ref b21, .ref b22, .ref b23, .ref b24, .ref b25, .ref b26, .ref b27, .ref b28, .ref b29, .ref b30, .int 0, .ref b32, .ref b33])), (b0, .inl (cI, 600, .inl g_11))] H_9 := by rw [eg_11]; exact hP
                  have hD : va_D A [(h0, .inr (9, [.ref b0, .ref b1, .int (nI i), .int 0, .int 0, .int 0, .ref b6, .ref b7, .ref b8, .ref b9, .int 0, .ref b11, .ref b12, .ref b13, .int 0, .int 0, .int 0, .int 0, .ref b18, .ref b19, .ref b20, .ref b21, .ref b22, .ref b23, .ref b24, .ref b25, .ref b26, .ref b27, .ref b28, .ref b29, .ref b30, .int 0, .ref b32, .ref b33])), (b0, .inl (cI, 600, .inl g_11))] := by rw [eg_11]; exact hD
                  refine lv_aload_n hx hb dX9_feed_99 rfl (lv_at hl 1 rfl) ?_
                  refine lv_dup hx hb dX9_feed_100 rfl ?_
                  refine va_get (D := D) (ci := 9) (v := .int (nI i)) (C := RX9) (T := TX9) (N := 34) hx hb hts hinX9 hown hK hP 0 rfl rfl 2 (by decide) (hts (.fieldLink RX9 83 "TaleReaderModel" "taped" "I") (uc8 _ (List.mem_of_getElem? (i := 13) rfl))) (fun _ h9 => h9) rfl dX9_feed_101 ?_
                  refine lv_iconst (v := 1) hx hb dX9_feed_104 (by decide) ?_
                  refine lv_iadd hx hb dX9_feed_105 ?_
                  refine lv_topi (fun z_12 ez_12 => ?_)
                  obtain rfl : z_12 = nI (i + 1) := ez_12.trans (nI_add i 1)
                  refine va_put (D := D) (ci := 9) (v := .int (nI (i + 1))) (ty := .int) (C := RX9) (T := TX9) (N := 34) hx hb hts hinX9 tyX9 tyX9_ok nmX9 hown hK hP hD hS 0 rfl rfl 2 (by decide) (hts (.fieldLink RX9 83 "TaleReaderModel" "taped" "I") (uc8 _ (List.mem_of_getElem? (i := 13) rfl))) (fun _ h9 => h9) rfl (by decide +kernel) rfl rfl (Nat.le_of_ble_eq_true rfl) dX9_feed_106 (fun H_13 L_14 hP hD hS => ?_)
                  have hP : va_P D vwCl [(h0, .inr (9, [.ref b0, .ref b1, .int (nI (i + 1)), .int 0, .int 0, .int 0, .ref b6, .ref b7, .ref b8, .ref b9, .int 0, .ref b11, .ref b12, .ref b13, .int 0, .int 0, .int 0, .int 0, .ref b18, .ref b19, .ref b20, .ref b21, .ref b22, .ref b23, .ref b24, .ref b25, .ref b26, .ref b27, .ref b28, .ref b29, .ref b30, .int 0, .ref b32, .ref b33])), (b0, .inl (cI, 600, .inl g_11))] H_13 := hP
                  have hD : va_D A [(h0, .inr (9, [.ref b0, .ref b1, .int (nI (i + 1)), .int 0, .int 0, .int 0, .ref b6, .ref b7, .ref b8, .ref b9, .int 0, .ref b11, .ref b12, .ref b13, .int 0, .int 0, .int 0, .int 0, .ref b18, .ref b19, .ref b20, .ref b21, .ref b22, .ref b23, .ref b24, .ref b25, .ref b26, .ref b27, .ref b28, .ref b29, .ref b30, .int 0, .ref b32, .ref b33])), (b0, .inl (cI, 600, .inl g_11))] := hD
                  refine lv_iinc (v := nI (i + 1)) (lv' := [(6, .int (nI (i + 1))), (7, .int x5), (0, .ref h0), (1, .int x1), (2, .int x2), (3, .int x3), (4, .int x4), (5, .int x5)]) hx hb dX9_feed_109 hl (k := 7) rfl (nI_add i 1) (by decide) rfl (fun ls hl => ?_)
                  refine lv_goto (tgt := 18) hx hb dX9_feed_112 (by decide) ?_
                  exact ih (i + 1) g_11 (by omega) (by omega) H_13 _ ls (hP.sub (ws' := [(h0, .inr (9, [.ref b0, .ref b1, .int (nI (i + 1)), .int 0, .int 0, .int 0, .ref b6, .ref b7, .ref b8, .ref b9, .int 0, .ref b11, .ref b12, .ref b13, .int 0, .int 0, .int 0, .int 0, .ref b18, .ref b19, .ref b20, .ref b21, .ref b22, .ref b23, .ref b24, .ref b25, .ref b26, .ref b27, .ref b28, .ref b29, .ref b30, .int 0, .ref b32, .ref b33])), (b0, .inl (cI, 600, .inl g_11))]) [0, 1] rfl) (hD.sub (ws' := [(h0, .inr (9, [.ref b0, .ref b1, .int (nI (i + 1)), .int 0, .int 0, .int 0, .ref b6, .ref b7, .ref b8, .ref b9, .int 0, .ref b11, .ref b12, .ref b13, .int 0, .int 0, .int 0, .int 0, .ref b18, .ref b19, .ref b20, .ref b21, .ref b22, .ref b23, .ref b24, .ref b25, .ref b26, .ref b27, .ref b28, .ref b29, .ref b30, .int 0, .ref b32, .ref b33])), (b0, .inl (cI, 600, .inl g_11))]) [0, 1] (by decide) rfl) hS (lv_sub hl [2, 3, 4, 5, 6, 7, 0] rfl)
                · refine lv_iload hx hb dX9_feed_64 (lv_at hl 4 rfl) ?_
                  refine lv_goto (tgt := 71) hx hb dX9_feed_66 (by decide) ?_
                  refine lv_istore (lv' := [(7, .int x4), (0, .ref h0), (1, .int x1), (2, .int x2), (3, .int x3), (4, .int x4), (5, .int x5), (6, .int (nI i))]) hx hb dX9_feed_71 hl (by decide) rfl (fun ls hl => ?_)
                  refine lv_aload_n hx hb dX9_feed_73 rfl (lv_at hl 1 rfl) ?_
                  refine va_get (D := D) (ci := 9) (v := .ref b0) (C := RX9) (T := TX9) (N := 34) hx hb hts hinX9 hown hK hP 0 rfl rfl 0 (by decide) (hts (.fieldLink RX9 7 "TaleReaderModel" "tape" "[I") (uc6 _ (List.mem_of_getElem? (i := 17) rfl))) (fun _ h9 => h9) rfl dX9_feed_74 ?_
                  refine lv_aload_n hx hb dX9_feed_77 rfl (lv_at hl 1 rfl) ?_
                  refine va_get (D := D) (ci := 9) (v := .int (nI i)) (C := RX9) (T := TX9) (N := 34) hx hb hts hinX9 hown hK hP 0 rfl rfl 2 (by decide) (hts (.fieldLink RX9 83 "TaleReaderModel" "taped" "I") (uc8 _ (List.mem_of_getElem? (i := 13) rfl))) (fun _ h9 => h9) rfl dX9_feed_78 ?_
                  refine lv_iload hx hb dX9_feed_81 (lv_at hl 0 rfl) ?_
                  refine lv_bipush (v := 24) hx hb dX9_feed_83 (by decide) ?_
                  refine lv_bipush (v := 8) hx hb dX9_feed_85 (by decide) ?_
                  refine lv_iload hx hb dX9_feed_87 (lv_at hl 7 rfl) ?_
                  refine lv_iconst (v := 4) hx hb dX9_feed_89 (by decide) ?_
                  refine lv_irem hx hb dX9_feed_90 (by decide) ?_
                  refine lv_imul hx hb dX9_feed_91 ?_
                  refine lv_isub hx hb dX9_feed_92 ?_
                  refine lv_ishr hx hb dX9_feed_93 ?_
                  refine lv_sipush (v := 255) hx hb dX9_feed_94 (by decide) ?_
                  refine lv_iand hx hb dX9_feed_97 ?_
                  refine va_iast (D := D) hx hb hK hP hD hS 1 1 rfl rfl (vp_in_nI (by omega) (by omega)) dX9_feed_98 (fun H_15 L_16 hP hD hS => ?_)
                  obtain ⟨g_17, eg_17⟩ : ∃ gg : Nat → Int32, gg = upd g ((nI i)).toNatClampNeg ((x4 >>> ((24 - (8 * ((nI i) - (nI i) / 4 * 4))) &&& 31)) &&& 255) := ⟨_, rfl⟩
                  have hP : va_P D vwCl [(h0, .inr (9, [.ref b0, .ref b1, .int (nI i), .int 0, .int 0, .int 0, .ref b6, .ref b7, .ref b8, .ref b9, .int 0, .ref b11, .ref b12, .ref b13, .int 0, .int 0, .int 0, .int 0, .ref b18, .ref b19, .ref b20, .ref b21, .ref b22, .ref b23, .ref b24, .ref b25, .ref b26, .ref b27, .ref b28, .ref b29, .ref b30, .int 0, .ref b32, .ref b33])), (b0, .inl (cI, 600, .inl g_17))] H_15 := by rw [eg_17]; exact hP
                  have hD : va_D A [(h0, .inr (9, [.ref b0, .ref b1, .int (nI i), .int 0, .int 0, .int 0, .ref b6, .ref b7, .ref b8, .ref b9, .int 0, .ref b11, .ref b12, .ref b13, .int 0, .int 0, .int 0, .int 0, .ref b18, .ref b19, .ref b20, .ref b21, .ref b22, .ref b23, .ref b24, .ref b25, .ref b26, .ref b27, .ref b28, .ref b29, .ref b30, .int 0, .ref b32, .ref b33])), (b0, .inl (cI, 600, .inl g_17))] := by rw [eg_17]; exact hD
                  refine lv_aload_n hx hb dX9_feed_99 rfl (lv_at hl 1 rfl) ?_
                  refine lv_dup hx hb dX9_feed_100 rfl ?_
                  refine va_get (D := D) (ci := 9) (v := .int (nI i)) (C := RX9) (T := TX9) (N := 34) hx hb hts hinX9 hown hK hP 0 rfl rfl 2 (by decide) (hts (.fieldLink RX9 83 "TaleReaderModel" "taped" "I") (uc8 _ (List.mem_of_getElem? (i := 13) rfl))) (fun _ h9 => h9) rfl dX9_feed_101 ?_
                  refine lv_iconst (v := 1) hx hb dX9_feed_104 (by decide) ?_
                  refine lv_iadd hx hb dX9_feed_105 ?_
                  refine lv_topi (fun z_18 ez_18 => ?_)
                  obtain rfl : z_18 = nI (i + 1) := ez_18.trans (nI_add i 1)
                  refine va_put (D := D) (ci := 9) (v := .int (nI (i + 1))) (ty := .int) (C := RX9) (T := TX9) (N := 34) hx hb hts hinX9 tyX9 tyX9_ok nmX9 hown hK hP hD hS 0 rfl rfl 2 (by decide) (hts (.fieldLink RX9 83 "TaleReaderModel" "taped" "I") (uc8 _ (List.mem_of_getElem? (i := 13) rfl))) (fun _ h9 => h9) rfl (by decide +kernel) rfl rfl (Nat.le_of_ble_eq_true rfl) dX9_feed_106 (fun H_19 L_20 hP hD hS => ?_)
                  have hP : va_P D vwCl [(h0, .inr (9, [.ref b0, .ref b1, .int (nI (i + 1)), .int 0, .int 0, .int 0, .ref b6, .ref b7, .ref b8, .ref b9, .int 0, .ref b11, .ref b12, .ref b13, .int 0, .int 0, .int 0, .int 0, .ref b18, .ref b19, .ref b20, .ref b21, .ref b22, .ref b23, .ref b24, .ref b25, .ref b26, .ref b27, .ref b28, .ref b29, .ref b30, .int 0, .ref b32, .ref b33])), (b0, .inl (cI, 600, .inl g_17))] H_19 := hP
                  have hD : va_D A [(h0, .inr (9, [.ref b0, .ref b1, .int (nI (i + 1)), .int 0, .int 0, .int 0, .ref b6, .ref b7, .ref b8, .ref b9, .int 0, .ref b11, .ref b12, .ref b13, .int 0, .int 0, .int 0, .int 0, .ref b18, .ref b19, .ref b20, .ref b21, .ref b22, .ref b23, .ref b24, .ref b25, .ref b26, .ref b27, .ref b28, .ref b29, .ref b30, .int 0, .ref b32, .ref b33])), (b0, .inl (cI, 600, .inl g_17))] := hD
                  refine lv_iinc (v := nI (i + 1)) (lv' := [(6, .int (nI (i + 1))), (7, .int x4), (0, .ref h0), (1, .int x1), (2, .int x2), (3, .int x3), (4, .int x4), (5, .int x5)]) hx hb dX9_feed_109 hl (k := 7) rfl (nI_add i 1) (by decide) rfl (fun ls hl => ?_)
                  refine lv_goto (tgt := 18) hx hb dX9_feed_112 (by decide) ?_
                  exact ih (i + 1) g_17 (by omega) (by omega) H_19 _ ls (hP.sub (ws' := [(h0, .inr (9, [.ref b0, .ref b1, .int (nI (i + 1)), .int 0, .int 0, .int 0, .ref b6, .ref b7, .ref b8, .ref b9, .int 0, .ref b11, .ref b12, .ref b13, .int 0, .int 0, .int 0, .int 0, .ref b18, .ref b19, .ref b20, .ref b21, .ref b22, .ref b23, .ref b24, .ref b25, .ref b26, .ref b27, .ref b28, .ref b29, .ref b30, .int 0, .ref b32, .ref b33])), (b0, .inl (cI, 600, .inl g_17))]) [0, 1] rfl) (hD.sub (ws' := [(h0, .inr (9, [.ref b0, .ref b1, .int (nI (i + 1)), .int 0, .int 0, .int 0, .ref b6, .ref b7, .ref b8, .ref b9, .int 0, .ref b11, .ref b12, .ref b13, .int 0, .int 0, .int 0, .int 0, .ref b18, .ref b19, .ref b20, .ref b21, .ref b22, .ref b23, .ref b24, .ref b25, .ref b26, .ref b27, .ref b28, .ref b29, .ref b30, .int 0, .ref b32, .ref b33])), (b0, .inl (cI, 600, .inl g_17))]) [0, 1] (by decide) rfl) hS (lv_sub hl [2, 3, 4, 5, 6, 7, 0] rfl)
              · refine lv_iload_n hx hb dX9_feed_53 rfl (lv_at hl 3 rfl) ?_
                refine lv_goto (tgt := 71) hx hb dX9_feed_54 (by decide) ?_
                refine lv_istore (lv' := [(7, .int x3), (0, .ref h0), (1, .int x1), (2, .int x2), (3, .int x3), (4, .int x4), (5, .int x5), (6, .int (nI i))]) hx hb dX9_feed_71 hl (by decide) rfl (fun ls hl => ?_)
                refine lv_aload_n hx hb dX9_feed_73 rfl (lv_at hl 1 rfl) ?_
                refine va_get (D := D) (ci := 9) (v := .ref b0) (C := RX9) (T := TX9) (N := 34) hx hb hts hinX9 hown hK hP 0 rfl rfl 0 (by decide) (hts (.fieldLink RX9 7 "TaleReaderModel" "tape" "[I") (uc6 _ (List.mem_of_getElem? (i := 17) rfl))) (fun _ h9 => h9) rfl dX9_feed_74 ?_
                refine lv_aload_n hx hb dX9_feed_77 rfl (lv_at hl 1 rfl) ?_
                refine va_get (D := D) (ci := 9) (v := .int (nI i)) (C := RX9) (T := TX9) (N := 34) hx hb hts hinX9 hown hK hP 0 rfl rfl 2 (by decide) (hts (.fieldLink RX9 83 "TaleReaderModel" "taped" "I") (uc8 _ (List.mem_of_getElem? (i := 13) rfl))) (fun _ h9 => h9) rfl dX9_feed_78 ?_
                refine lv_iload hx hb dX9_feed_81 (lv_at hl 0 rfl) ?_
                refine lv_bipush (v := 24) hx hb dX9_feed_83 (by decide) ?_
                refine lv_bipush (v := 8) hx hb dX9_feed_85 (by decide) ?_
                refine lv_iload hx hb dX9_feed_87 (lv_at hl 7 rfl) ?_
                refine lv_iconst (v := 4) hx hb dX9_feed_89 (by decide) ?_
                refine lv_irem hx hb dX9_feed_90 (by decide) ?_
                refine lv_imul hx hb dX9_feed_91 ?_
                refine lv_isub hx hb dX9_feed_92 ?_
                refine lv_ishr hx hb dX9_feed_93 ?_
                refine lv_sipush (v := 255) hx hb dX9_feed_94 (by decide) ?_
                refine lv_iand hx hb dX9_feed_97 ?_
                refine va_iast (D := D) hx hb hK hP hD hS 1 1 rfl rfl (vp_in_nI (by omega) (by omega)) dX9_feed_98 (fun H_21 L_22 hP hD hS => ?_)
                obtain ⟨g_23, eg_23⟩ : ∃ gg : Nat → Int32, gg = upd g ((nI i)).toNatClampNeg ((x3 >>> ((24 - (8 * ((nI i) - (nI i) / 4 * 4))) &&& 31)) &&& 255) := ⟨_, rfl⟩
                have hP : va_P D vwCl [(h0, .inr (9, [.ref b0, .ref b1, .int (nI i), .int 0, .int 0, .int 0, .ref b6, .ref b7, .ref b8, .ref b9, .int 0, .ref b11, .ref b12, .ref b13, .int 0, .int 0, .int 0, .int 0, .ref b18, .ref b19, .ref b20, .ref b21, .ref b22, .ref b23, .ref b24, .ref b25, .ref b26, .ref b27, .ref b28, .ref b29, .ref b30, .int 0, .ref b32, .ref b33])), (b0, .inl (cI, 600, .inl g_23))] H_21 := by rw [eg_23]; exact hP
                have hD : va_D A [(h0, .inr (9, [.ref b0, .ref b1, .int (nI i), .int 0, .int 0, .int 0, .ref b6, .ref b7, .ref b8, .ref b9, .int 0, .ref b11, .ref b12, .ref b13, .int 0, .int 0, .int 0, .int 0, .ref b18, .ref b19, .ref b20, .ref b21, .ref b22, .ref b23, .ref b24, .ref b25, .ref b26, .ref b27, .ref b28, .ref b29, .ref b30, .int 0, .ref b32, .ref b33])), (b0, .inl (cI, 600, .inl g_23))] := by rw [eg_23]; exact hD
                refine lv_aload_n hx hb dX9_feed_99 rfl (lv_at hl 1 rfl) ?_
                refine lv_dup hx hb dX9_feed_100 rfl ?_
                refine va_get (D := D) (ci := 9) (v := .int (nI i)) (C := RX9) (T := TX9) (N := 34) hx hb hts hinX9 hown hK hP 0 rfl rfl 2 (by decide) (hts (.fieldLink RX9 83 "TaleReaderModel" "taped" "I") (uc8 _ (List.mem_of_getElem? (i := 13) rfl))) (fun _ h9 => h9) rfl dX9_feed_101 ?_
                refine lv_iconst (v := 1) hx hb dX9_feed_104 (by decide) ?_
                refine lv_iadd hx hb dX9_feed_105 ?_
                refine lv_topi (fun z_24 ez_24 => ?_)
                obtain rfl : z_24 = nI (i + 1) := ez_24.trans (nI_add i 1)
                refine va_put (D := D) (ci := 9) (v := .int (nI (i + 1))) (ty := .int) (C := RX9) (T := TX9) (N := 34) hx hb hts hinX9 tyX9 tyX9_ok nmX9 hown hK hP hD hS 0 rfl rfl 2 (by decide) (hts (.fieldLink RX9 83 "TaleReaderModel" "taped" "I") (uc8 _ (List.mem_of_getElem? (i := 13) rfl))) (fun _ h9 => h9) rfl (by decide +kernel) rfl rfl (Nat.le_of_ble_eq_true rfl) dX9_feed_106 (fun H_25 L_26 hP hD hS => ?_)
                have hP : va_P D vwCl [(h0, .inr (9, [.ref b0, .ref b1, .int (nI (i + 1)), .int 0, .int 0, .int 0, .ref b6, .ref b7, .ref b8, .ref b9, .int 0, .ref b11, .ref b12, .ref b13, .int 0, .int 0, .int 0, .int 0, .ref b18, .ref b19, .ref b20, .ref b21, .ref b22, .ref b23, .ref b24, .ref b25, .ref b26, .ref b27, .ref b28, .ref b29, .ref b30, .int 0, .ref b32, .ref b33])), (b0, .inl (cI, 600, .inl g_23))] H_25 := hP
                have hD : va_D A [(h0, .inr (9, [.ref b0, .ref b1, .int (nI (i + 1)), .int 0, .int 0, .int 0, .ref b6, .ref b7, .ref b8, .ref b9, .int 0, .ref b11, .ref b12, .ref b13, .int 0, .int 0, .int 0, .int 0, .ref b18, .ref b19, .ref b20, .ref b21, .ref b22, .ref b23, .ref b24, .ref b25, .ref b26, .ref b27, .ref b28, .ref b29, .ref b30, .int 0, .ref b32, .ref b33])), (b0, .inl (cI, 600, .inl g_23))] := hD
                refine lv_iinc (v := nI (i + 1)) (lv' := [(6, .int (nI (i + 1))), (7, .int x3), (0, .ref h0), (1, .int x1), (2, .int x2), (3, .int x3), (4, .int x4), (5, .int x5)]) hx hb dX9_feed_109 hl (k := 7) rfl (nI_add i 1) (by decide) rfl (fun ls hl => ?_)
                refine lv_goto (tgt := 18) hx hb dX9_feed_112 (by decide) ?_
                exact ih (i + 1) g_23 (by omega) (by omega) H_25 _ ls (hP.sub (ws' := [(h0, .inr (9, [.ref b0, .ref b1, .int (nI (i + 1)), .int 0, .int 0, .int 0, .ref b6, .ref b7, .ref b8, .ref b9, .int 0, .ref b11, .ref b12, .ref b13, .int 0, .int 0, .int 0, .int 0, .ref b18, .ref b19, .ref b20, .ref b21, .ref b22, .ref b23, .ref b24, .ref b25, .ref b26, .ref b27, .ref b28, .ref b29, .ref b30, .int 0, .ref b32, .ref b33])), (b0, .inl (cI, 600, .inl g_23))]) [0, 1] rfl) (hD.sub (ws' := [(h0, .inr (9, [.ref b0, .ref b1, .int (nI (i + 1)), .int 0, .int 0, .int 0, .ref b6, .ref b7, .ref b8, .ref b9, .int 0, .ref b11, .ref b12, .ref b13, .int 0, .int 0, .int 0, .int 0, .ref b18, .ref b19, .ref b20, .ref b21, .ref b22, .ref b23, .ref b24, .ref b25, .ref b26, .ref b27, .ref b28, .ref b29, .ref b30, .int 0, .ref b32, .ref b33])), (b0, .inl (cI, 600, .inl g_23))]) [0, 1] (by decide) rfl) hS (lv_sub hl [2, 3, 4, 5, 6, 7, 0] rfl)
            · refine lv_iload_n hx hb dX9_feed_42 rfl (lv_at hl 2 rfl) ?_
              refine lv_goto (tgt := 71) hx hb dX9_feed_43 (by decide) ?_
              refine lv_istore (lv' := [(7, .int x2), (0, .ref h0), (1, .int x1), (2, .int x2), (3, .int x3), (4, .int x4), (5, .int x5), (6, .int (nI i))]) hx hb dX9_feed_71 hl (by decide) rfl (fun ls hl => ?_)
              refine lv_aload_n hx hb dX9_feed_73 rfl (lv_at hl 1 rfl) ?_
              refine va_get (D := D) (ci := 9) (v := .ref b0) (C := RX9) (T := TX9) (N := 34) hx hb hts hinX9 hown hK hP 0 rfl rfl 0 (by decide) (hts (.fieldLink RX9 7 "TaleReaderModel" "tape" "[I") (uc6 _ (List.mem_of_getElem? (i := 17) rfl))) (fun _ h9 => h9) rfl dX9_feed_74 ?_
              refine lv_aload_n hx hb dX9_feed_77 rfl (lv_at hl 1 rfl) ?_
              refine va_get (D := D) (ci := 9) (v := .int (nI i)) (C := RX9) (T := TX9) (N := 34) hx hb hts hinX9 hown hK hP 0 rfl rfl 2 (by decide) (hts (.fieldLink RX9 83 "TaleReaderModel" "taped" "I") (uc8 _ (List.mem_of_getElem? (i := 13) rfl))) (fun _ h9 => h9) rfl dX9_feed_78 ?_
              refine lv_iload hx hb dX9_feed_81 (lv_at hl 0 rfl) ?_
              refine lv_bipush (v := 24) hx hb dX9_feed_83 (by decide) ?_
              refine lv_bipush (v := 8) hx hb dX9_feed_85 (by decide) ?_
              refine lv_iload hx hb dX9_feed_87 (lv_at hl 7 rfl) ?_
              refine lv_iconst (v := 4) hx hb dX9_feed_89 (by decide) ?_
              refine lv_irem hx hb dX9_feed_90 (by decide) ?_
              refine lv_imul hx hb dX9_feed_91 ?_
              refine lv_isub hx hb dX9_feed_92 ?_
              refine lv_ishr hx hb dX9_feed_93 ?_
              refine lv_sipush (v := 255) hx hb dX9_feed_94 (by decide) ?_
              refine lv_iand hx hb dX9_feed_97 ?_
              refine va_iast (D := D) hx hb hK hP hD hS 1 1 rfl rfl (vp_in_nI (by omega) (by omega)) dX9_feed_98 (fun H_27 L_28 hP hD hS => ?_)
              obtain ⟨g_29, eg_29⟩ : ∃ gg : Nat → Int32, gg = upd g ((nI i)).toNatClampNeg ((x2 >>> ((24 - (8 * ((nI i) - (nI i) / 4 * 4))) &&& 31)) &&& 255) := ⟨_, rfl⟩
              have hP : va_P D vwCl [(h0, .inr (9, [.ref b0, .ref b1, .int (nI i), .int 0, .int 0, .int 0, .ref b6, .ref b7, .ref b8, .ref b9, .int 0, .ref b11, .ref b12, .ref b13, .int 0, .int 0, .int 0, .int 0, .ref b18, .ref b19, .ref b20, .ref b21, .ref b22, .ref b23, .ref b24, .ref b25, .ref b26, .ref b27, .ref b28, .ref b29, .ref b30, .int 0, .ref b32, .ref b33])), (b0, .inl (cI, 600, .inl g_29))] H_27 := by rw [eg_29]; exact hP
              have hD : va_D A [(h0, .inr (9, [.ref b0, .ref b1, .int (nI i), .int 0, .int 0, .int 0, .ref b6, .ref b7, .ref b8, .ref b9, .int 0, .ref b11, .ref b12, .ref b13, .int 0, .int 0, .int 0, .int 0, .ref b18, .ref b19, .ref b20, .ref b21, .ref b22, .ref b23, .ref b24, .ref b25, .ref b26, .ref b27, .ref b28, .ref b29, .ref b30, .int 0, .ref b32, .ref b33])), (b0, .inl (cI, 600, .inl g_29))] := by rw [eg_29]; exact hD
              refine lv_aload_n hx hb dX9_feed_99 rfl (lv_at hl 1 rfl) ?_
              refine lv_dup hx hb dX9_feed_100 rfl ?_
              refine va_get (D := D) (ci := 9) (v := .int (nI i)) (C := RX9) (T := TX9) (N := 34) hx hb hts hinX9 hown hK hP 0 rfl rfl 2 (by decide) (hts (.fieldLink RX9 83 "TaleReaderModel" "taped" "I") (uc8 _ (List.mem_of_getElem? (i := 13) rfl))) (fun _ h9 => h9) rfl dX9_feed_101 ?_
              refine lv_iconst (v := 1) hx hb dX9_feed_104 (by decide) ?_
              refine lv_iadd hx hb dX9_feed_105 ?_
              refine lv_topi (fun z_30 ez_30 => ?_)
              obtain rfl : z_30 = nI (i + 1) := ez_30.trans (nI_add i 1)
              refine va_put (D := D) (ci := 9) (v := .int (nI (i + 1))) (ty := .int) (C := RX9) (T := TX9) (N := 34) hx hb hts hinX9 tyX9 tyX9_ok nmX9 hown hK hP hD hS 0 rfl rfl 2 (by decide) (hts (.fieldLink RX9 83 "TaleReaderModel" "taped" "I") (uc8 _ (List.mem_of_getElem? (i := 13) rfl))) (fun _ h9 => h9) rfl (by decide +kernel) rfl rfl (Nat.le_of_ble_eq_true rfl) dX9_feed_106 (fun H_31 L_32 hP hD hS => ?_)
              have hP : va_P D vwCl [(h0, .inr (9, [.ref b0, .ref b1, .int (nI (i + 1)), .int 0, .int 0, .int 0, .ref b6, .ref b7, .ref b8, .ref b9, .int 0, .ref b11, .ref b12, .ref b13, .int 0, .int 0, .int 0, .int 0, .ref b18, .ref b19, .ref b20, .ref b21, .ref b22, .ref b23, .ref b24, .ref b25, .ref b26, .ref b27, .ref b28, .ref b29, .ref b30, .int 0, .ref b32, .ref b33])), (b0, .inl (cI, 600, .inl g_29))] H_31 := hP
              have hD : va_D A [(h0, .inr (9, [.ref b0, .ref b1, .int (nI (i + 1)), .int 0, .int 0, .int 0, .ref b6, .ref b7, .ref b8, .ref b9, .int 0, .ref b11, .ref b12, .ref b13, .int 0, .int 0, .int 0, .int 0, .ref b18, .ref b19, .ref b20, .ref b21, .ref b22, .ref b23, .ref b24, .ref b25, .ref b26, .ref b27, .ref b28, .ref b29, .ref b30, .int 0, .ref b32, .ref b33])), (b0, .inl (cI, 600, .inl g_29))] := hD
              refine lv_iinc (v := nI (i + 1)) (lv' := [(6, .int (nI (i + 1))), (7, .int x2), (0, .ref h0), (1, .int x1), (2, .int x2), (3, .int x3), (4, .int x4), (5, .int x5)]) hx hb dX9_feed_109 hl (k := 7) rfl (nI_add i 1) (by decide) rfl (fun ls hl => ?_)
              refine lv_goto (tgt := 18) hx hb dX9_feed_112 (by decide) ?_
              exact ih (i + 1) g_29 (by omega) (by omega) H_31 _ ls (hP.sub (ws' := [(h0, .inr (9, [.ref b0, .ref b1, .int (nI (i + 1)), .int 0, .int 0, .int 0, .ref b6, .ref b7, .ref b8, .ref b9, .int 0, .ref b11, .ref b12, .ref b13, .int 0, .int 0, .int 0, .int 0, .ref b18, .ref b19, .ref b20, .ref b21, .ref b22, .ref b23, .ref b24, .ref b25, .ref b26, .ref b27, .ref b28, .ref b29, .ref b30, .int 0, .ref b32, .ref b33])), (b0, .inl (cI, 600, .inl g_29))]) [0, 1] rfl) (hD.sub (ws' := [(h0, .inr (9, [.ref b0, .ref b1, .int (nI (i + 1)), .int 0, .int 0, .int 0, .ref b6, .ref b7, .ref b8, .ref b9, .int 0, .ref b11, .ref b12, .ref b13, .int 0, .int 0, .int 0, .int 0, .ref b18, .ref b19, .ref b20, .ref b21, .ref b22, .ref b23, .ref b24, .ref b25, .ref b26, .ref b27, .ref b28, .ref b29, .ref b30, .int 0, .ref b32, .ref b33])), (b0, .inl (cI, 600, .inl g_29))]) [0, 1] (by decide) rfl) hS (lv_sub hl [2, 3, 4, 5, 6, 7, 0] rfl)
          · refine lv_iload_n hx hb dX9_feed_31 rfl (lv_at hl 1 rfl) ?_
            refine lv_goto (tgt := 71) hx hb dX9_feed_32 (by decide) ?_
            refine lv_istore (lv' := [(7, .int x1), (0, .ref h0), (1, .int x1), (2, .int x2), (3, .int x3), (4, .int x4), (5, .int x5), (6, .int (nI i))]) hx hb dX9_feed_71 hl (by decide) rfl (fun ls hl => ?_)
            refine lv_aload_n hx hb dX9_feed_73 rfl (lv_at hl 1 rfl) ?_
            refine va_get (D := D) (ci := 9) (v := .ref b0) (C := RX9) (T := TX9) (N := 34) hx hb hts hinX9 hown hK hP 0 rfl rfl 0 (by decide) (hts (.fieldLink RX9 7 "TaleReaderModel" "tape" "[I") (uc6 _ (List.mem_of_getElem? (i := 17) rfl))) (fun _ h9 => h9) rfl dX9_feed_74 ?_
            refine lv_aload_n hx hb dX9_feed_77 rfl (lv_at hl 1 rfl) ?_
            refine va_get (D := D) (ci := 9) (v := .int (nI i)) (C := RX9) (T := TX9) (N := 34) hx hb hts hinX9 hown hK hP 0 rfl rfl 2 (by decide) (hts (.fieldLink RX9 83 "TaleReaderModel" "taped" "I") (uc8 _ (List.mem_of_getElem? (i := 13) rfl))) (fun _ h9 => h9) rfl dX9_feed_78 ?_
            refine lv_iload hx hb dX9_feed_81 (lv_at hl 0 rfl) ?_
            refine lv_bipush (v := 24) hx hb dX9_feed_83 (by decide) ?_
            refine lv_bipush (v := 8) hx hb dX9_feed_85 (by decide) ?_
            refine lv_iload hx hb dX9_feed_87 (lv_at hl 7 rfl) ?_
            refine lv_iconst (v := 4) hx hb dX9_feed_89 (by decide) ?_
            refine lv_irem hx hb dX9_feed_90 (by decide) ?_
            refine lv_imul hx hb dX9_feed_91 ?_
            refine lv_isub hx hb dX9_feed_92 ?_
            refine lv_ishr hx hb dX9_feed_93 ?_
            refine lv_sipush (v := 255) hx hb dX9_feed_94 (by decide) ?_
            refine lv_iand hx hb dX9_feed_97 ?_
            refine va_iast (D := D) hx hb hK hP hD hS 1 1 rfl rfl (vp_in_nI (by omega) (by omega)) dX9_feed_98 (fun H_33 L_34 hP hD hS => ?_)
            obtain ⟨g_35, eg_35⟩ : ∃ gg : Nat → Int32, gg = upd g ((nI i)).toNatClampNeg ((x1 >>> ((24 - (8 * ((nI i) - (nI i) / 4 * 4))) &&& 31)) &&& 255) := ⟨_, rfl⟩
            have hP : va_P D vwCl [(h0, .inr (9, [.ref b0, .ref b1, .int (nI i), .int 0, .int 0, .int 0, .ref b6, .ref b7, .ref b8, .ref b9, .int 0, .ref b11, .ref b12, .ref b13, .int 0, .int 0, .int 0, .int 0, .ref b18, .ref b19, .ref b20, .ref b21, .ref b22, .ref b23, .ref b24, .ref b25, .ref b26, .ref b27, .ref b28, .ref b29, .ref b30, .int 0, .ref b32, .ref b33])), (b0, .inl (cI, 600, .inl g_35))] H_33 := by rw [eg_35]; exact hP
            have hD : va_D A [(h0, .inr (9, [.ref b0, .ref b1, .int (nI i), .int 0, .int 0, .int 0, .ref b6, .ref b7, .ref b8, .ref b9, .int 0, .ref b11, .ref b12, .ref b13, .int 0, .int 0, .int 0, .int 0, .ref b18, .ref b19, .ref b20, .ref b21, .ref b22, .ref b23, .ref b24, .ref b25, .ref b26, .ref b27, .ref b28, .ref b29, .ref b30, .int 0, .ref b32, .ref b33])), (b0, .inl (cI, 600, .inl g_35))] := by rw [eg_35]; exact hD
            refine lv_aload_n hx hb dX9_feed_99 rfl (lv_at hl 1 rfl) ?_
            refine lv_dup hx hb dX9_feed_100 rfl ?_
            refine va_get (D := D) (ci := 9) (v := .int (nI i)) (C := RX9) (T := TX9) (N := 34) hx hb hts hinX9 hown hK hP 0 rfl rfl 2 (by decide) (hts (.fieldLink RX9 83 "TaleReaderModel" "taped" "I") (uc8 _ (List.mem_of_getElem? (i := 13) rfl))) (fun _ h9 => h9) rfl dX9_feed_101 ?_
            refine lv_iconst (v := 1) hx hb dX9_feed_104 (by decide) ?_
            refine lv_iadd hx hb dX9_feed_105 ?_
            refine lv_topi (fun z_36 ez_36 => ?_)
            obtain rfl : z_36 = nI (i + 1) := ez_36.trans (nI_add i 1)
            refine va_put (D := D) (ci := 9) (v := .int (nI (i + 1))) (ty := .int) (C := RX9) (T := TX9) (N := 34) hx hb hts hinX9 tyX9 tyX9_ok nmX9 hown hK hP hD hS 0 rfl rfl 2 (by decide) (hts (.fieldLink RX9 83 "TaleReaderModel" "taped" "I") (uc8 _ (List.mem_of_getElem? (i := 13) rfl))) (fun _ h9 => h9) rfl (by decide +kernel) rfl rfl (Nat.le_of_ble_eq_true rfl) dX9_feed_106 (fun H_37 L_38 hP hD hS => ?_)
            have hP : va_P D vwCl [(h0, .inr (9, [.ref b0, .ref b1, .int (nI (i + 1)), .int 0, .int 0, .int 0, .ref b6, .ref b7, .ref b8, .ref b9, .int 0, .ref b11, .ref b12, .ref b13, .int 0, .int 0, .int 0, .int 0, .ref b18, .ref b19, .ref b20, .ref b21, .ref b22, .ref b23, .ref b24, .ref b25, .ref b26, .ref b27, .ref b28, .ref b29, .ref b30, .int 0, .ref b32, .ref b33])), (b0, .inl (cI, 600, .inl g_35))] H_37 := hP
            have hD : va_D A [(h0, .inr (9, [.ref b0, .ref b1, .int (nI (i + 1)), .int 0, .int 0, .int 0, .ref b6, .ref b7, .ref b8, .ref b9, .int 0, .ref b11, .ref b12, .ref b13, .int 0, .int 0, .int 0, .int 0, .ref b18, .ref b19, .ref b20, .ref b21, .ref b22, .ref b23, .ref b24, .ref b25, .ref b26, .ref b27, .ref b28, .ref b29, .ref b30, .int 0, .ref b32, .ref b33])), (b0, .inl (cI, 600, .inl g_35))] := hD
            refine lv_iinc (v := nI (i + 1)) (lv' := [(6, .int (nI (i + 1))), (7, .int x1), (0, .ref h0), (1, .int x1), (2, .int x2), (3, .int x3), (4, .int x4), (5, .int x5)]) hx hb dX9_feed_109 hl (k := 7) rfl (nI_add i 1) (by decide) rfl (fun ls hl => ?_)
            refine lv_goto (tgt := 18) hx hb dX9_feed_112 (by decide) ?_
            exact ih (i + 1) g_35 (by omega) (by omega) H_37 _ ls (hP.sub (ws' := [(h0, .inr (9, [.ref b0, .ref b1, .int (nI (i + 1)), .int 0, .int 0, .int 0, .ref b6, .ref b7, .ref b8, .ref b9, .int 0, .ref b11, .ref b12, .ref b13, .int 0, .int 0, .int 0, .int 0, .ref b18, .ref b19, .ref b20, .ref b21, .ref b22, .ref b23, .ref b24, .ref b25, .ref b26, .ref b27, .ref b28, .ref b29, .ref b30, .int 0, .ref b32, .ref b33])), (b0, .inl (cI, 600, .inl g_35))]) [0, 1] rfl) (hD.sub (ws' := [(h0, .inr (9, [.ref b0, .ref b1, .int (nI (i + 1)), .int 0, .int 0, .int 0, .ref b6, .ref b7, .ref b8, .ref b9, .int 0, .ref b11, .ref b12, .ref b13, .int 0, .int 0, .int 0, .int 0, .ref b18, .ref b19, .ref b20, .ref b21, .ref b22, .ref b23, .ref b24, .ref b25, .ref b26, .ref b27, .ref b28, .ref b29, .ref b30, .int 0, .ref b32, .ref b33])), (b0, .inl (cI, 600, .inl g_35))]) [0, 1] (by decide) rfl) hS (lv_sub hl [2, 3, 4, 5, 6, 7, 0] rfl)
    exact loop_3 _ 0 f (by omega) (Nat.lt_succ_self _) s.heap _ ls (hP.sub (ws' := [(h0, .inr (9, [.ref b0, .ref b1, .int (nI 0), .int 0, .int 0, .int 0, .ref b6, .ref b7, .ref b8, .ref b9, .int 0, .ref b11, .ref b12, .ref b13, .int 0, .int 0, .int 0, .int 0, .ref b18, .ref b19, .ref b20, .ref b21, .ref b22, .ref b23, .ref b24, .ref b25, .ref b26, .ref b27, .ref b28, .ref b29, .ref b30, .int 0, .ref b32, .ref b33])), (b0, .inl (cI, 600, .inl f))]) [0, 1] rfl) (hD.sub (ws' := [(h0, .inr (9, [.ref b0, .ref b1, .int (nI 0), .int 0, .int 0, .int 0, .ref b6, .ref b7, .ref b8, .ref b9, .int 0, .ref b11, .ref b12, .ref b13, .int 0, .int 0, .int 0, .int 0, .ref b18, .ref b19, .ref b20, .ref b21, .ref b22, .ref b23, .ref b24, .ref b25, .ref b26, .ref b27, .ref b28, .ref b29, .ref b30, .int 0, .ref b32, .ref b33])), (b0, .inl (cI, 600, .inl f))]) [0, 1] (by decide) rfl) hS (lv_sub hl [1, 2, 3, 4, 5, 6, 0] rfl)
  · exact False.elim (by revert c_2; decide)
set_option maxHeartbeats 4000000 in
set_option maxRecDepth 100000 in
theorem c_X9_end_0 (l : Launch) (D : va_G) (cB cI cZ : ClassId) (sz : Nat) (h0 : Nat) (b0 : Nat) (b1 : Nat) (b6 : Nat) (b7 : Nat) (b8 : Nat) (b9 : Nat) (b11 : Nat) (b12 : Nat) (b13 : Nat) (b18 : Nat) (b19 : Nat) (b20 : Nat) (b21 : Nat) (b22 : Nat) (b23 : Nat) (b24 : Nat) (b25 : Nat) (b26 : Nat) (b27 : Nat) (b28 : Nat) (b29 : Nat) (b30 : Nat) (b32 : Nat) (b33 : Nat) (k : Int32) : Met l yX9_end (.code yX9_end cX9_end 2 (some .boolean) :: wsL_law) ({ frames := 1, cells := 0, slots := 0, locals := 22 } : Room) (va_Pc [.ref h0, .int k] (pIn D (pT cB cI cZ) sz [(h0, .inr (9, [.ref b0, .ref b1, .int 0, .int 0, .int 0, .int 0, .ref b6, .ref b7, .ref b8, .ref b9, .int 0, .ref b11, .ref b12, .ref b13, .int 0, .int 0, .int 0, .int 0, .ref b18, .ref b19, .ref b20, .ref b21, .ref b22, .ref b23, .ref b24, .ref b25, .ref b26, .ref b27, .ref b28, .ref b29, .ref b30, .int 0, .ref b32, .ref b33]))])) (va_Qi (fun (r : Int32) (u : Unit) => r = (if k = 0 then 1 else 0)) (fun (u : Unit) (t : State) => pAt D (pT cB cI cZ) (va_A [(h0, .inr (9, [.ref b0, .ref b1, .int 0, .int 0, .int 0, .int 0, .ref b6, .ref b7, .ref b8, .ref b9, .int 0, .ref b11, .ref b12, .ref b13, .int 0, .int 0, .int 0, .int 0, .ref b18, .ref b19, .ref b20, .ref b21, .ref b22, .ref b23, .ref b24, .ref b25, .ref b26, .ref b27, .ref b28, .ref b29, .ref b30, .int 0, .ref b32, .ref b33]))] sz) [] t) (va_A [(h0, .inr (9, [.ref b0, .ref b1, .int 0, .int 0, .int 0, .int 0, .ref b6, .ref b7, .ref b8, .ref b9, .int 0, .ref b11, .ref b12, .ref b13, .int 0, .int 0, .int 0, .int 0, .ref b18, .ref b19, .ref b20, .ref b21, .ref b22, .ref b23, .ref b24, .ref b25, .ref b26, .ref b27, .ref b28, .ref b29, .ref b30, .int 0, .ref b32, .ref b33]))] sz)) 0 0 (va_A [(h0, .inr (9, [.ref b0, .ref b1, .int 0, .int 0, .int 0, .int 0, .ref b6, .ref b7, .ref b8, .ref b9, .int 0, .ref b11, .ref b12, .ref b13, .int 0, .int 0, .int 0, .int 0, .ref b18, .ref b19, .ref b20, .ref b21, .ref b22, .ref b23, .ref b24, .ref b25, .ref b26, .ref b27, .ref b28, .ref b29, .ref b30, .int 0, .ref b32, .ref b33]))] sz) := by
  refine Met.ofW (cc := cX9_end) (maxL := 2) (ret := (some .boolean)) (by decide) rfl ?_
  intro p e s m args below meth c s₁ B hml hv
  obtain ⟨rfl, hsz, hP, hK, hD0⟩ := hv
  have hx := B.exec
  have hb := B.bytes
  have hr := B.returns
  have hts0 := atoms_spec (ws := .code yX9_end cX9_end 2 (some .boolean) :: wsL_law) B.pre
  have hts := fun (w : Cond) (h : w ∈ wsL_law) => hts0 w (List.mem_cons_of_mem _ h)
  have hown : s.vm.findClass RX9 = some m.cls := findClass_of_methodNamed B.named
  have hlocks := B.notSynchronized
  have hinX9 := inlX9
  subst hsz
  have hD := hD0.self (sz := s.heap.size)
  generalize hAe : va_A [(h0, .inr (9, [.ref b0, .ref b1, .int 0, .int 0, .int 0, .int 0, .ref b6, .ref b7, .ref b8, .ref b9, .int 0, .ref b11, .ref b12, .ref b13, .int 0, .int 0, .int 0, .int 0, .ref b18, .ref b19, .ref b20, .ref b21, .ref b22, .ref b23, .ref b24, .ref b25, .ref b26, .ref b27, .ref b28, .ref b29, .ref b30, .int 0, .ref b32, .ref b33]))] s.heap.size = A at hD ⊢
  have hA : ∀ q : Nat, s.heap.size ≤ q → A q := fun q h => by rw [← hAe]; exact Or.inr h
  have hS : va_S A s.heap s.heap [] := va_S.rf
  have hP : va_P D vwCl [(h0, .inr (9, [.ref b0, .ref b1, .int 0, .int 0, .int 0, .int 0, .ref b6, .ref b7, .ref b8, .ref b9, .int 0, .ref b11, .ref b12, .ref b13, .int 0, .int 0, .int 0, .int 0, .ref b18, .ref b19, .ref b20, .ref b21, .ref b22, .ref b23, .ref b24, .ref b25, .ref b26, .ref b27, .ref b28, .ref b29, .ref b30, .int 0, .ref b32, .ref b33]))] s.heap := hP
  have hl := lv_entry ([.ref h0, .int k]) (n := 2) (Nat.le_of_ble_eq_true rfl)
  rw [lg_entry_eq]
  generalize (lg_sl ([.ref h0, .int k]) ++ List.replicate (2 - (lg_sl ([.ref h0, .int k])).length) Slot.unset).toArray = ls at hl ⊢
  have hl : lv_has ls 2 [(0, .ref h0), (1, .int k)] := hl
  refine lv_iload_n hx hb dX9_end_0 rfl (lv_at hl 1 rfl) ?_
  refine lv_iconst (v := 0) hx hb dX9_end_1 (by decide) ?_
  refine lv_aload_n hx hb dX9_end_2 rfl (lv_at hl 0 rfl) ?_
  refine va_get (D := D) (ci := 9) (v := .int 0) (C := RX9) (T := TX9) (N := 34) hx hb hts hinX9 hown hK hP 0 rfl rfl 2 (by decide) (hts (.fieldLink RX9 83 "TaleReaderModel" "taped" "I") (uc8 _ (List.mem_of_getElem? (i := 13) rfl))) (fun _ h9 => h9) rfl dX9_end_3 ?_
  have hPc := hP.sub (ws' := []) [] rfl
  have hDc := hD.sub (ws' := []) [] (by decide) rfl
  have hFc := va_free (wc := []) hD hS hA [] rfl
  refine va_calli (va_runS (As := [.int k, .int 0, .int 0]) (rest := []) ⟨hx, hb, hml, hown, hts⟩ (c_X9_isIn l D cB cI cZ s.heap.size k 0 0) (va_cwS 3 hts (uS (uc9 _ (List.mem_of_getElem? (i := 2) rfl)) (uc9 _ (List.mem_of_getElem? (i := 3) rfl)) (uc1 _ (List.mem_of_getElem? (i := 5) rfl)) (uc9 _ (List.mem_of_getElem? (i := 4) rfl))) rfl rfl rfl (by decide +kernel) ⟨Nat.le_of_ble_eq_true rfl, Nat.le_of_ble_eq_true rfl⟩) (pS hK hPc hDc) rfl rfl hl.1 rfl (lv_room (Nat.le_of_ble_eq_true rfl)) dX9_end_6 ⟨Nat.le_of_ble_eq_true rfl, Nat.le_of_ble_eq_true rfl⟩) hS (fun q _ h => hFc q h) hFc (fun r_1 u t H_2 L_3 ht hvm hw hB hz1 hk1 hS => ?_)
  obtain ⟨hP1, -, hD1⟩ := hB
  rw [ht] at hP1
  obtain ⟨hP, hD⟩ := va_join (wr := [(h0, .inr (9, [.ref b0, .ref b1, .int 0, .int 0, .int 0, .int 0, .ref b6, .ref b7, .ref b8, .ref b9, .int 0, .ref b11, .ref b12, .ref b13, .int 0, .int 0, .int 0, .int 0, .ref b18, .ref b19, .ref b20, .ref b21, .ref b22, .ref b23, .ref b24, .ref b25, .ref b26, .ref b27, .ref b28, .ref b29, .ref b30, .int 0, .ref b32, .ref b33]))]) (w1 := []) hP hD [] [0] rfl rfl (by decide) (by decide) hk1 hFc hP1 hD1
  have hP : va_P D vwCl [(h0, .inr (9, [.ref b0, .ref b1, .int 0, .int 0, .int 0, .int 0, .ref b6, .ref b7, .ref b8, .ref b9, .int 0, .ref b11, .ref b12, .ref b13, .int 0, .int 0, .int 0, .int 0, .ref b18, .ref b19, .ref b20, .ref b21, .ref b22, .ref b23, .ref b24, .ref b25, .ref b26, .ref b27, .ref b28, .ref b29, .ref b30, .int 0, .ref b32, .ref b33]))] H_2 := hP.sub [0] rfl
  have hD : va_D A [(h0, .inr (9, [.ref b0, .ref b1, .int 0, .int 0, .int 0, .int 0, .ref b6, .ref b7, .ref b8, .ref b9, .int 0, .ref b11, .ref b12, .ref b13, .int 0, .int 0, .int 0, .int 0, .ref b18, .ref b19, .ref b20, .ref b21, .ref b22, .ref b23, .ref b24, .ref b25, .ref b26, .ref b27, .ref b28, .ref b29, .ref b30, .int 0, .ref b32, .ref b33]))] := hD.sub [0] (by decide) rfl
  try dsimp only at hw
  rcases hw with ⟨rfl, h_4⟩ | ⟨rfl, h_5, h_6⟩
  · have hb0 := h_4
    refine lv_if_ne (tgt := 14) hx hb dX9_end_9 (by decide) (fun c_7 => ?_) (fun c_7 => ?_)
    · exact False.elim (by revert c_7; decide)
    · refine lv_iconst (v := 0) hx hb dX9_end_12 (by decide) ?_
      have hP9 := hP.sub (ws' := []) [] rfl
      have hD9 := hD.sub (ws' := []) [] (by decide) rfl
      exact W.zret (v := 0) hx hb hr (rfl) (fun t ht hW => ⟨⟨0, (), rfl, (if_neg (fun q => by subst q; revert hb0; decide)).symm, ⟨by rw [ht]; exact hP9, va_K.moved hW.alike hK, hD9⟩⟩, hS.F ht⟩) hS.2.2 dX9_end_13
  · have ha0 := h_5
    have ha1 := h_6
    refine lv_if_ne (tgt := 14) hx hb dX9_end_9 (by decide) (fun c_8 => ?_) (fun c_8 => ?_)
    · refine lv_aload_n hx hb dX9_end_14 rfl (lv_at hl 0 rfl) ?_
      refine lv_iload_n hx hb dX9_end_15 rfl (lv_at hl 1 rfl) ?_
      refine va_put (D := D) (ci := 9) (v := .int k) (ty := .int) (C := RX9) (T := TX9) (N := 34) hx hb hts hinX9 tyX9 tyX9_ok nmX9 hown hK hP hD hS 0 rfl rfl 2 (by decide) (hts (.fieldLink RX9 83 "TaleReaderModel" "taped" "I") (uc8 _ (List.mem_of_getElem? (i := 13) rfl))) (fun _ h9 => h9) rfl (by decide +kernel) rfl rfl (Nat.le_of_ble_eq_true rfl) dX9_end_16 (fun H_9 L_10 hP hD hS => ?_)
      have hP : va_P D vwCl [(h0, .inr (9, [.ref b0, .ref b1, .int k, .int 0, .int 0, .int 0, .ref b6, .ref b7, .ref b8, .ref b9, .int 0, .ref b11, .ref b12, .ref b13, .int 0, .int 0, .int 0, .int 0, .ref b18, .ref b19, .ref b20, .ref b21, .ref b22, .ref b23, .ref b24, .ref b25, .ref b26, .ref b27, .ref b28, .ref b29, .ref b30, .int 0, .ref b32, .ref b33]))] H_9 := hP
      have hD : va_D A [(h0, .inr (9, [.ref b0, .ref b1, .int k, .int 0, .int 0, .int 0, .ref b6, .ref b7, .ref b8, .ref b9, .int 0, .ref b11, .ref b12, .ref b13, .int 0, .int 0, .int 0, .int 0, .ref b18, .ref b19, .ref b20, .ref b21, .ref b22, .ref b23, .ref b24, .ref b25, .ref b26, .ref b27, .ref b28, .ref b29, .ref b30, .int 0, .ref b32, .ref b33]))] := hD
      refine lv_iconst (v := 1) hx hb dX9_end_19 (by decide) ?_
      have hP9 := hP.sub (ws' := []) [] rfl
      have hD9 := hD.sub (ws' := []) [] (by decide) rfl
      exact W.zret (v := 1) hx hb hr (rfl) (fun t ht hW => ⟨⟨1, (), rfl, (if_pos (pE3 ha0 ha1)).symm, ⟨by rw [ht]; exact hP9, va_K.moved hW.alike hK, hD9⟩⟩, hS.F ht⟩) hS.2.2 dX9_end_20
    · exact False.elim (by revert c_8; decide)
set_option maxHeartbeats 4000000 in
set_option maxRecDepth 100000 in
theorem c_X9_parts_0 (l : Launch) (D : va_G) (cB cI cZ : ClassId) (sz : Nat) (h0 : Nat) (b0 : Nat) (b1 : Nat) (b6 : Nat) (b7 : Nat) (b8 : Nat) (b9 : Nat) (b11 : Nat) (b12 : Nat) (b13 : Nat) (b18 : Nat) (b19 : Nat) (b20 : Nat) (b21 : Nat) (b22 : Nat) (b23 : Nat) (b24 : Nat) (b25 : Nat) (b26 : Nat) (b27 : Nat) (b28 : Nat) (b29 : Nat) (b30 : Nat) (b32 : Nat) (b33 : Nat) : Met l yX9_parts (.code yX9_parts cX9_parts 3 none :: wsL_law) ({ frames := 0, cells := 0, slots := 0, locals := 0 } : Room) (va_Pc [.ref h0] (pIn D (pT cB cI cZ) sz [(h0, .inr (9, [.ref b0, .ref b1, .int 0, .int 0, .int 0, .int 0, .ref b6, .ref b7, .ref b8, .ref b9, .int 0, .ref b11, .ref b12, .ref b13, .int 0, .int 0, .int 0, .int 0, .ref b18, .ref b19, .ref b20, .ref b21, .ref b22, .ref b23, .ref b24, .ref b25, .ref b26, .ref b27, .ref b28, .ref b29, .ref b30, .int 0, .ref b32, .ref b33]))])) (va_Qv (fun (u : Unit) => True) (fun (u : Unit) (t : State) => pAt D (pT cB cI cZ) (va_A [(h0, .inr (9, [.ref b0, .ref b1, .int 0, .int 0, .int 0, .int 0, .ref b6, .ref b7, .ref b8, .ref b9, .int 0, .ref b11, .ref b12, .ref b13, .int 0, .int 0, .int 0, .int 0, .ref b18, .ref b19, .ref b20, .ref b21, .ref b22, .ref b23, .ref b24, .ref b25, .ref b26, .ref b27, .ref b28, .ref b29, .ref b30, .int 0, .ref b32, .ref b33]))] sz) [(h0, .inr (9, [.ref b0, .ref b1, .int 0, .int 0, .int 0, .int 0, .ref b6, .ref b7, .ref b8, .ref b9, .int 0, .ref b11, .ref b12, .ref b13, .int 0, .int 0, .int 0, .int 0, .ref b18, .ref b19, .ref b20, .ref b21, .ref b22, .ref b23, .ref b24, .ref b25, .ref b26, .ref b27, .ref b28, .ref b29, .ref b30, .int 0, .ref b32, .ref b33]))] t) (va_A [(h0, .inr (9, [.ref b0, .ref b1, .int 0, .int 0, .int 0, .int 0, .ref b6, .ref b7, .ref b8, .ref b9, .int 0, .ref b11, .ref b12, .ref b13, .int 0, .int 0, .int 0, .int 0, .ref b18, .ref b19, .ref b20, .ref b21, .ref b22, .ref b23, .ref b24, .ref b25, .ref b26, .ref b27, .ref b28, .ref b29, .ref b30, .int 0, .ref b32, .ref b33]))] sz)) 0 0 (va_A [(h0, .inr (9, [.ref b0, .ref b1, .int 0, .int 0, .int 0, .int 0, .ref b6, .ref b7, .ref b8, .ref b9, .int 0, .ref b11, .ref b12, .ref b13, .int 0, .int 0, .int 0, .int 0, .ref b18, .ref b19, .ref b20, .ref b21, .ref b22, .ref b23, .ref b24, .ref b25, .ref b26, .ref b27, .ref b28, .ref b29, .ref b30, .int 0, .ref b32, .ref b33]))] sz) := by
  refine Met.ofW (cc := cX9_parts) (maxL := 3) (ret := none) (by decide) rfl ?_
  intro p e s m args below meth c s₁ B hml hv
  obtain ⟨rfl, hsz, hP, hK, hD0⟩ := hv
  have hx := B.exec
  have hb := B.bytes
  have hr := B.returns
  have hts0 := atoms_spec (ws := .code yX9_parts cX9_parts 3 none :: wsL_law) B.pre
  have hts := fun (w : Cond) (h : w ∈ wsL_law) => hts0 w (List.mem_cons_of_mem _ h)
  have hown : s.vm.findClass RX9 = some m.cls := findClass_of_methodNamed B.named
  have hlocks := B.notSynchronized
  have hinX9 := inlX9
  subst hsz
  have hD := hD0.self (sz := s.heap.size)
  generalize hAe : va_A [(h0, .inr (9, [.ref b0, .ref b1, .int 0, .int 0, .int 0, .int 0, .ref b6, .ref b7, .ref b8, .ref b9, .int 0, .ref b11, .ref b12, .ref b13, .int 0, .int 0, .int 0, .int 0, .ref b18, .ref b19, .ref b20, .ref b21, .ref b22, .ref b23, .ref b24, .ref b25, .ref b26, .ref b27, .ref b28, .ref b29, .ref b30, .int 0, .ref b32, .ref b33]))] s.heap.size = A at hD ⊢
  have hA : ∀ q : Nat, s.heap.size ≤ q → A q := fun q h => by rw [← hAe]; exact Or.inr h
  have hS : va_S A s.heap s.heap [] := va_S.rf
  have hP : va_P D vwCl [(h0, .inr (9, [.ref b0, .ref b1, .int 0, .int 0, .int 0, .int 0, .ref b6, .ref b7, .ref b8, .ref b9, .int 0, .ref b11, .ref b12, .ref b13, .int 0, .int 0, .int 0, .int 0, .ref b18, .ref b19, .ref b20, .ref b21, .ref b22, .ref b23, .ref b24, .ref b25, .ref b26, .ref b27, .ref b28, .ref b29, .ref b30, .int 0, .ref b32, .ref b33]))] s.heap := hP
  have hl := lv_entry ([.ref h0]) (n := 3) (Nat.le_of_ble_eq_true rfl)
  rw [lg_entry_eq]
  generalize (lg_sl ([.ref h0]) ++ List.replicate (3 - (lg_sl ([.ref h0])).length) Slot.unset).toArray = ls at hl ⊢
  have hl : lv_has ls 3 [(0, .ref h0)] := hl
  refine lv_aload_n hx hb dX9_parts_0 rfl (lv_at hl 0 rfl) ?_
  refine lv_iconst (v := 0) hx hb dX9_parts_1 (by decide) ?_
  refine va_put (D := D) (ci := 9) (v := .int 0) (ty := .int) (C := RX9) (T := TX9) (N := 34) hx hb hts hinX9 tyX9 tyX9_ok nmX9 hown hK hP hD hS 0 rfl rfl 4 (by decide) (hts (.fieldLink RX9 98 "TaleReaderModel" "words" "I") (uc25 _ (List.mem_of_getElem? (i := 13) rfl))) (fun _ h9 => h9) rfl (by decide +kernel) rfl rfl (Nat.le_of_ble_eq_true rfl) dX9_parts_2 (fun H_1 L_2 hP hD hS => ?_)
  have hP : va_P D vwCl [(h0, .inr (9, [.ref b0, .ref b1, .int 0, .int 0, .int 0, .int 0, .ref b6, .ref b7, .ref b8, .ref b9, .int 0, .ref b11, .ref b12, .ref b13, .int 0, .int 0, .int 0, .int 0, .ref b18, .ref b19, .ref b20, .ref b21, .ref b22, .ref b23, .ref b24, .ref b25, .ref b26, .ref b27, .ref b28, .ref b29, .ref b30, .int 0, .ref b32, .ref b33]))] H_1 := hP
  have hD : va_D A [(h0, .inr (9, [.ref b0, .ref b1, .int 0, .int 0, .int 0, .int 0, .ref b6, .ref b7, .ref b8, .ref b9, .int 0, .ref b11, .ref b12, .ref b13, .int 0, .int 0, .int 0, .int 0, .ref b18, .ref b19, .ref b20, .ref b21, .ref b22, .ref b23, .ref b24, .ref b25, .ref b26, .ref b27, .ref b28, .ref b29, .ref b30, .int 0, .ref b32, .ref b33]))] := hD
  refine lv_aload_n hx hb dX9_parts_5 rfl (lv_at hl 0 rfl) ?_
  refine lv_iconst (v := 0) hx hb dX9_parts_6 (by decide) ?_
  refine va_put (D := D) (ci := 9) (v := .int 0) (ty := .int) (C := RX9) (T := TX9) (N := 34) hx hb hts hinX9 tyX9 tyX9_ok nmX9 hown hK hP hD hS 0 rfl rfl 5 (by decide) (hts (.fieldLink RX9 101 "TaleReaderModel" "stops" "I") (uc25 _ (List.mem_of_getElem? (i := 14) rfl))) (fun _ h9 => h9) rfl (by decide +kernel) rfl rfl (Nat.le_of_ble_eq_true rfl) dX9_parts_7 (fun H_3 L_4 hP hD hS => ?_)
  have hP : va_P D vwCl [(h0, .inr (9, [.ref b0, .ref b1, .int 0, .int 0, .int 0, .int 0, .ref b6, .ref b7, .ref b8, .ref b9, .int 0, .ref b11, .ref b12, .ref b13, .int 0, .int 0, .int 0, .int 0, .ref b18, .ref b19, .ref b20, .ref b21, .ref b22, .ref b23, .ref b24, .ref b25, .ref b26, .ref b27, .ref b28, .ref b29, .ref b30, .int 0, .ref b32, .ref b33]))] H_3 := hP
  have hD : va_D A [(h0, .inr (9, [.ref b0, .ref b1, .int 0, .int 0, .int 0, .int 0, .ref b6, .ref b7, .ref b8, .ref b9, .int 0, .ref b11, .ref b12, .ref b13, .int 0, .int 0, .int 0, .int 0, .ref b18, .ref b19, .ref b20, .ref b21, .ref b22, .ref b23, .ref b24, .ref b25, .ref b26, .ref b27, .ref b28, .ref b29, .ref b30, .int 0, .ref b32, .ref b33]))] := hD
  refine lv_iconst (v := (-1)) hx hb dX9_parts_10 (by decide) ?_
  refine lv_istore_n (lv' := [(1, .int (-1)), (0, .ref h0)]) hx hb dX9_parts_11 rfl hl (by decide) rfl (fun ls hl => ?_)
  refine lv_iconst (v := 0) hx hb dX9_parts_12 (by decide) ?_
  refine lv_istore_n (lv' := [(2, .int 0), (1, .int (-1)), (0, .ref h0)]) hx hb dX9_parts_13 rfl hl (by decide) rfl (fun ls hl => ?_)
  refine lv_iload_n hx hb dX9_parts_14 rfl (lv_at hl 0 rfl) ?_
  refine lv_aload_n hx hb dX9_parts_15 rfl (lv_at hl 2 rfl) ?_
  refine va_get (D := D) (ci := 9) (v := .int 0) (C := RX9) (T := TX9) (N := 34) hx hb hts hinX9 hown hK hP 0 rfl rfl 3 (by decide) (hts (.fieldLink RX9 104 "TaleReaderModel" "taleLong" "I") (uc25 _ (List.mem_of_getElem? (i := 6) rfl))) (fun _ h9 => h9) rfl dX9_parts_16 ?_
  refine lv_icmp_ge (tgt := 174) hx hb dX9_parts_19 (by decide) (fun c_5 => ?_) (fun c_5 => ?_)
  · have hP9 := hP.sub (ws' := [(h0, .inr (9, [.ref b0, .ref b1, .int 0, .int 0, .int 0, .int 0, .ref b6, .ref b7, .ref b8, .ref b9, .int 0, .ref b11, .ref b12, .ref b13, .int 0, .int 0, .int 0, .int 0, .ref b18, .ref b19, .ref b20, .ref b21, .ref b22, .ref b23, .ref b24, .ref b25, .ref b26, .ref b27, .ref b28, .ref b29, .ref b30, .int 0, .ref b32, .ref b33]))]) [0] rfl
    have hD9 := hD.sub (ws' := [(h0, .inr (9, [.ref b0, .ref b1, .int 0, .int 0, .int 0, .int 0, .ref b6, .ref b7, .ref b8, .ref b9, .int 0, .ref b11, .ref b12, .ref b13, .int 0, .int 0, .int 0, .int 0, .ref b18, .ref b19, .ref b20, .ref b21, .ref b22, .ref b23, .ref b24, .ref b25, .ref b26, .ref b27, .ref b28, .ref b29, .ref b30, .int 0, .ref b32, .ref b33]))]) [0] (by decide) rfl
    exact W.vret hx hb hr (fun t ht hW => ⟨⟨(), rfl, trivial, ⟨by rw [ht]; exact hP9, va_K.moved hW.alike hK, hD9⟩⟩, hS.F ht⟩) hS.2.2 dX9_parts_174
  · exact False.elim (by revert c_5; decide)
set_option maxHeartbeats 4000000 in
set_option maxRecDepth 100000 in
theorem c_X9_mentions_0 (l : Launch) (D : va_G) (cB cI cZ : ClassId) (sz : Nat) (h0 : Nat) (b0 : Nat) (b1 : Nat) (b6 : Nat) (b7 : Nat) (b8 : Nat) (b9 : Nat) (b11 : Nat) (b12 : Nat) (b13 : Nat) (b18 : Nat) (b19 : Nat) (b20 : Nat) (b21 : Nat) (b22 : Nat) (b23 : Nat) (b24 : Nat) (b25 : Nat) (b26 : Nat) (b27 : Nat) (b28 : Nat) (b29 : Nat) (b30 : Nat) (b32 : Nat) (b33 : Nat) : Met l yX9_mentions (.code yX9_mentions cX9_mentions 3 none :: wsL_law) ({ frames := 0, cells := 0, slots := 0, locals := 0 } : Room) (va_Pc [.ref h0] (pIn D (pT cB cI cZ) sz [(h0, .inr (9, [.ref b0, .ref b1, .int 0, .int 0, .int 0, .int 0, .ref b6, .ref b7, .ref b8, .ref b9, .int 0, .ref b11, .ref b12, .ref b13, .int 0, .int 0, .int 0, .int 0, .ref b18, .ref b19, .ref b20, .ref b21, .ref b22, .ref b23, .ref b24, .ref b25, .ref b26, .ref b27, .ref b28, .ref b29, .ref b30, .int 0, .ref b32, .ref b33]))])) (va_Qv (fun (u : Unit) => True) (fun (u : Unit) (t : State) => pAt D (pT cB cI cZ) (va_A [(h0, .inr (9, [.ref b0, .ref b1, .int 0, .int 0, .int 0, .int 0, .ref b6, .ref b7, .ref b8, .ref b9, .int 0, .ref b11, .ref b12, .ref b13, .int 0, .int 0, .int 0, .int 0, .ref b18, .ref b19, .ref b20, .ref b21, .ref b22, .ref b23, .ref b24, .ref b25, .ref b26, .ref b27, .ref b28, .ref b29, .ref b30, .int 0, .ref b32, .ref b33]))] sz) [(h0, .inr (9, [.ref b0, .ref b1, .int 0, .int 0, .int 0, .int 0, .ref b6, .ref b7, .ref b8, .ref b9, .int 0, .ref b11, .ref b12, .ref b13, .int 0, .int 0, .int 0, .int 0, .ref b18, .ref b19, .ref b20, .ref b21, .ref b22, .ref b23, .ref b24, .ref b25, .ref b26, .ref b27, .ref b28, .ref b29, .ref b30, .int 0, .ref b32, .ref b33]))] t) (va_A [(h0, .inr (9, [.ref b0, .ref b1, .int 0, .int 0, .int 0, .int 0, .ref b6, .ref b7, .ref b8, .ref b9, .int 0, .ref b11, .ref b12, .ref b13, .int 0, .int 0, .int 0, .int 0, .ref b18, .ref b19, .ref b20, .ref b21, .ref b22, .ref b23, .ref b24, .ref b25, .ref b26, .ref b27, .ref b28, .ref b29, .ref b30, .int 0, .ref b32, .ref b33]))] sz)) 0 0 (va_A [(h0, .inr (9, [.ref b0, .ref b1, .int 0, .int 0, .int 0, .int 0, .ref b6, .ref b7, .ref b8, .ref b9, .int 0, .ref b11, .ref b12, .ref b13, .int 0, .int 0, .int 0, .int 0, .ref b18, .ref b19, .ref b20, .ref b21, .ref b22, .ref b23, .ref b24, .ref b25, .ref b26, .ref b27, .ref b28, .ref b29, .ref b30, .int 0, .ref b32, .ref b33]))] sz) := by
  refine Met.ofW (cc := cX9_mentions) (maxL := 3) (ret := none) (by decide) rfl ?_
  intro p e s m args below meth c s₁ B hml hv
  obtain ⟨rfl, hsz, hP, hK, hD0⟩ := hv
  have hx := B.exec
  have hb := B.bytes
  have hr := B.returns
  have hts0 := atoms_spec (ws := .code yX9_mentions cX9_mentions 3 none :: wsL_law) B.pre
  have hts := fun (w : Cond) (h : w ∈ wsL_law) => hts0 w (List.mem_cons_of_mem _ h)
  have hown : s.vm.findClass RX9 = some m.cls := findClass_of_methodNamed B.named
  have hlocks := B.notSynchronized
  have hinX9 := inlX9
  subst hsz
  have hD := hD0.self (sz := s.heap.size)
  generalize hAe : va_A [(h0, .inr (9, [.ref b0, .ref b1, .int 0, .int 0, .int 0, .int 0, .ref b6, .ref b7, .ref b8, .ref b9, .int 0, .ref b11, .ref b12, .ref b13, .int 0, .int 0, .int 0, .int 0, .ref b18, .ref b19, .ref b20, .ref b21, .ref b22, .ref b23, .ref b24, .ref b25, .ref b26, .ref b27, .ref b28, .ref b29, .ref b30, .int 0, .ref b32, .ref b33]))] s.heap.size = A at hD ⊢
  have hA : ∀ q : Nat, s.heap.size ≤ q → A q := fun q h => by rw [← hAe]; exact Or.inr h
  have hS : va_S A s.heap s.heap [] := va_S.rf
  have hP : va_P D vwCl [(h0, .inr (9, [.ref b0, .ref b1, .int 0, .int 0, .int 0, .int 0, .ref b6, .ref b7, .ref b8, .ref b9, .int 0, .ref b11, .ref b12, .ref b13, .int 0, .int 0, .int 0, .int 0, .ref b18, .ref b19, .ref b20, .ref b21, .ref b22, .ref b23, .ref b24, .ref b25, .ref b26, .ref b27, .ref b28, .ref b29, .ref b30, .int 0, .ref b32, .ref b33]))] s.heap := hP
  have hl := lv_entry ([.ref h0]) (n := 3) (Nat.le_of_ble_eq_true rfl)
  rw [lg_entry_eq]
  generalize (lg_sl ([.ref h0]) ++ List.replicate (3 - (lg_sl ([.ref h0])).length) Slot.unset).toArray = ls at hl ⊢
  have hl : lv_has ls 3 [(0, .ref h0)] := hl
  refine lv_aload_n hx hb dX9_mentions_0 rfl (lv_at hl 0 rfl) ?_
  refine lv_iconst (v := 0) hx hb dX9_mentions_1 (by decide) ?_
  refine va_put (D := D) (ci := 9) (v := .int 0) (ty := .int) (C := RX9) (T := TX9) (N := 34) hx hb hts hinX9 tyX9 tyX9_ok nmX9 hown hK hP hD hS 0 rfl rfl 14 (by decide) (hts (.fieldLink RX9 157 "TaleReaderModel" "mentions" "I") (uc25 _ (List.mem_of_getElem? (i := 8) rfl))) (fun _ h9 => h9) rfl (by decide +kernel) rfl rfl (Nat.le_of_ble_eq_true rfl) dX9_mentions_2 (fun H_1 L_2 hP hD hS => ?_)
  have hP : va_P D vwCl [(h0, .inr (9, [.ref b0, .ref b1, .int 0, .int 0, .int 0, .int 0, .ref b6, .ref b7, .ref b8, .ref b9, .int 0, .ref b11, .ref b12, .ref b13, .int 0, .int 0, .int 0, .int 0, .ref b18, .ref b19, .ref b20, .ref b21, .ref b22, .ref b23, .ref b24, .ref b25, .ref b26, .ref b27, .ref b28, .ref b29, .ref b30, .int 0, .ref b32, .ref b33]))] H_1 := hP
  have hD : va_D A [(h0, .inr (9, [.ref b0, .ref b1, .int 0, .int 0, .int 0, .int 0, .ref b6, .ref b7, .ref b8, .ref b9, .int 0, .ref b11, .ref b12, .ref b13, .int 0, .int 0, .int 0, .int 0, .ref b18, .ref b19, .ref b20, .ref b21, .ref b22, .ref b23, .ref b24, .ref b25, .ref b26, .ref b27, .ref b28, .ref b29, .ref b30, .int 0, .ref b32, .ref b33]))] := hD
  refine lv_aload_n hx hb dX9_mentions_5 rfl (lv_at hl 0 rfl) ?_
  refine lv_iconst (v := 0) hx hb dX9_mentions_6 (by decide) ?_
  refine va_put (D := D) (ci := 9) (v := .int 0) (ty := .boolean) (C := RX9) (T := TX9) (N := 34) hx hb hts hinX9 tyX9 tyX9_ok nmX9 hown hK hP hD hS 0 rfl rfl 17 (by decide) (hts (.fieldLink RX9 160 "TaleReaderModel" "isCut" "Z") (uc26 _ (List.mem_of_getElem? (i := 10) rfl))) (fun _ h9 => h9) rfl (by decide +kernel) rfl rfl (Nat.le_of_ble_eq_true rfl) dX9_mentions_7 (fun H_3 L_4 hP hD hS => ?_)
  have hP : va_P D vwCl [(h0, .inr (9, [.ref b0, .ref b1, .int 0, .int 0, .int 0, .int 0, .ref b6, .ref b7, .ref b8, .ref b9, .int 0, .ref b11, .ref b12, .ref b13, .int 0, .int 0, .int 0, .int 0, .ref b18, .ref b19, .ref b20, .ref b21, .ref b22, .ref b23, .ref b24, .ref b25, .ref b26, .ref b27, .ref b28, .ref b29, .ref b30, .int 0, .ref b32, .ref b33]))] H_3 := hP
  have hD : va_D A [(h0, .inr (9, [.ref b0, .ref b1, .int 0, .int 0, .int 0, .int 0, .ref b6, .ref b7, .ref b8, .ref b9, .int 0, .ref b11, .ref b12, .ref b13, .int 0, .int 0, .int 0, .int 0, .ref b18, .ref b19, .ref b20, .ref b21, .ref b22, .ref b23, .ref b24, .ref b25, .ref b26, .ref b27, .ref b28, .ref b29, .ref b30, .int 0, .ref b32, .ref b33]))] := hD
  refine lv_iconst (v := 0) hx hb dX9_mentions_10 (by decide) ?_
  refine lv_istore_n (lv' := [(1, .int 0), (0, .ref h0)]) hx hb dX9_mentions_11 rfl hl (by decide) rfl (fun ls hl => ?_)
  refine lv_iload_n hx hb dX9_mentions_12 rfl (lv_at hl 0 rfl) ?_
  refine lv_aload_n hx hb dX9_mentions_13 rfl (lv_at hl 1 rfl) ?_
  refine va_get (D := D) (ci := 9) (v := .int 0) (C := RX9) (T := TX9) (N := 34) hx hb hts hinX9 hown hK hP 0 rfl rfl 4 (by decide) (hts (.fieldLink RX9 98 "TaleReaderModel" "words" "I") (uc25 _ (List.mem_of_getElem? (i := 13) rfl))) (fun _ h9 => h9) rfl dX9_mentions_14 ?_
  refine lv_icmp_ge (tgt := 104) hx hb dX9_mentions_17 (by decide) (fun c_5 => ?_) (fun c_5 => ?_)
  · have hP9 := hP.sub (ws' := [(h0, .inr (9, [.ref b0, .ref b1, .int 0, .int 0, .int 0, .int 0, .ref b6, .ref b7, .ref b8, .ref b9, .int 0, .ref b11, .ref b12, .ref b13, .int 0, .int 0, .int 0, .int 0, .ref b18, .ref b19, .ref b20, .ref b21, .ref b22, .ref b23, .ref b24, .ref b25, .ref b26, .ref b27, .ref b28, .ref b29, .ref b30, .int 0, .ref b32, .ref b33]))]) [0] rfl
    have hD9 := hD.sub (ws' := [(h0, .inr (9, [.ref b0, .ref b1, .int 0, .int 0, .int 0, .int 0, .ref b6, .ref b7, .ref b8, .ref b9, .int 0, .ref b11, .ref b12, .ref b13, .int 0, .int 0, .int 0, .int 0, .ref b18, .ref b19, .ref b20, .ref b21, .ref b22, .ref b23, .ref b24, .ref b25, .ref b26, .ref b27, .ref b28, .ref b29, .ref b30, .int 0, .ref b32, .ref b33]))]) [0] (by decide) rfl
    exact W.vret hx hb hr (fun t ht hW => ⟨⟨(), rfl, trivial, ⟨by rw [ht]; exact hP9, va_K.moved hW.alike hK, hD9⟩⟩, hS.F ht⟩) hS.2.2 dX9_mentions_104
  · exact False.elim (by revert c_5; decide)
set_option maxHeartbeats 4000000 in
set_option maxRecDepth 100000 in
theorem c_X9_anew_0 (l : Launch) (D : va_G) (cB cI cZ : ClassId) (sz : Nat) (h0 : Nat) (b0 : Nat) (b1 : Nat) (b6 : Nat) (b7 : Nat) (b8 : Nat) (b9 : Nat) (b11 : Nat) (b12 : Nat) (b13 : Nat) (b18 : Nat) (b19 : Nat) (b20 : Nat) (b21 : Nat) (b22 : Nat) (b23 : Nat) (b24 : Nat) (b25 : Nat) (b26 : Nat) (b27 : Nat) (b28 : Nat) (b29 : Nat) (b30 : Nat) (b32 : Nat) (b33 : Nat) : Met l yX9_anew (.code yX9_anew cX9_anew 3 none :: wsL_law) ({ frames := 1, cells := 0, slots := 0, locals := 22 } : Room) (va_Pc [.ref h0] (pIn D (pT cB cI cZ) sz [(h0, .inr (9, [.ref b0, .ref b1, .int 0, .int 0, .int 0, .int 0, .ref b6, .ref b7, .ref b8, .ref b9, .int 0, .ref b11, .ref b12, .ref b13, .int 0, .int 0, .int 0, .int 0, .ref b18, .ref b19, .ref b20, .ref b21, .ref b22, .ref b23, .ref b24, .ref b25, .ref b26, .ref b27, .ref b28, .ref b29, .ref b30, .int 0, .ref b32, .ref b33]))])) (va_Qv (fun (u : Unit) => True) (fun (u : Unit) (t : State) => pAt D (pT cB cI cZ) (va_A [(h0, .inr (9, [.ref b0, .ref b1, .int 0, .int 0, .int 0, .int 0, .ref b6, .ref b7, .ref b8, .ref b9, .int 0, .ref b11, .ref b12, .ref b13, .int 0, .int 0, .int 0, .int 0, .ref b18, .ref b19, .ref b20, .ref b21, .ref b22, .ref b23, .ref b24, .ref b25, .ref b26, .ref b27, .ref b28, .ref b29, .ref b30, .int 0, .ref b32, .ref b33]))] sz) [(h0, .inr (9, [.ref b0, .ref b1, .int 0, .int 0, .int 0, .int 0, .ref b6, .ref b7, .ref b8, .ref b9, .int 0, .ref b11, .ref b12, .ref b13, .int 0, .int 0, .int 0, .int 0, .ref b18, .ref b19, .ref b20, .ref b21, .ref b22, .ref b23, .ref b24, .ref b25, .ref b26, .ref b27, .ref b28, .ref b29, .ref b30, .int 0, .ref b32, .ref b33]))] t) (va_A [(h0, .inr (9, [.ref b0, .ref b1, .int 0, .int 0, .int 0, .int 0, .ref b6, .ref b7, .ref b8, .ref b9, .int 0, .ref b11, .ref b12, .ref b13, .int 0, .int 0, .int 0, .int 0, .ref b18, .ref b19, .ref b20, .ref b21, .ref b22, .ref b23, .ref b24, .ref b25, .ref b26, .ref b27, .ref b28, .ref b29, .ref b30, .int 0, .ref b32, .ref b33]))] sz)) 0 0 (va_A [(h0, .inr (9, [.ref b0, .ref b1, .int 0, .int 0, .int 0, .int 0, .ref b6, .ref b7, .ref b8, .ref b9, .int 0, .ref b11, .ref b12, .ref b13, .int 0, .int 0, .int 0, .int 0, .ref b18, .ref b19, .ref b20, .ref b21, .ref b22, .ref b23, .ref b24, .ref b25, .ref b26, .ref b27, .ref b28, .ref b29, .ref b30, .int 0, .ref b32, .ref b33]))] sz) := by
  refine Met.ofW (cc := cX9_anew) (maxL := 3) (ret := none) (by decide) rfl ?_
  intro p e s m args below meth c s₁ B hml hv
  obtain ⟨rfl, hsz, hP, hK, hD0⟩ := hv
  have hx := B.exec
  have hb := B.bytes
  have hr := B.returns
  have hts0 := atoms_spec (ws := .code yX9_anew cX9_anew 3 none :: wsL_law) B.pre
  have hts := fun (w : Cond) (h : w ∈ wsL_law) => hts0 w (List.mem_cons_of_mem _ h)
  have hown : s.vm.findClass RX9 = some m.cls := findClass_of_methodNamed B.named
  have hlocks := B.notSynchronized
  have hinX9 := inlX9
  subst hsz
  have hD := hD0.self (sz := s.heap.size)
  generalize hAe : va_A [(h0, .inr (9, [.ref b0, .ref b1, .int 0, .int 0, .int 0, .int 0, .ref b6, .ref b7, .ref b8, .ref b9, .int 0, .ref b11, .ref b12, .ref b13, .int 0, .int 0, .int 0, .int 0, .ref b18, .ref b19, .ref b20, .ref b21, .ref b22, .ref b23, .ref b24, .ref b25, .ref b26, .ref b27, .ref b28, .ref b29, .ref b30, .int 0, .ref b32, .ref b33]))] s.heap.size = A at hD ⊢
  have hA : ∀ q : Nat, s.heap.size ≤ q → A q := fun q h => by rw [← hAe]; exact Or.inr h
  have hS : va_S A s.heap s.heap [] := va_S.rf
  have hP : va_P D vwCl [(h0, .inr (9, [.ref b0, .ref b1, .int 0, .int 0, .int 0, .int 0, .ref b6, .ref b7, .ref b8, .ref b9, .int 0, .ref b11, .ref b12, .ref b13, .int 0, .int 0, .int 0, .int 0, .ref b18, .ref b19, .ref b20, .ref b21, .ref b22, .ref b23, .ref b24, .ref b25, .ref b26, .ref b27, .ref b28, .ref b29, .ref b30, .int 0, .ref b32, .ref b33]))] s.heap := hP
  have hl := lv_entry ([.ref h0]) (n := 3) (Nat.le_of_ble_eq_true rfl)
  rw [lg_entry_eq]
  generalize (lg_sl ([.ref h0]) ++ List.replicate (3 - (lg_sl ([.ref h0])).length) Slot.unset).toArray = ls at hl ⊢
  have hl : lv_has ls 3 [(0, .ref h0)] := hl
  refine lv_aload_n hx hb dX9_anew_0 rfl (lv_at hl 0 rfl) ?_
  have hPc := hP.sub (ws' := [(h0, .inr (9, [.ref b0, .ref b1, .int 0, .int 0, .int 0, .int 0, .ref b6, .ref b7, .ref b8, .ref b9, .int 0, .ref b11, .ref b12, .ref b13, .int 0, .int 0, .int 0, .int 0, .ref b18, .ref b19, .ref b20, .ref b21, .ref b22, .ref b23, .ref b24, .ref b25, .ref b26, .ref b27, .ref b28, .ref b29, .ref b30, .int 0, .ref b32, .ref b33]))]) [0] rfl
  have hDc := hD.sub (ws' := [(h0, .inr (9, [.ref b0, .ref b1, .int 0, .int 0, .int 0, .int 0, .ref b6, .ref b7, .ref b8, .ref b9, .int 0, .ref b11, .ref b12, .ref b13, .int 0, .int 0, .int 0, .int 0, .ref b18, .ref b19, .ref b20, .ref b21, .ref b22, .ref b23, .ref b24, .ref b25, .ref b26, .ref b27, .ref b28, .ref b29, .ref b30, .int 0, .ref b32, .ref b33]))]) [0] (by decide) rfl
  have hFc := va_free (wc := [(h0, .inr (9, [.ref b0, .ref b1, .int 0, .int 0, .int 0, .int 0, .ref b6, .ref b7, .ref b8, .ref b9, .int 0, .ref b11, .ref b12, .ref b13, .int 0, .int 0, .int 0, .int 0, .ref b18, .ref b19, .ref b20, .ref b21, .ref b22, .ref b23, .ref b24, .ref b25, .ref b26, .ref b27, .ref b28, .ref b29, .ref b30, .int 0, .ref b32, .ref b33]))]) hD hS hA [0] rfl
  refine va_callv (va_runV (As := []) (rest := []) ⟨hx, hb, hml, hown, hts⟩ (c_X9_mentions_0 l D cB cI cZ s.heap.size h0 b0 b1 b6 b7 b8 b9 b11 b12 b13 b18 b19 b20 b21 b22 b23 b24 b25 b26 b27 b28 b29 b30 b32 b33) (cwV 0 hts (uV (uc26 _ (List.mem_of_getElem? (i := 6) rfl)) (uc26 _ (List.mem_of_getElem? (i := 7) rfl)) (uc26 _ (List.mem_of_getElem? (i := 8) rfl)) (uc1 _ (List.mem_of_getElem? (i := 5) rfl)) (uc26 _ (List.mem_of_getElem? (i := 9) rfl))) rfl rfl rfl (by decide +kernel) ⟨Nat.le_of_ble_eq_true rfl, Nat.le_of_ble_eq_true rfl⟩) (pV hK hPc hDc 0 rfl rfl) rfl rfl hl.1 rfl (lv_room (Nat.le_of_ble_eq_true rfl)) dX9_anew_1 ⟨Nat.le_of_ble_eq_true rfl, Nat.le_of_ble_eq_true rfl⟩) hS (fun q _ h => hFc q h) hFc (fun u t H_2 L_3 ht hvm hw hB hz1 hk1 hS => ?_)
  obtain ⟨hP1, -, hD1⟩ := hB
  rw [ht] at hP1
  obtain ⟨hP, hD⟩ := va_join (wr := []) (w1 := [(h0, .inr (9, [.ref b0, .ref b1, .int 0, .int 0, .int 0, .int 0, .ref b6, .ref b7, .ref b8, .ref b9, .int 0, .ref b11, .ref b12, .ref b13, .int 0, .int 0, .int 0, .int 0, .ref b18, .ref b19, .ref b20, .ref b21, .ref b22, .ref b23, .ref b24, .ref b25, .ref b26, .ref b27, .ref b28, .ref b29, .ref b30, .int 0, .ref b32, .ref b33]))]) hP hD [0] [] rfl rfl (by decide) (by decide) hk1 hFc hP1 hD1
  have hP : va_P D vwCl [(h0, .inr (9, [.ref b0, .ref b1, .int 0, .int 0, .int 0, .int 0, .ref b6, .ref b7, .ref b8, .ref b9, .int 0, .ref b11, .ref b12, .ref b13, .int 0, .int 0, .int 0, .int 0, .ref b18, .ref b19, .ref b20, .ref b21, .ref b22, .ref b23, .ref b24, .ref b25, .ref b26, .ref b27, .ref b28, .ref b29, .ref b30, .int 0, .ref b32, .ref b33]))] H_2 := hP.sub [0] rfl
  have hD : va_D A [(h0, .inr (9, [.ref b0, .ref b1, .int 0, .int 0, .int 0, .int 0, .ref b6, .ref b7, .ref b8, .ref b9, .int 0, .ref b11, .ref b12, .ref b13, .int 0, .int 0, .int 0, .int 0, .ref b18, .ref b19, .ref b20, .ref b21, .ref b22, .ref b23, .ref b24, .ref b25, .ref b26, .ref b27, .ref b28, .ref b29, .ref b30, .int 0, .ref b32, .ref b33]))] := hD.sub [0] (by decide) rfl
  try dsimp only at hw
  refine lv_aload_n hx hb dX9_anew_4 rfl (lv_at hl 0 rfl) ?_
  refine lv_iconst (v := 0) hx hb dX9_anew_5 (by decide) ?_
  refine va_put (D := D) (ci := 9) (v := .int 0) (ty := .int) (C := RX9) (T := TX9) (N := 34) hx hb hts hinX9 tyX9 tyX9_ok nmX9 hown hK hP hD hS 0 rfl rfl 15 (by decide) (hts (.fieldLink RX9 167 "TaleReaderModel" "persons" "I") (uc26 _ (List.mem_of_getElem? (i := 4) rfl))) (fun _ h9 => h9) rfl (by decide +kernel) rfl rfl (Nat.le_of_ble_eq_true rfl) dX9_anew_6 (fun H_4 L_5 hP hD hS => ?_)
  have hP : va_P D vwCl [(h0, .inr (9, [.ref b0, .ref b1, .int 0, .int 0, .int 0, .int 0, .ref b6, .ref b7, .ref b8, .ref b9, .int 0, .ref b11, .ref b12, .ref b13, .int 0, .int 0, .int 0, .int 0, .ref b18, .ref b19, .ref b20, .ref b21, .ref b22, .ref b23, .ref b24, .ref b25, .ref b26, .ref b27, .ref b28, .ref b29, .ref b30, .int 0, .ref b32, .ref b33]))] H_4 := hP
  have hD : va_D A [(h0, .inr (9, [.ref b0, .ref b1, .int 0, .int 0, .int 0, .int 0, .ref b6, .ref b7, .ref b8, .ref b9, .int 0, .ref b11, .ref b12, .ref b13, .int 0, .int 0, .int 0, .int 0, .ref b18, .ref b19, .ref b20, .ref b21, .ref b22, .ref b23, .ref b24, .ref b25, .ref b26, .ref b27, .ref b28, .ref b29, .ref b30, .int 0, .ref b32, .ref b33]))] := hD
  refine lv_aload_n hx hb dX9_anew_9 rfl (lv_at hl 0 rfl) ?_
  refine lv_iconst (v := 0) hx hb dX9_anew_10 (by decide) ?_
  refine va_put (D := D) (ci := 9) (v := .int 0) (ty := .int) (C := RX9) (T := TX9) (N := 34) hx hb hts hinX9 tyX9 tyX9_ok nmX9 hown hK hP hD hS 0 rfl rfl 16 (by decide) (hts (.fieldLink RX9 221 "TaleReaderModel" "doubts" "I") (uc26 _ (List.mem_of_getElem? (i := 5) rfl))) (fun _ h9 => h9) rfl (by decide +kernel) rfl rfl (Nat.le_of_ble_eq_true rfl) dX9_anew_11 (fun H_6 L_7 hP hD hS => ?_)
  have hP : va_P D vwCl [(h0, .inr (9, [.ref b0, .ref b1, .int 0, .int 0, .int 0, .int 0, .ref b6, .ref b7, .ref b8, .ref b9, .int 0, .ref b11, .ref b12, .ref b13, .int 0, .int 0, .int 0, .int 0, .ref b18, .ref b19, .ref b20, .ref b21, .ref b22, .ref b23, .ref b24, .ref b25, .ref b26, .ref b27, .ref b28, .ref b29, .ref b30, .int 0, .ref b32, .ref b33]))] H_6 := hP
  have hD : va_D A [(h0, .inr (9, [.ref b0, .ref b1, .int 0, .int 0, .int 0, .int 0, .ref b6, .ref b7, .ref b8, .ref b9, .int 0, .ref b11, .ref b12, .ref b13, .int 0, .int 0, .int 0, .int 0, .ref b18, .ref b19, .ref b20, .ref b21, .ref b22, .ref b23, .ref b24, .ref b25, .ref b26, .ref b27, .ref b28, .ref b29, .ref b30, .int 0, .ref b32, .ref b33]))] := hD
  refine lv_iconst (v := 0) hx hb dX9_anew_14 (by decide) ?_
  refine lv_istore_n (lv' := [(1, .int 0), (0, .ref h0)]) hx hb dX9_anew_15 rfl hl (by decide) rfl (fun ls hl => ?_)
  refine lv_iload_n hx hb dX9_anew_16 rfl (lv_at hl 0 rfl) ?_
  refine lv_aload_n hx hb dX9_anew_17 rfl (lv_at hl 1 rfl) ?_
  refine va_get (D := D) (ci := 9) (v := .int 0) (C := RX9) (T := TX9) (N := 34) hx hb hts hinX9 hown hK hP 0 rfl rfl 14 (by decide) (hts (.fieldLink RX9 157 "TaleReaderModel" "mentions" "I") (uc25 _ (List.mem_of_getElem? (i := 8) rfl))) (fun _ h9 => h9) rfl dX9_anew_18 ?_
  refine lv_icmp_ge (tgt := 166) hx hb dX9_anew_21 (by decide) (fun c_8 => ?_) (fun c_8 => ?_)
  · have hP9 := hP.sub (ws' := [(h0, .inr (9, [.ref b0, .ref b1, .int 0, .int 0, .int 0, .int 0, .ref b6, .ref b7, .ref b8, .ref b9, .int 0, .ref b11, .ref b12, .ref b13, .int 0, .int 0, .int 0, .int 0, .ref b18, .ref b19, .ref b20, .ref b21, .ref b22, .ref b23, .ref b24, .ref b25, .ref b26, .ref b27, .ref b28, .ref b29, .ref b30, .int 0, .ref b32, .ref b33]))]) [0] rfl
    have hD9 := hD.sub (ws' := [(h0, .inr (9, [.ref b0, .ref b1, .int 0, .int 0, .int 0, .int 0, .ref b6, .ref b7, .ref b8, .ref b9, .int 0, .ref b11, .ref b12, .ref b13, .int 0, .int 0, .int 0, .int 0, .ref b18, .ref b19, .ref b20, .ref b21, .ref b22, .ref b23, .ref b24, .ref b25, .ref b26, .ref b27, .ref b28, .ref b29, .ref b30, .int 0, .ref b32, .ref b33]))]) [0] (by decide) rfl
    exact W.vret hx hb hr (fun t ht hW => ⟨⟨(), rfl, trivial, ⟨by rw [ht]; exact hP9, va_K.moved hW.alike hK, hD9⟩⟩, hS.F ht⟩) hS.2.2 dX9_anew_166
  · exact False.elim (by revert c_8; decide)
set_option maxHeartbeats 4000000 in
set_option maxRecDepth 100000 in
theorem c_X9_read_0 (l : Launch) (D : va_G) (cB cI cZ : ClassId) (sz : Nat) (h0 : Nat) (b0 : Nat) (b1 : Nat) (b6 : Nat) (b7 : Nat) (b8 : Nat) (b9 : Nat) (b11 : Nat) (b12 : Nat) (b13 : Nat) (b18 : Nat) (b19 : Nat) (b20 : Nat) (b21 : Nat) (b22 : Nat) (b23 : Nat) (b24 : Nat) (b25 : Nat) (b26 : Nat) (b27 : Nat) (b28 : Nat) (b29 : Nat) (b30 : Nat) (b32 : Nat) (b33 : Nat) : Met l yX9_read (.code yX9_read cX9_read 2 (some .int) :: wsL_law) ({ frames := 2, cells := 0, slots := 0, locals := 44 } : Room) (va_Pc [.ref h0] (pIn D (pT cB cI cZ) sz [(h0, .inr (9, [.ref b0, .ref b1, .int 0, .int 0, .int 0, .int 0, .ref b6, .ref b7, .ref b8, .ref b9, .int 0, .ref b11, .ref b12, .ref b13, .int 0, .int 0, .int 0, .int 0, .ref b18, .ref b19, .ref b20, .ref b21, .ref b22, .ref b23, .ref b24, .ref b25, .ref b26, .ref b27, .ref b28, .ref b29, .ref b30, .int 0, .ref b32, .ref b33]))])) (va_Qi (fun (r : Int32) (u : Unit) => r = 0) (fun (u : Unit) (t : State) => pAt D (pT cB cI cZ) (va_A [(h0, .inr (9, [.ref b0, .ref b1, .int 0, .int 0, .int 0, .int 0, .ref b6, .ref b7, .ref b8, .ref b9, .int 0, .ref b11, .ref b12, .ref b13, .int 0, .int 0, .int 0, .int 0, .ref b18, .ref b19, .ref b20, .ref b21, .ref b22, .ref b23, .ref b24, .ref b25, .ref b26, .ref b27, .ref b28, .ref b29, .ref b30, .int 0, .ref b32, .ref b33]))] sz) [] t) (va_A [(h0, .inr (9, [.ref b0, .ref b1, .int 0, .int 0, .int 0, .int 0, .ref b6, .ref b7, .ref b8, .ref b9, .int 0, .ref b11, .ref b12, .ref b13, .int 0, .int 0, .int 0, .int 0, .ref b18, .ref b19, .ref b20, .ref b21, .ref b22, .ref b23, .ref b24, .ref b25, .ref b26, .ref b27, .ref b28, .ref b29, .ref b30, .int 0, .ref b32, .ref b33]))] sz)) 0 0 (va_A [(h0, .inr (9, [.ref b0, .ref b1, .int 0, .int 0, .int 0, .int 0, .ref b6, .ref b7, .ref b8, .ref b9, .int 0, .ref b11, .ref b12, .ref b13, .int 0, .int 0, .int 0, .int 0, .ref b18, .ref b19, .ref b20, .ref b21, .ref b22, .ref b23, .ref b24, .ref b25, .ref b26, .ref b27, .ref b28, .ref b29, .ref b30, .int 0, .ref b32, .ref b33]))] sz) := by
  refine Met.ofW (cc := cX9_read) (maxL := 2) (ret := (some .int)) (by decide) rfl ?_
  intro p e s m args below meth c s₁ B hml hv
  obtain ⟨rfl, hsz, hP, hK, hD0⟩ := hv
  have hx := B.exec
  have hb := B.bytes
  have hr := B.returns
  have hts0 := atoms_spec (ws := .code yX9_read cX9_read 2 (some .int) :: wsL_law) B.pre
  have hts := fun (w : Cond) (h : w ∈ wsL_law) => hts0 w (List.mem_cons_of_mem _ h)
  have hown : s.vm.findClass RX9 = some m.cls := findClass_of_methodNamed B.named
  have hlocks := B.notSynchronized
  have hinX9 := inlX9
  subst hsz
  have hD := hD0.self (sz := s.heap.size)
  generalize hAe : va_A [(h0, .inr (9, [.ref b0, .ref b1, .int 0, .int 0, .int 0, .int 0, .ref b6, .ref b7, .ref b8, .ref b9, .int 0, .ref b11, .ref b12, .ref b13, .int 0, .int 0, .int 0, .int 0, .ref b18, .ref b19, .ref b20, .ref b21, .ref b22, .ref b23, .ref b24, .ref b25, .ref b26, .ref b27, .ref b28, .ref b29, .ref b30, .int 0, .ref b32, .ref b33]))] s.heap.size = A at hD ⊢
  have hA : ∀ q : Nat, s.heap.size ≤ q → A q := fun q h => by rw [← hAe]; exact Or.inr h
  have hS : va_S A s.heap s.heap [] := va_S.rf
  have hP : va_P D vwCl [(h0, .inr (9, [.ref b0, .ref b1, .int 0, .int 0, .int 0, .int 0, .ref b6, .ref b7, .ref b8, .ref b9, .int 0, .ref b11, .ref b12, .ref b13, .int 0, .int 0, .int 0, .int 0, .ref b18, .ref b19, .ref b20, .ref b21, .ref b22, .ref b23, .ref b24, .ref b25, .ref b26, .ref b27, .ref b28, .ref b29, .ref b30, .int 0, .ref b32, .ref b33]))] s.heap := hP
  have hl := lv_entry ([.ref h0]) (n := 2) (Nat.le_of_ble_eq_true rfl)
  rw [lg_entry_eq]
  generalize (lg_sl ([.ref h0]) ++ List.replicate (2 - (lg_sl ([.ref h0])).length) Slot.unset).toArray = ls at hl ⊢
  have hl : lv_has ls 2 [(0, .ref h0)] := hl
  refine lv_aload_n hx hb dX9_read_0 rfl (lv_at hl 0 rfl) ?_
  refine lv_aload_n hx hb dX9_read_1 rfl (lv_at hl 0 rfl) ?_
  refine va_get (D := D) (ci := 9) (v := .int 0) (C := RX9) (T := TX9) (N := 34) hx hb hts hinX9 hown hK hP 0 rfl rfl 2 (by decide) (hts (.fieldLink RX9 83 "TaleReaderModel" "taped" "I") (uc8 _ (List.mem_of_getElem? (i := 13) rfl))) (fun _ h9 => h9) rfl dX9_read_2 ?_
  refine va_put (D := D) (ci := 9) (v := .int 0) (ty := .int) (C := RX9) (T := TX9) (N := 34) hx hb hts hinX9 tyX9 tyX9_ok nmX9 hown hK hP hD hS 0 rfl rfl 3 (by decide) (hts (.fieldLink RX9 104 "TaleReaderModel" "taleLong" "I") (uc25 _ (List.mem_of_getElem? (i := 6) rfl))) (fun _ h9 => h9) rfl (by decide +kernel) rfl rfl (Nat.le_of_ble_eq_true rfl) dX9_read_5 (fun H_1 L_2 hP hD hS => ?_)
  have hP : va_P D vwCl [(h0, .inr (9, [.ref b0, .ref b1, .int 0, .int 0, .int 0, .int 0, .ref b6, .ref b7, .ref b8, .ref b9, .int 0, .ref b11, .ref b12, .ref b13, .int 0, .int 0, .int 0, .int 0, .ref b18, .ref b19, .ref b20, .ref b21, .ref b22, .ref b23, .ref b24, .ref b25, .ref b26, .ref b27, .ref b28, .ref b29, .ref b30, .int 0, .ref b32, .ref b33]))] H_1 := hP
  have hD : va_D A [(h0, .inr (9, [.ref b0, .ref b1, .int 0, .int 0, .int 0, .int 0, .ref b6, .ref b7, .ref b8, .ref b9, .int 0, .ref b11, .ref b12, .ref b13, .int 0, .int 0, .int 0, .int 0, .ref b18, .ref b19, .ref b20, .ref b21, .ref b22, .ref b23, .ref b24, .ref b25, .ref b26, .ref b27, .ref b28, .ref b29, .ref b30, .int 0, .ref b32, .ref b33]))] := hD
  refine lv_iconst (v := 0) hx hb dX9_read_8 (by decide) ?_
  refine lv_istore_n (lv' := [(1, .int 0), (0, .ref h0)]) hx hb dX9_read_9 rfl hl (by decide) rfl (fun ls hl => ?_)
  refine lv_iload_n hx hb dX9_read_10 rfl (lv_at hl 0 rfl) ?_
  refine lv_aload_n hx hb dX9_read_11 rfl (lv_at hl 1 rfl) ?_
  refine va_get (D := D) (ci := 9) (v := .int 0) (C := RX9) (T := TX9) (N := 34) hx hb hts hinX9 hown hK hP 0 rfl rfl 2 (by decide) (hts (.fieldLink RX9 83 "TaleReaderModel" "taped" "I") (uc8 _ (List.mem_of_getElem? (i := 13) rfl))) (fun _ h9 => h9) rfl dX9_read_12 ?_
  refine lv_icmp_ge (tgt := 36) hx hb dX9_read_15 (by decide) (fun c_3 => ?_) (fun c_3 => ?_)
  · refine lv_aload_n hx hb dX9_read_36 rfl (lv_at hl 1 rfl) ?_
    refine lv_iconst (v := 0) hx hb dX9_read_37 (by decide) ?_
    refine va_put (D := D) (ci := 9) (v := .int 0) (ty := .int) (C := RX9) (T := TX9) (N := 34) hx hb hts hinX9 tyX9 tyX9_ok nmX9 hown hK hP hD hS 0 rfl rfl 2 (by decide) (hts (.fieldLink RX9 83 "TaleReaderModel" "taped" "I") (uc8 _ (List.mem_of_getElem? (i := 13) rfl))) (fun _ h9 => h9) rfl (by decide +kernel) rfl rfl (Nat.le_of_ble_eq_true rfl) dX9_read_38 (fun H_4 L_5 hP hD hS => ?_)
    have hP : va_P D vwCl [(h0, .inr (9, [.ref b0, .ref b1, .int 0, .int 0, .int 0, .int 0, .ref b6, .ref b7, .ref b8, .ref b9, .int 0, .ref b11, .ref b12, .ref b13, .int 0, .int 0, .int 0, .int 0, .ref b18, .ref b19, .ref b20, .ref b21, .ref b22, .ref b23, .ref b24, .ref b25, .ref b26, .ref b27, .ref b28, .ref b29, .ref b30, .int 0, .ref b32, .ref b33]))] H_4 := hP
    have hD : va_D A [(h0, .inr (9, [.ref b0, .ref b1, .int 0, .int 0, .int 0, .int 0, .ref b6, .ref b7, .ref b8, .ref b9, .int 0, .ref b11, .ref b12, .ref b13, .int 0, .int 0, .int 0, .int 0, .ref b18, .ref b19, .ref b20, .ref b21, .ref b22, .ref b23, .ref b24, .ref b25, .ref b26, .ref b27, .ref b28, .ref b29, .ref b30, .int 0, .ref b32, .ref b33]))] := hD
    refine lv_aload_n hx hb dX9_read_41 rfl (lv_at hl 1 rfl) ?_
    refine lv_iconst (v := 0) hx hb dX9_read_42 (by decide) ?_
    refine va_put (D := D) (ci := 9) (v := .int 0) (ty := .int) (C := RX9) (T := TX9) (N := 34) hx hb hts hinX9 tyX9 tyX9_ok nmX9 hown hK hP hD hS 0 rfl rfl 31 (by decide) (hts (.fieldLink RX9 190 "TaleReaderModel" "pins" "I") (uc25 _ (List.mem_of_getElem? (i := 7) rfl))) (fun _ h9 => h9) rfl (by decide +kernel) rfl rfl (Nat.le_of_ble_eq_true rfl) dX9_read_43 (fun H_6 L_7 hP hD hS => ?_)
    have hP : va_P D vwCl [(h0, .inr (9, [.ref b0, .ref b1, .int 0, .int 0, .int 0, .int 0, .ref b6, .ref b7, .ref b8, .ref b9, .int 0, .ref b11, .ref b12, .ref b13, .int 0, .int 0, .int 0, .int 0, .ref b18, .ref b19, .ref b20, .ref b21, .ref b22, .ref b23, .ref b24, .ref b25, .ref b26, .ref b27, .ref b28, .ref b29, .ref b30, .int 0, .ref b32, .ref b33]))] H_6 := hP
    have hD : va_D A [(h0, .inr (9, [.ref b0, .ref b1, .int 0, .int 0, .int 0, .int 0, .ref b6, .ref b7, .ref b8, .ref b9, .int 0, .ref b11, .ref b12, .ref b13, .int 0, .int 0, .int 0, .int 0, .ref b18, .ref b19, .ref b20, .ref b21, .ref b22, .ref b23, .ref b24, .ref b25, .ref b26, .ref b27, .ref b28, .ref b29, .ref b30, .int 0, .ref b32, .ref b33]))] := hD
    refine lv_aload_n hx hb dX9_read_46 rfl (lv_at hl 1 rfl) ?_
    have hPc := hP.sub (ws' := [(h0, .inr (9, [.ref b0, .ref b1, .int 0, .int 0, .int 0, .int 0, .ref b6, .ref b7, .ref b8, .ref b9, .int 0, .ref b11, .ref b12, .ref b13, .int 0, .int 0, .int 0, .int 0, .ref b18, .ref b19, .ref b20, .ref b21, .ref b22, .ref b23, .ref b24, .ref b25, .ref b26, .ref b27, .ref b28, .ref b29, .ref b30, .int 0, .ref b32, .ref b33]))]) [0] rfl
    have hDc := hD.sub (ws' := [(h0, .inr (9, [.ref b0, .ref b1, .int 0, .int 0, .int 0, .int 0, .ref b6, .ref b7, .ref b8, .ref b9, .int 0, .ref b11, .ref b12, .ref b13, .int 0, .int 0, .int 0, .int 0, .ref b18, .ref b19, .ref b20, .ref b21, .ref b22, .ref b23, .ref b24, .ref b25, .ref b26, .ref b27, .ref b28, .ref b29, .ref b30, .int 0, .ref b32, .ref b33]))]) [0] (by decide) rfl
    have hFc := va_free (wc := [(h0, .inr (9, [.ref b0, .ref b1, .int 0, .int 0, .int 0, .int 0, .ref b6, .ref b7, .ref b8, .ref b9, .int 0, .ref b11, .ref b12, .ref b13, .int 0, .int 0, .int 0, .int 0, .ref b18, .ref b19, .ref b20, .ref b21, .ref b22, .ref b23, .ref b24, .ref b25, .ref b26, .ref b27, .ref b28, .ref b29, .ref b30, .int 0, .ref b32, .ref b33]))]) hD hS hA [0] rfl
    refine va_callv (va_runV (As := []) (rest := []) ⟨hx, hb, hml, hown, hts⟩ (c_X9_parts_0 l D cB cI cZ H_6.size h0 b0 b1 b6 b7 b8 b9 b11 b12 b13 b18 b19 b20 b21 b22 b23 b24 b25 b26 b27 b28 b29 b30 b32 b33) (cwV 0 hts (uV (uc25 _ (List.mem_of_getElem? (i := 9) rfl)) (uc25 _ (List.mem_of_getElem? (i := 10) rfl)) (uc25 _ (List.mem_of_getElem? (i := 11) rfl)) (uc1 _ (List.mem_of_getElem? (i := 5) rfl)) (uc25 _ (List.mem_of_getElem? (i := 12) rfl))) rfl rfl rfl (by decide +kernel) ⟨Nat.le_of_ble_eq_true rfl, Nat.le_of_ble_eq_true rfl⟩) (pV hK hPc hDc 0 rfl rfl) rfl rfl hl.1 rfl (lv_room (Nat.le_of_ble_eq_true rfl)) dX9_read_47 ⟨Nat.le_of_ble_eq_true rfl, Nat.le_of_ble_eq_true rfl⟩) hS (fun q _ h => hFc q h) hFc (fun u t H_9 L_10 ht hvm hw hB hz1 hk1 hS => ?_)
    obtain ⟨hP1, -, hD1⟩ := hB
    rw [ht] at hP1
    obtain ⟨hP, hD⟩ := va_join (wr := []) (w1 := [(h0, .inr (9, [.ref b0, .ref b1, .int 0, .int 0, .int 0, .int 0, .ref b6, .ref b7, .ref b8, .ref b9, .int 0, .ref b11, .ref b12, .ref b13, .int 0, .int 0, .int 0, .int 0, .ref b18, .ref b19, .ref b20, .ref b21, .ref b22, .ref b23, .ref b24, .ref b25, .ref b26, .ref b27, .ref b28, .ref b29, .ref b30, .int 0, .ref b32, .ref b33]))]) hP hD [0] [] rfl rfl (by decide) (by decide) hk1 hFc hP1 hD1
    have hP : va_P D vwCl [(h0, .inr (9, [.ref b0, .ref b1, .int 0, .int 0, .int 0, .int 0, .ref b6, .ref b7, .ref b8, .ref b9, .int 0, .ref b11, .ref b12, .ref b13, .int 0, .int 0, .int 0, .int 0, .ref b18, .ref b19, .ref b20, .ref b21, .ref b22, .ref b23, .ref b24, .ref b25, .ref b26, .ref b27, .ref b28, .ref b29, .ref b30, .int 0, .ref b32, .ref b33]))] H_9 := hP.sub [0] rfl
    have hD : va_D A [(h0, .inr (9, [.ref b0, .ref b1, .int 0, .int 0, .int 0, .int 0, .ref b6, .ref b7, .ref b8, .ref b9, .int 0, .ref b11, .ref b12, .ref b13, .int 0, .int 0, .int 0, .int 0, .ref b18, .ref b19, .ref b20, .ref b21, .ref b22, .ref b23, .ref b24, .ref b25, .ref b26, .ref b27, .ref b28, .ref b29, .ref b30, .int 0, .ref b32, .ref b33]))] := hD.sub [0] (by decide) rfl
    try dsimp only at hw
    refine lv_aload_n hx hb dX9_read_50 rfl (lv_at hl 1 rfl) ?_
    have hPc := hP.sub (ws' := [(h0, .inr (9, [.ref b0, .ref b1, .int 0, .int 0, .int 0, .int 0, .ref b6, .ref b7, .ref b8, .ref b9, .int 0, .ref b11, .ref b12, .ref b13, .int 0, .int 0, .int 0, .int 0, .ref b18, .ref b19, .ref b20, .ref b21, .ref b22, .ref b23, .ref b24, .ref b25, .ref b26, .ref b27, .ref b28, .ref b29, .ref b30, .int 0, .ref b32, .ref b33]))]) [0] rfl
    have hDc := hD.sub (ws' := [(h0, .inr (9, [.ref b0, .ref b1, .int 0, .int 0, .int 0, .int 0, .ref b6, .ref b7, .ref b8, .ref b9, .int 0, .ref b11, .ref b12, .ref b13, .int 0, .int 0, .int 0, .int 0, .ref b18, .ref b19, .ref b20, .ref b21, .ref b22, .ref b23, .ref b24, .ref b25, .ref b26, .ref b27, .ref b28, .ref b29, .ref b30, .int 0, .ref b32, .ref b33]))]) [0] (by decide) rfl
    have hFc := va_free (wc := [(h0, .inr (9, [.ref b0, .ref b1, .int 0, .int 0, .int 0, .int 0, .ref b6, .ref b7, .ref b8, .ref b9, .int 0, .ref b11, .ref b12, .ref b13, .int 0, .int 0, .int 0, .int 0, .ref b18, .ref b19, .ref b20, .ref b21, .ref b22, .ref b23, .ref b24, .ref b25, .ref b26, .ref b27, .ref b28, .ref b29, .ref b30, .int 0, .ref b32, .ref b33]))]) hD hS hA [0] rfl
    refine va_callv (va_runV (As := []) (rest := []) ⟨hx, hb, hml, hown, hts⟩ (c_X9_anew_0 l D cB cI cZ H_9.size h0 b0 b1 b6 b7 b8 b9 b11 b12 b13 b18 b19 b20 b21 b22 b23 b24 b25 b26 b27 b28 b29 b30 b32 b33) (cwV 0 hts (uV (uc26 _ (List.mem_of_getElem? (i := 0) rfl)) (uc26 _ (List.mem_of_getElem? (i := 1) rfl)) (uc26 _ (List.mem_of_getElem? (i := 2) rfl)) (uc1 _ (List.mem_of_getElem? (i := 5) rfl)) (uc26 _ (List.mem_of_getElem? (i := 3) rfl))) rfl rfl rfl (by decide +kernel) ⟨Nat.le_of_ble_eq_true rfl, Nat.le_of_ble_eq_true rfl⟩) (pV hK hPc hDc 0 rfl rfl) rfl rfl hl.1 rfl (lv_room (Nat.le_of_ble_eq_true rfl)) dX9_read_51 ⟨Nat.le_of_ble_eq_true rfl, Nat.le_of_ble_eq_true rfl⟩) hS (fun q _ h => hFc q h) hFc (fun u t H_12 L_13 ht hvm hw hB hz1 hk1 hS => ?_)
    obtain ⟨hP1, -, hD1⟩ := hB
    rw [ht] at hP1
    obtain ⟨hP, hD⟩ := va_join (wr := []) (w1 := [(h0, .inr (9, [.ref b0, .ref b1, .int 0, .int 0, .int 0, .int 0, .ref b6, .ref b7, .ref b8, .ref b9, .int 0, .ref b11, .ref b12, .ref b13, .int 0, .int 0, .int 0, .int 0, .ref b18, .ref b19, .ref b20, .ref b21, .ref b22, .ref b23, .ref b24, .ref b25, .ref b26, .ref b27, .ref b28, .ref b29, .ref b30, .int 0, .ref b32, .ref b33]))]) hP hD [0] [] rfl rfl (by decide) (by decide) hk1 hFc hP1 hD1
    have hP : va_P D vwCl [(h0, .inr (9, [.ref b0, .ref b1, .int 0, .int 0, .int 0, .int 0, .ref b6, .ref b7, .ref b8, .ref b9, .int 0, .ref b11, .ref b12, .ref b13, .int 0, .int 0, .int 0, .int 0, .ref b18, .ref b19, .ref b20, .ref b21, .ref b22, .ref b23, .ref b24, .ref b25, .ref b26, .ref b27, .ref b28, .ref b29, .ref b30, .int 0, .ref b32, .ref b33]))] H_12 := hP.sub [0] rfl
    have hD : va_D A [(h0, .inr (9, [.ref b0, .ref b1, .int 0, .int 0, .int 0, .int 0, .ref b6, .ref b7, .ref b8, .ref b9, .int 0, .ref b11, .ref b12, .ref b13, .int 0, .int 0, .int 0, .int 0, .ref b18, .ref b19, .ref b20, .ref b21, .ref b22, .ref b23, .ref b24, .ref b25, .ref b26, .ref b27, .ref b28, .ref b29, .ref b30, .int 0, .ref b32, .ref b33]))] := hD.sub [0] (by decide) rfl
    try dsimp only at hw
    refine lv_aload_n hx hb dX9_read_54 rfl (lv_at hl 1 rfl) ?_
    refine va_get (D := D) (ci := 9) (v := .int 0) (C := RX9) (T := TX9) (N := 34) hx hb hts hinX9 hown hK hP 0 rfl rfl 14 (by decide) (hts (.fieldLink RX9 157 "TaleReaderModel" "mentions" "I") (uc25 _ (List.mem_of_getElem? (i := 8) rfl))) (fun _ h9 => h9) rfl dX9_read_55 ?_
    have hP9 := hP.sub (ws' := []) [] rfl
    have hD9 := hD.sub (ws' := []) [] (by decide) rfl
    exact W.iret (v := 0) hx hb hr (fun t ht hW => ⟨⟨0, (), rfl, rfl, ⟨by rw [ht]; exact hP9, va_K.moved hW.alike hK, hD9⟩⟩, hS.F ht⟩) hS.2.2 dX9_read_58
  · exact False.elim (by revert c_3; decide)
set_option maxHeartbeats 4000000 in
set_option maxRecDepth 100000 in
theorem c_X9_tell_0 (l : Launch) (D : va_G) (cB cI cZ : ClassId) (sz : Nat) (h0 : Nat) (b0 : Nat) (b1 : Nat) (b6 : Nat) (b7 : Nat) (b8 : Nat) (b9 : Nat) (b11 : Nat) (b12 : Nat) (b13 : Nat) (b18 : Nat) (b19 : Nat) (b20 : Nat) (b21 : Nat) (b22 : Nat) (b23 : Nat) (b24 : Nat) (b25 : Nat) (b26 : Nat) (b27 : Nat) (b28 : Nat) (b29 : Nat) (b30 : Nat) (b32 : Nat) (b33 : Nat) (x : Int32) : Met l yX9_tell (.code yX9_tell cX9_tell 7 (some .boolean) :: wsL_law) ({ frames := 1, cells := 0, slots := 0, locals := 22 } : Room) (va_Pc [.ref h0, .int x] (pIn D (pT cB cI cZ) sz [(h0, .inr (9, [.ref b0, .ref b1, .int 0, .int 0, .int 0, .int 0, .ref b6, .ref b7, .ref b8, .ref b9, .int 0, .ref b11, .ref b12, .ref b13, .int 0, .int 0, .int 0, .int 0, .ref b18, .ref b19, .ref b20, .ref b21, .ref b22, .ref b23, .ref b24, .ref b25, .ref b26, .ref b27, .ref b28, .ref b29, .ref b30, .int 0, .ref b32, .ref b33]))])) (va_Qi (fun (r : Int32) (u : Unit) => r = 0) (fun (u : Unit) (t : State) => pAt D (pT cB cI cZ) (va_A [(h0, .inr (9, [.ref b0, .ref b1, .int 0, .int 0, .int 0, .int 0, .ref b6, .ref b7, .ref b8, .ref b9, .int 0, .ref b11, .ref b12, .ref b13, .int 0, .int 0, .int 0, .int 0, .ref b18, .ref b19, .ref b20, .ref b21, .ref b22, .ref b23, .ref b24, .ref b25, .ref b26, .ref b27, .ref b28, .ref b29, .ref b30, .int 0, .ref b32, .ref b33]))] sz) [] t) (va_A [(h0, .inr (9, [.ref b0, .ref b1, .int 0, .int 0, .int 0, .int 0, .ref b6, .ref b7, .ref b8, .ref b9, .int 0, .ref b11, .ref b12, .ref b13, .int 0, .int 0, .int 0, .int 0, .ref b18, .ref b19, .ref b20, .ref b21, .ref b22, .ref b23, .ref b24, .ref b25, .ref b26, .ref b27, .ref b28, .ref b29, .ref b30, .int 0, .ref b32, .ref b33]))] sz)) 0 0 (va_A [(h0, .inr (9, [.ref b0, .ref b1, .int 0, .int 0, .int 0, .int 0, .ref b6, .ref b7, .ref b8, .ref b9, .int 0, .ref b11, .ref b12, .ref b13, .int 0, .int 0, .int 0, .int 0, .ref b18, .ref b19, .ref b20, .ref b21, .ref b22, .ref b23, .ref b24, .ref b25, .ref b26, .ref b27, .ref b28, .ref b29, .ref b30, .int 0, .ref b32, .ref b33]))] sz) := by
  refine Met.ofW (cc := cX9_tell) (maxL := 7) (ret := (some .boolean)) (by decide) rfl ?_
  intro p e s m args below meth c s₁ B hml hv
  obtain ⟨rfl, hsz, hP, hK, hD0⟩ := hv
  have hx := B.exec
  have hb := B.bytes
  have hr := B.returns
  have hts0 := atoms_spec (ws := .code yX9_tell cX9_tell 7 (some .boolean) :: wsL_law) B.pre
  have hts := fun (w : Cond) (h : w ∈ wsL_law) => hts0 w (List.mem_cons_of_mem _ h)
  have hown : s.vm.findClass RX9 = some m.cls := findClass_of_methodNamed B.named
  have hlocks := B.notSynchronized
  have hinX9 := inlX9
  subst hsz
  have hD := hD0.self (sz := s.heap.size)
  generalize hAe : va_A [(h0, .inr (9, [.ref b0, .ref b1, .int 0, .int 0, .int 0, .int 0, .ref b6, .ref b7, .ref b8, .ref b9, .int 0, .ref b11, .ref b12, .ref b13, .int 0, .int 0, .int 0, .int 0, .ref b18, .ref b19, .ref b20, .ref b21, .ref b22, .ref b23, .ref b24, .ref b25, .ref b26, .ref b27, .ref b28, .ref b29, .ref b30, .int 0, .ref b32, .ref b33]))] s.heap.size = A at hD ⊢
  have hA : ∀ q : Nat, s.heap.size ≤ q → A q := fun q h => by rw [← hAe]; exact Or.inr h
  have hS : va_S A s.heap s.heap [] := va_S.rf
  have hP : va_P D vwCl [(h0, .inr (9, [.ref b0, .ref b1, .int 0, .int 0, .int 0, .int 0, .ref b6, .ref b7, .ref b8, .ref b9, .int 0, .ref b11, .ref b12, .ref b13, .int 0, .int 0, .int 0, .int 0, .ref b18, .ref b19, .ref b20, .ref b21, .ref b22, .ref b23, .ref b24, .ref b25, .ref b26, .ref b27, .ref b28, .ref b29, .ref b30, .int 0, .ref b32, .ref b33]))] s.heap := hP
  have hl := lv_entry ([.ref h0, .int x]) (n := 7) (Nat.le_of_ble_eq_true rfl)
  rw [lg_entry_eq]
  generalize (lg_sl ([.ref h0, .int x]) ++ List.replicate (7 - (lg_sl ([.ref h0, .int x])).length) Slot.unset).toArray = ls at hl ⊢
  have hl : lv_has ls 7 [(0, .ref h0), (1, .int x)] := hl
  refine lv_aload_n hx hb dX9_tell_0 rfl (lv_at hl 0 rfl) ?_
  refine va_get (D := D) (ci := 9) (v := .int 0) (C := RX9) (T := TX9) (N := 34) hx hb hts hinX9 hown hK hP 0 rfl rfl 2 (by decide) (hts (.fieldLink RX9 83 "TaleReaderModel" "taped" "I") (uc8 _ (List.mem_of_getElem? (i := 13) rfl))) (fun _ h9 => h9) rfl dX9_tell_1 ?_
  refine lv_istore_n (lv' := [(2, .int 0), (0, .ref h0), (1, .int x)]) hx hb dX9_tell_4 rfl hl (by decide) rfl (fun ls hl => ?_)
  refine lv_aload_n hx hb dX9_tell_5 rfl (lv_at hl 1 rfl) ?_
  refine lv_iconst (v := 0) hx hb dX9_tell_6 (by decide) ?_
  refine va_put (D := D) (ci := 9) (v := .int 0) (ty := .int) (C := RX9) (T := TX9) (N := 34) hx hb hts hinX9 tyX9 tyX9_ok nmX9 hown hK hP hD hS 0 rfl rfl 2 (by decide) (hts (.fieldLink RX9 83 "TaleReaderModel" "taped" "I") (uc8 _ (List.mem_of_getElem? (i := 13) rfl))) (fun _ h9 => h9) rfl (by decide +kernel) rfl rfl (Nat.le_of_ble_eq_true rfl) dX9_tell_7 (fun H_1 L_2 hP hD hS => ?_)
  have hP : va_P D vwCl [(h0, .inr (9, [.ref b0, .ref b1, .int 0, .int 0, .int 0, .int 0, .ref b6, .ref b7, .ref b8, .ref b9, .int 0, .ref b11, .ref b12, .ref b13, .int 0, .int 0, .int 0, .int 0, .ref b18, .ref b19, .ref b20, .ref b21, .ref b22, .ref b23, .ref b24, .ref b25, .ref b26, .ref b27, .ref b28, .ref b29, .ref b30, .int 0, .ref b32, .ref b33]))] H_1 := hP
  have hD : va_D A [(h0, .inr (9, [.ref b0, .ref b1, .int 0, .int 0, .int 0, .int 0, .ref b6, .ref b7, .ref b8, .ref b9, .int 0, .ref b11, .ref b12, .ref b13, .int 0, .int 0, .int 0, .int 0, .ref b18, .ref b19, .ref b20, .ref b21, .ref b22, .ref b23, .ref b24, .ref b25, .ref b26, .ref b27, .ref b28, .ref b29, .ref b30, .int 0, .ref b32, .ref b33]))] := hD
  refine lv_iload_n hx hb dX9_tell_10 rfl (lv_at hl 2 rfl) ?_
  refine lv_iconst (v := 0) hx hb dX9_tell_11 (by decide) ?_
  refine lv_iconst (v := 3) hx hb dX9_tell_12 (by decide) ?_
  have hPc := hP.sub (ws' := []) [] rfl
  have hDc := hD.sub (ws' := []) [] (by decide) rfl
  have hFc := va_free (wc := []) hD hS hA [] rfl
  refine va_calli (va_runS (As := [.int x, .int 0, .int 3]) (rest := []) ⟨hx, hb, hml, hown, hts⟩ (c_X9_isIn l D cB cI cZ H_1.size x 0 3) (va_cwS 3 hts (uS (uc9 _ (List.mem_of_getElem? (i := 2) rfl)) (uc9 _ (List.mem_of_getElem? (i := 3) rfl)) (uc1 _ (List.mem_of_getElem? (i := 5) rfl)) (uc9 _ (List.mem_of_getElem? (i := 4) rfl))) rfl rfl rfl (by decide +kernel) ⟨Nat.le_of_ble_eq_true rfl, Nat.le_of_ble_eq_true rfl⟩) (pS hK hPc hDc) rfl rfl hl.1 rfl (lv_room (Nat.le_of_ble_eq_true rfl)) dX9_tell_13 ⟨Nat.le_of_ble_eq_true rfl, Nat.le_of_ble_eq_true rfl⟩) hS (fun q _ h => hFc q h) hFc (fun r_3 u t H_4 L_5 ht hvm hw hB hz1 hk1 hS => ?_)
  obtain ⟨hP1, -, hD1⟩ := hB
  rw [ht] at hP1
  obtain ⟨hP, hD⟩ := va_join (wr := [(h0, .inr (9, [.ref b0, .ref b1, .int 0, .int 0, .int 0, .int 0, .ref b6, .ref b7, .ref b8, .ref b9, .int 0, .ref b11, .ref b12, .ref b13, .int 0, .int 0, .int 0, .int 0, .ref b18, .ref b19, .ref b20, .ref b21, .ref b22, .ref b23, .ref b24, .ref b25, .ref b26, .ref b27, .ref b28, .ref b29, .ref b30, .int 0, .ref b32, .ref b33]))]) (w1 := []) hP hD [] [0] rfl rfl (by decide) (by decide) hk1 hFc hP1 hD1
  have hP : va_P D vwCl [(h0, .inr (9, [.ref b0, .ref b1, .int 0, .int 0, .int 0, .int 0, .ref b6, .ref b7, .ref b8, .ref b9, .int 0, .ref b11, .ref b12, .ref b13, .int 0, .int 0, .int 0, .int 0, .ref b18, .ref b19, .ref b20, .ref b21, .ref b22, .ref b23, .ref b24, .ref b25, .ref b26, .ref b27, .ref b28, .ref b29, .ref b30, .int 0, .ref b32, .ref b33]))] H_4 := hP.sub [0] rfl
  have hD : va_D A [(h0, .inr (9, [.ref b0, .ref b1, .int 0, .int 0, .int 0, .int 0, .ref b6, .ref b7, .ref b8, .ref b9, .int 0, .ref b11, .ref b12, .ref b13, .int 0, .int 0, .int 0, .int 0, .ref b18, .ref b19, .ref b20, .ref b21, .ref b22, .ref b23, .ref b24, .ref b25, .ref b26, .ref b27, .ref b28, .ref b29, .ref b30, .int 0, .ref b32, .ref b33]))] := hD.sub [0] (by decide) rfl
  try dsimp only at hw
  rcases hw with ⟨rfl, h_6⟩ | ⟨rfl, h_7, h_8⟩
  · refine lv_if_eq (tgt := 41) hx hb dX9_tell_16 (by decide) (fun c_9 => ?_) (fun c_9 => ?_)
    · refine lv_iconst (v := 0) hx hb dX9_tell_41 (by decide) ?_
      have hP9 := hP.sub (ws' := []) [] rfl
      have hD9 := hD.sub (ws' := []) [] (by decide) rfl
      exact W.zret (v := 0) hx hb hr (rfl) (fun t ht hW => ⟨⟨0, (), rfl, rfl, ⟨by rw [ht]; exact hP9, va_K.moved hW.alike hK, hD9⟩⟩, hS.F ht⟩) hS.2.2 dX9_tell_42
    · exact False.elim (by revert c_9; decide)
  · refine lv_if_eq (tgt := 41) hx hb dX9_tell_16 (by decide) (fun c_10 => ?_) (fun c_10 => ?_)
    · exact False.elim (by revert c_10; decide)
    · refine lv_iload_n hx hb dX9_tell_19 rfl (lv_at hl 0 rfl) ?_
      refine lv_iconst (v := 2) hx hb dX9_tell_20 (by decide) ?_
      refine lv_bipush (v := 10) hx hb dX9_tell_21 (by decide) ?_
      have hPc := hP.sub (ws' := []) [] rfl
      have hDc := hD.sub (ws' := []) [] (by decide) rfl
      have hFc := va_free (wc := []) hD hS hA [] rfl
      refine va_calli (va_runS (As := [.int 0, .int 2, .int 10]) (rest := []) ⟨hx, hb, hml, hown, hts⟩ (c_X9_isIn l D cB cI cZ H_4.size 0 2 10) (va_cwS 3 hts (uS (uc9 _ (List.mem_of_getElem? (i := 2) rfl)) (uc9 _ (List.mem_of_getElem? (i := 3) rfl)) (uc1 _ (List.mem_of_getElem? (i := 5) rfl)) (uc9 _ (List.mem_of_getElem? (i := 4) rfl))) rfl rfl rfl (by decide +kernel) ⟨Nat.le_of_ble_eq_true rfl, Nat.le_of_ble_eq_true rfl⟩) (pS hK hPc hDc) rfl rfl hl.1 rfl (lv_room (Nat.le_of_ble_eq_true rfl)) dX9_tell_23 ⟨Nat.le_of_ble_eq_true rfl, Nat.le_of_ble_eq_true rfl⟩) hS (fun q _ h => hFc q h) hFc (fun r_11 u t H_12 L_13 ht hvm hw hB hz1 hk1 hS => ?_)
      obtain ⟨hP1, -, hD1⟩ := hB
      rw [ht] at hP1
      obtain ⟨hP, hD⟩ := va_join (wr := [(h0, .inr (9, [.ref b0, .ref b1, .int 0, .int 0, .int 0, .int 0, .ref b6, .ref b7, .ref b8, .ref b9, .int 0, .ref b11, .ref b12, .ref b13, .int 0, .int 0, .int 0, .int 0, .ref b18, .ref b19, .ref b20, .ref b21, .ref b22, .ref b23, .ref b24, .ref b25, .ref b26, .ref b27, .ref b28, .ref b29, .ref b30, .int 0, .ref b32, .ref b33]))]) (w1 := []) hP hD [] [0] rfl rfl (by decide) (by decide) hk1 hFc hP1 hD1
      have hP : va_P D vwCl [(h0, .inr (9, [.ref b0, .ref b1, .int 0, .int 0, .int 0, .int 0, .ref b6, .ref b7, .ref b8, .ref b9, .int 0, .ref b11, .ref b12, .ref b13, .int 0, .int 0, .int 0, .int 0, .ref b18, .ref b19, .ref b20, .ref b21, .ref b22, .ref b23, .ref b24, .ref b25, .ref b26, .ref b27, .ref b28, .ref b29, .ref b30, .int 0, .ref b32, .ref b33]))] H_12 := hP.sub [0] rfl
      have hD : va_D A [(h0, .inr (9, [.ref b0, .ref b1, .int 0, .int 0, .int 0, .int 0, .ref b6, .ref b7, .ref b8, .ref b9, .int 0, .ref b11, .ref b12, .ref b13, .int 0, .int 0, .int 0, .int 0, .ref b18, .ref b19, .ref b20, .ref b21, .ref b22, .ref b23, .ref b24, .ref b25, .ref b26, .ref b27, .ref b28, .ref b29, .ref b30, .int 0, .ref b32, .ref b33]))] := hD.sub [0] (by decide) rfl
      try dsimp only at hw
      rcases hw with ⟨rfl, h_14⟩ | ⟨rfl, h_15, h_16⟩
      · refine lv_if_eq (tgt := 41) hx hb dX9_tell_26 (by decide) (fun c_17 => ?_) (fun c_17 => ?_)
        · refine lv_iconst (v := 0) hx hb dX9_tell_41 (by decide) ?_
          have hP9 := hP.sub (ws' := []) [] rfl
          have hD9 := hD.sub (ws' := []) [] (by decide) rfl
          exact W.zret (v := 0) hx hb hr (rfl) (fun t ht hW => ⟨⟨0, (), rfl, rfl, ⟨by rw [ht]; exact hP9, va_K.moved hW.alike hK, hD9⟩⟩, hS.F ht⟩) hS.2.2 dX9_tell_42
        · exact False.elim (by revert c_17; decide)
      · exact False.elim (by revert h_15; decide)
set_option maxHeartbeats 4000000 in
set_option maxRecDepth 100000 in
theorem c_X9_forget_0 (l : Launch) (D : va_G) (cB cI cZ : ClassId) (sz : Nat) (h0 : Nat) (b0 : Nat) (b1 : Nat) (b6 : Nat) (b7 : Nat) (b8 : Nat) (b9 : Nat) (b11 : Nat) (b12 : Nat) (b13 : Nat) (b18 : Nat) (b19 : Nat) (b20 : Nat) (b21 : Nat) (b22 : Nat) (b23 : Nat) (b24 : Nat) (b25 : Nat) (b26 : Nat) (b27 : Nat) (b28 : Nat) (b29 : Nat) (b30 : Nat) (b32 : Nat) (b33 : Nat) : Met l yX9_forget (.code yX9_forget cX9_forget 1 none :: wsL_law) ({ frames := 2, cells := 0, slots := 0, locals := 44 } : Room) (va_Pc [.ref h0] (pIn D (pT cB cI cZ) sz [(h0, .inr (9, [.ref b0, .ref b1, .int 0, .int 0, .int 0, .int 0, .ref b6, .ref b7, .ref b8, .ref b9, .int 0, .ref b11, .ref b12, .ref b13, .int 0, .int 0, .int 0, .int 0, .ref b18, .ref b19, .ref b20, .ref b21, .ref b22, .ref b23, .ref b24, .ref b25, .ref b26, .ref b27, .ref b28, .ref b29, .ref b30, .int 0, .ref b32, .ref b33]))])) (va_Qv (fun (u : Unit) => True) (fun (u : Unit) (t : State) => pAt D (pT cB cI cZ) (va_A [(h0, .inr (9, [.ref b0, .ref b1, .int 0, .int 0, .int 0, .int 0, .ref b6, .ref b7, .ref b8, .ref b9, .int 0, .ref b11, .ref b12, .ref b13, .int 0, .int 0, .int 0, .int 0, .ref b18, .ref b19, .ref b20, .ref b21, .ref b22, .ref b23, .ref b24, .ref b25, .ref b26, .ref b27, .ref b28, .ref b29, .ref b30, .int 0, .ref b32, .ref b33]))] sz) [] t) (va_A [(h0, .inr (9, [.ref b0, .ref b1, .int 0, .int 0, .int 0, .int 0, .ref b6, .ref b7, .ref b8, .ref b9, .int 0, .ref b11, .ref b12, .ref b13, .int 0, .int 0, .int 0, .int 0, .ref b18, .ref b19, .ref b20, .ref b21, .ref b22, .ref b23, .ref b24, .ref b25, .ref b26, .ref b27, .ref b28, .ref b29, .ref b30, .int 0, .ref b32, .ref b33]))] sz)) 0 0 (va_A [(h0, .inr (9, [.ref b0, .ref b1, .int 0, .int 0, .int 0, .int 0, .ref b6, .ref b7, .ref b8, .ref b9, .int 0, .ref b11, .ref b12, .ref b13, .int 0, .int 0, .int 0, .int 0, .ref b18, .ref b19, .ref b20, .ref b21, .ref b22, .ref b23, .ref b24, .ref b25, .ref b26, .ref b27, .ref b28, .ref b29, .ref b30, .int 0, .ref b32, .ref b33]))] sz) := by
  refine Met.ofW (cc := cX9_forget) (maxL := 1) (ret := none) (by decide) rfl ?_
  intro p e s m args below meth c s₁ B hml hv
  obtain ⟨rfl, hsz, hP, hK, hD0⟩ := hv
  have hx := B.exec
  have hb := B.bytes
  have hr := B.returns
  have hts0 := atoms_spec (ws := .code yX9_forget cX9_forget 1 none :: wsL_law) B.pre
  have hts := fun (w : Cond) (h : w ∈ wsL_law) => hts0 w (List.mem_cons_of_mem _ h)
  have hown : s.vm.findClass RX9 = some m.cls := findClass_of_methodNamed B.named
  have hlocks := B.notSynchronized
  have hinX9 := inlX9
  subst hsz
  have hD := hD0.self (sz := s.heap.size)
  generalize hAe : va_A [(h0, .inr (9, [.ref b0, .ref b1, .int 0, .int 0, .int 0, .int 0, .ref b6, .ref b7, .ref b8, .ref b9, .int 0, .ref b11, .ref b12, .ref b13, .int 0, .int 0, .int 0, .int 0, .ref b18, .ref b19, .ref b20, .ref b21, .ref b22, .ref b23, .ref b24, .ref b25, .ref b26, .ref b27, .ref b28, .ref b29, .ref b30, .int 0, .ref b32, .ref b33]))] s.heap.size = A at hD ⊢
  have hA : ∀ q : Nat, s.heap.size ≤ q → A q := fun q h => by rw [← hAe]; exact Or.inr h
  have hS : va_S A s.heap s.heap [] := va_S.rf
  have hP : va_P D vwCl [(h0, .inr (9, [.ref b0, .ref b1, .int 0, .int 0, .int 0, .int 0, .ref b6, .ref b7, .ref b8, .ref b9, .int 0, .ref b11, .ref b12, .ref b13, .int 0, .int 0, .int 0, .int 0, .ref b18, .ref b19, .ref b20, .ref b21, .ref b22, .ref b23, .ref b24, .ref b25, .ref b26, .ref b27, .ref b28, .ref b29, .ref b30, .int 0, .ref b32, .ref b33]))] s.heap := hP
  have hl := lv_entry ([.ref h0]) (n := 1) (Nat.le_of_ble_eq_true rfl)
  rw [lg_entry_eq]
  generalize (lg_sl ([.ref h0]) ++ List.replicate (1 - (lg_sl ([.ref h0])).length) Slot.unset).toArray = ls at hl ⊢
  have hl : lv_has ls 1 [(0, .ref h0)] := hl
  refine lv_aload_n hx hb dX9_forget_0 rfl (lv_at hl 0 rfl) ?_
  refine lv_iconst (v := 0) hx hb dX9_forget_1 (by decide) ?_
  refine va_put (D := D) (ci := 9) (v := .int 0) (ty := .int) (C := RX9) (T := TX9) (N := 34) hx hb hts hinX9 tyX9 tyX9_ok nmX9 hown hK hP hD hS 0 rfl rfl 10 (by decide) (hts (.fieldLink RX9 132 "TaleReaderModel" "toldMany" "I") (uc27 _ (List.mem_of_getElem? (i := 17) rfl))) (fun _ h9 => h9) rfl (by decide +kernel) rfl rfl (Nat.le_of_ble_eq_true rfl) dX9_forget_2 (fun H_1 L_2 hP hD hS => ?_)
  have hP : va_P D vwCl [(h0, .inr (9, [.ref b0, .ref b1, .int 0, .int 0, .int 0, .int 0, .ref b6, .ref b7, .ref b8, .ref b9, .int 0, .ref b11, .ref b12, .ref b13, .int 0, .int 0, .int 0, .int 0, .ref b18, .ref b19, .ref b20, .ref b21, .ref b22, .ref b23, .ref b24, .ref b25, .ref b26, .ref b27, .ref b28, .ref b29, .ref b30, .int 0, .ref b32, .ref b33]))] H_1 := hP
  have hD : va_D A [(h0, .inr (9, [.ref b0, .ref b1, .int 0, .int 0, .int 0, .int 0, .ref b6, .ref b7, .ref b8, .ref b9, .int 0, .ref b11, .ref b12, .ref b13, .int 0, .int 0, .int 0, .int 0, .ref b18, .ref b19, .ref b20, .ref b21, .ref b22, .ref b23, .ref b24, .ref b25, .ref b26, .ref b27, .ref b28, .ref b29, .ref b30, .int 0, .ref b32, .ref b33]))] := hD
  refine lv_aload_n hx hb dX9_forget_5 rfl (lv_at hl 0 rfl) ?_
  have hPc := hP.sub (ws' := [(h0, .inr (9, [.ref b0, .ref b1, .int 0, .int 0, .int 0, .int 0, .ref b6, .ref b7, .ref b8, .ref b9, .int 0, .ref b11, .ref b12, .ref b13, .int 0, .int 0, .int 0, .int 0, .ref b18, .ref b19, .ref b20, .ref b21, .ref b22, .ref b23, .ref b24, .ref b25, .ref b26, .ref b27, .ref b28, .ref b29, .ref b30, .int 0, .ref b32, .ref b33]))]) [0] rfl
  have hDc := hD.sub (ws' := [(h0, .inr (9, [.ref b0, .ref b1, .int 0, .int 0, .int 0, .int 0, .ref b6, .ref b7, .ref b8, .ref b9, .int 0, .ref b11, .ref b12, .ref b13, .int 0, .int 0, .int 0, .int 0, .ref b18, .ref b19, .ref b20, .ref b21, .ref b22, .ref b23, .ref b24, .ref b25, .ref b26, .ref b27, .ref b28, .ref b29, .ref b30, .int 0, .ref b32, .ref b33]))]) [0] (by decide) rfl
  have hFc := va_free (wc := [(h0, .inr (9, [.ref b0, .ref b1, .int 0, .int 0, .int 0, .int 0, .ref b6, .ref b7, .ref b8, .ref b9, .int 0, .ref b11, .ref b12, .ref b13, .int 0, .int 0, .int 0, .int 0, .ref b18, .ref b19, .ref b20, .ref b21, .ref b22, .ref b23, .ref b24, .ref b25, .ref b26, .ref b27, .ref b28, .ref b29, .ref b30, .int 0, .ref b32, .ref b33]))]) hD hS hA [0] rfl
  refine va_callv (va_runV (As := []) (rest := []) ⟨hx, hb, hml, hown, hts⟩ (c_X9_anew_0 l D cB cI cZ H_1.size h0 b0 b1 b6 b7 b8 b9 b11 b12 b13 b18 b19 b20 b21 b22 b23 b24 b25 b26 b27 b28 b29 b30 b32 b33) (cwV 0 hts (uV (uc26 _ (List.mem_of_getElem? (i := 0) rfl)) (uc26 _ (List.mem_of_getElem? (i := 1) rfl)) (uc26 _ (List.mem_of_getElem? (i := 2) rfl)) (uc1 _ (List.mem_of_getElem? (i := 5) rfl)) (uc26 _ (List.mem_of_getElem? (i := 3) rfl))) rfl rfl rfl (by decide +kernel) ⟨Nat.le_of_ble_eq_true rfl, Nat.le_of_ble_eq_true rfl⟩) (pV hK hPc hDc 0 rfl rfl) rfl rfl hl.1 rfl (lv_room (Nat.le_of_ble_eq_true rfl)) dX9_forget_6 ⟨Nat.le_of_ble_eq_true rfl, Nat.le_of_ble_eq_true rfl⟩) hS (fun q _ h => hFc q h) hFc (fun u t H_4 L_5 ht hvm hw hB hz1 hk1 hS => ?_)
  obtain ⟨hP1, -, hD1⟩ := hB
  rw [ht] at hP1
  obtain ⟨hP, hD⟩ := va_join (wr := []) (w1 := [(h0, .inr (9, [.ref b0, .ref b1, .int 0, .int 0, .int 0, .int 0, .ref b6, .ref b7, .ref b8, .ref b9, .int 0, .ref b11, .ref b12, .ref b13, .int 0, .int 0, .int 0, .int 0, .ref b18, .ref b19, .ref b20, .ref b21, .ref b22, .ref b23, .ref b24, .ref b25, .ref b26, .ref b27, .ref b28, .ref b29, .ref b30, .int 0, .ref b32, .ref b33]))]) hP hD [0] [] rfl rfl (by decide) (by decide) hk1 hFc hP1 hD1
  have hP : va_P D vwCl [(h0, .inr (9, [.ref b0, .ref b1, .int 0, .int 0, .int 0, .int 0, .ref b6, .ref b7, .ref b8, .ref b9, .int 0, .ref b11, .ref b12, .ref b13, .int 0, .int 0, .int 0, .int 0, .ref b18, .ref b19, .ref b20, .ref b21, .ref b22, .ref b23, .ref b24, .ref b25, .ref b26, .ref b27, .ref b28, .ref b29, .ref b30, .int 0, .ref b32, .ref b33]))] H_4 := hP.sub [0] rfl
  have hD : va_D A [(h0, .inr (9, [.ref b0, .ref b1, .int 0, .int 0, .int 0, .int 0, .ref b6, .ref b7, .ref b8, .ref b9, .int 0, .ref b11, .ref b12, .ref b13, .int 0, .int 0, .int 0, .int 0, .ref b18, .ref b19, .ref b20, .ref b21, .ref b22, .ref b23, .ref b24, .ref b25, .ref b26, .ref b27, .ref b28, .ref b29, .ref b30, .int 0, .ref b32, .ref b33]))] := hD.sub [0] (by decide) rfl
  try dsimp only at hw
  have hP9 := hP.sub (ws' := []) [] rfl
  have hD9 := hD.sub (ws' := []) [] (by decide) rfl
  exact W.vret hx hb hr (fun t ht hW => ⟨⟨(), rfl, trivial, ⟨by rw [ht]; exact hP9, va_K.moved hW.alike hK, hD9⟩⟩, hS.F ht⟩) hS.2.2 dX9_forget_9
set_option maxHeartbeats 4000000 in
set_option maxRecDepth 100000 in
theorem c_X9_pin_0 (l : Launch) (D : va_G) (cB cI cZ : ClassId) (sz : Nat) (h0 : Nat) (b0 : Nat) (b1 : Nat) (b6 : Nat) (b7 : Nat) (b8 : Nat) (b9 : Nat) (b11 : Nat) (b12 : Nat) (b13 : Nat) (b18 : Nat) (b19 : Nat) (b20 : Nat) (b21 : Nat) (b22 : Nat) (b23 : Nat) (b24 : Nat) (b25 : Nat) (b26 : Nat) (b27 : Nat) (b28 : Nat) (b29 : Nat) (b30 : Nat) (b32 : Nat) (b33 : Nat) (k : Int32) (k2 : Int32) : Met l yX9_pin (.code yX9_pin cX9_pin 4 (some .boolean) :: wsL_law) ({ frames := 1, cells := 0, slots := 0, locals := 22 } : Room) (va_Pc [.ref h0, .int k, .int k2] (pIn D (pT cB cI cZ) sz [(h0, .inr (9, [.ref b0, .ref b1, .int 0, .int 0, .int 0, .int 0, .ref b6, .ref b7, .ref b8, .ref b9, .int 0, .ref b11, .ref b12, .ref b13, .int 0, .int 0, .int 0, .int 0, .ref b18, .ref b19, .ref b20, .ref b21, .ref b22, .ref b23, .ref b24, .ref b25, .ref b26, .ref b27, .ref b28, .ref b29, .ref b30, .int 0, .ref b32, .ref b33]))])) (va_Qi (fun (r : Int32) (u : Unit) => r = 0) (fun (u : Unit) (t : State) => pAt D (pT cB cI cZ) (va_A [(h0, .inr (9, [.ref b0, .ref b1, .int 0, .int 0, .int 0, .int 0, .ref b6, .ref b7, .ref b8, .ref b9, .int 0, .ref b11, .ref b12, .ref b13, .int 0, .int 0, .int 0, .int 0, .ref b18, .ref b19, .ref b20, .ref b21, .ref b22, .ref b23, .ref b24, .ref b25, .ref b26, .ref b27, .ref b28, .ref b29, .ref b30, .int 0, .ref b32, .ref b33]))] sz) [] t) (va_A [(h0, .inr (9, [.ref b0, .ref b1, .int 0, .int 0, .int 0, .int 0, .ref b6, .ref b7, .ref b8, .ref b9, .int 0, .ref b11, .ref b12, .ref b13, .int 0, .int 0, .int 0, .int 0, .ref b18, .ref b19, .ref b20, .ref b21, .ref b22, .ref b23, .ref b24, .ref b25, .ref b26, .ref b27, .ref b28, .ref b29, .ref b30, .int 0, .ref b32, .ref b33]))] sz)) 0 0 (va_A [(h0, .inr (9, [.ref b0, .ref b1, .int 0, .int 0, .int 0, .int 0, .ref b6, .ref b7, .ref b8, .ref b9, .int 0, .ref b11, .ref b12, .ref b13, .int 0, .int 0, .int 0, .int 0, .ref b18, .ref b19, .ref b20, .ref b21, .ref b22, .ref b23, .ref b24, .ref b25, .ref b26, .ref b27, .ref b28, .ref b29, .ref b30, .int 0, .ref b32, .ref b33]))] sz) := by
  refine Met.ofW (cc := cX9_pin) (maxL := 4) (ret := (some .boolean)) (by decide) rfl ?_
  intro p e s m args below meth c s₁ B hml hv
  obtain ⟨rfl, hsz, hP, hK, hD0⟩ := hv
  have hx := B.exec
  have hb := B.bytes
  have hr := B.returns
  have hts0 := atoms_spec (ws := .code yX9_pin cX9_pin 4 (some .boolean) :: wsL_law) B.pre
  have hts := fun (w : Cond) (h : w ∈ wsL_law) => hts0 w (List.mem_cons_of_mem _ h)
  have hown : s.vm.findClass RX9 = some m.cls := findClass_of_methodNamed B.named
  have hlocks := B.notSynchronized
  have hinX9 := inlX9
  subst hsz
  have hD := hD0.self (sz := s.heap.size)
  generalize hAe : va_A [(h0, .inr (9, [.ref b0, .ref b1, .int 0, .int 0, .int 0, .int 0, .ref b6, .ref b7, .ref b8, .ref b9, .int 0, .ref b11, .ref b12, .ref b13, .int 0, .int 0, .int 0, .int 0, .ref b18, .ref b19, .ref b20, .ref b21, .ref b22, .ref b23, .ref b24, .ref b25, .ref b26, .ref b27, .ref b28, .ref b29, .ref b30, .int 0, .ref b32, .ref b33]))] s.heap.size = A at hD ⊢
  have hA : ∀ q : Nat, s.heap.size ≤ q → A q := fun q h => by rw [← hAe]; exact Or.inr h
  have hS : va_S A s.heap s.heap [] := va_S.rf
  have hP : va_P D vwCl [(h0, .inr (9, [.ref b0, .ref b1, .int 0, .int 0, .int 0, .int 0, .ref b6, .ref b7, .ref b8, .ref b9, .int 0, .ref b11, .ref b12, .ref b13, .int 0, .int 0, .int 0, .int 0, .ref b18, .ref b19, .ref b20, .ref b21, .ref b22, .ref b23, .ref b24, .ref b25, .ref b26, .ref b27, .ref b28, .ref b29, .ref b30, .int 0, .ref b32, .ref b33]))] s.heap := hP
  have hl := lv_entry ([.ref h0, .int k, .int k2]) (n := 4) (Nat.le_of_ble_eq_true rfl)
  rw [lg_entry_eq]
  generalize (lg_sl ([.ref h0, .int k, .int k2]) ++ List.replicate (4 - (lg_sl ([.ref h0, .int k, .int k2])).length) Slot.unset).toArray = ls at hl ⊢
  have hl : lv_has ls 4 [(0, .ref h0), (1, .int k), (2, .int k2)] := hl
  refine lv_iload_n hx hb dX9_pin_0 rfl (lv_at hl 1 rfl) ?_
  refine lv_iconst (v := 0) hx hb dX9_pin_1 (by decide) ?_
  refine lv_aload_n hx hb dX9_pin_2 rfl (lv_at hl 0 rfl) ?_
  refine va_get (D := D) (ci := 9) (v := .int 0) (C := RX9) (T := TX9) (N := 34) hx hb hts hinX9 hown hK hP 0 rfl rfl 14 (by decide) (hts (.fieldLink RX9 157 "TaleReaderModel" "mentions" "I") (uc25 _ (List.mem_of_getElem? (i := 8) rfl))) (fun _ h9 => h9) rfl dX9_pin_3 ?_
  refine lv_iconst (v := 1) hx hb dX9_pin_6 (by decide) ?_
  refine lv_isub hx hb dX9_pin_7 ?_
  refine lv_topi (fun z_1 ez_1 => ?_)
  obtain rfl : z_1 = (-1) := ez_1.trans (by decide)
  have hPc := hP.sub (ws' := []) [] rfl
  have hDc := hD.sub (ws' := []) [] (by decide) rfl
  have hFc := va_free (wc := []) hD hS hA [] rfl
  refine va_calli (va_runS (As := [.int k, .int 0, .int (-1)]) (rest := []) ⟨hx, hb, hml, hown, hts⟩ (c_X9_isIn l D cB cI cZ s.heap.size k 0 (-1)) (va_cwS 3 hts (uS (uc9 _ (List.mem_of_getElem? (i := 2) rfl)) (uc9 _ (List.mem_of_getElem? (i := 3) rfl)) (uc1 _ (List.mem_of_getElem? (i := 5) rfl)) (uc9 _ (List.mem_of_getElem? (i := 4) rfl))) rfl rfl rfl (by decide +kernel) ⟨Nat.le_of_ble_eq_true rfl, Nat.le_of_ble_eq_true rfl⟩) (pS hK hPc hDc) rfl rfl hl.1 rfl (lv_room (Nat.le_of_ble_eq_true rfl)) dX9_pin_8 ⟨Nat.le_of_ble_eq_true rfl, Nat.le_of_ble_eq_true rfl⟩) hS (fun q _ h => hFc q h) hFc (fun r_2 u t H_3 L_4 ht hvm hw hB hz1 hk1 hS => ?_)
  obtain ⟨hP1, -, hD1⟩ := hB
  rw [ht] at hP1
  obtain ⟨hP, hD⟩ := va_join (wr := [(h0, .inr (9, [.ref b0, .ref b1, .int 0, .int 0, .int 0, .int 0, .ref b6, .ref b7, .ref b8, .ref b9, .int 0, .ref b11, .ref b12, .ref b13, .int 0, .int 0, .int 0, .int 0, .ref b18, .ref b19, .ref b20, .ref b21, .ref b22, .ref b23, .ref b24, .ref b25, .ref b26, .ref b27, .ref b28, .ref b29, .ref b30, .int 0, .ref b32, .ref b33]))]) (w1 := []) hP hD [] [0] rfl rfl (by decide) (by decide) hk1 hFc hP1 hD1
  have hP : va_P D vwCl [(h0, .inr (9, [.ref b0, .ref b1, .int 0, .int 0, .int 0, .int 0, .ref b6, .ref b7, .ref b8, .ref b9, .int 0, .ref b11, .ref b12, .ref b13, .int 0, .int 0, .int 0, .int 0, .ref b18, .ref b19, .ref b20, .ref b21, .ref b22, .ref b23, .ref b24, .ref b25, .ref b26, .ref b27, .ref b28, .ref b29, .ref b30, .int 0, .ref b32, .ref b33]))] H_3 := hP.sub [0] rfl
  have hD : va_D A [(h0, .inr (9, [.ref b0, .ref b1, .int 0, .int 0, .int 0, .int 0, .ref b6, .ref b7, .ref b8, .ref b9, .int 0, .ref b11, .ref b12, .ref b13, .int 0, .int 0, .int 0, .int 0, .ref b18, .ref b19, .ref b20, .ref b21, .ref b22, .ref b23, .ref b24, .ref b25, .ref b26, .ref b27, .ref b28, .ref b29, .ref b30, .int 0, .ref b32, .ref b33]))] := hD.sub [0] (by decide) rfl
  try dsimp only at hw
  rcases hw with ⟨rfl, h_5⟩ | ⟨rfl, h_6, h_7⟩
  · refine lv_if_eq (tgt := 25) hx hb dX9_pin_11 (by decide) (fun c_8 => ?_) (fun c_8 => ?_)
    · refine lv_iconst (v := 0) hx hb dX9_pin_25 (by decide) ?_
      have hP9 := hP.sub (ws' := []) [] rfl
      have hD9 := hD.sub (ws' := []) [] (by decide) rfl
      exact W.zret (v := 0) hx hb hr (rfl) (fun t ht hW => ⟨⟨0, (), rfl, rfl, ⟨by rw [ht]; exact hP9, va_K.moved hW.alike hK, hD9⟩⟩, hS.F ht⟩) hS.2.2 dX9_pin_26
    · exact False.elim (by revert c_8; decide)
  · exact False.elim (by exact pE0 h_6 h_7)
set_option maxHeartbeats 4000000 in
set_option maxRecDepth 100000 in
theorem c_X9_pinOf_0 (l : Launch) (D : va_G) (cB cI cZ : ClassId) (sz : Nat) (h0 : Nat) (b0 : Nat) (b1 : Nat) (b6 : Nat) (b7 : Nat) (b8 : Nat) (b9 : Nat) (b11 : Nat) (b12 : Nat) (b13 : Nat) (b18 : Nat) (b19 : Nat) (b20 : Nat) (b21 : Nat) (b22 : Nat) (b23 : Nat) (b24 : Nat) (b25 : Nat) (b26 : Nat) (b27 : Nat) (b28 : Nat) (b29 : Nat) (b30 : Nat) (b32 : Nat) (b33 : Nat) (k : Int32) : Met l yX9_pinOf (.code yX9_pinOf cX9_pinOf 3 (some .int) :: wsL_law) ({ frames := 0, cells := 0, slots := 0, locals := 0 } : Room) (va_Pc [.ref h0, .int k] (pIn D (pT cB cI cZ) sz [(h0, .inr (9, [.ref b0, .ref b1, .int 0, .int 0, .int 0, .int 0, .ref b6, .ref b7, .ref b8, .ref b9, .int 0, .ref b11, .ref b12, .ref b13, .int 0, .int 0, .int 0, .int 0, .ref b18, .ref b19, .ref b20, .ref b21, .ref b22, .ref b23, .ref b24, .ref b25, .ref b26, .ref b27, .ref b28, .ref b29, .ref b30, .int 0, .ref b32, .ref b33]))])) (va_Qi (fun (r : Int32) (u : Unit) => r = (-1)) (fun (u : Unit) (t : State) => pAt D (pT cB cI cZ) (va_A [(h0, .inr (9, [.ref b0, .ref b1, .int 0, .int 0, .int 0, .int 0, .ref b6, .ref b7, .ref b8, .ref b9, .int 0, .ref b11, .ref b12, .ref b13, .int 0, .int 0, .int 0, .int 0, .ref b18, .ref b19, .ref b20, .ref b21, .ref b22, .ref b23, .ref b24, .ref b25, .ref b26, .ref b27, .ref b28, .ref b29, .ref b30, .int 0, .ref b32, .ref b33]))] sz) [(h0, .inr (9, [.ref b0, .ref b1, .int 0, .int 0, .int 0, .int 0, .ref b6, .ref b7, .ref b8, .ref b9, .int 0, .ref b11, .ref b12, .ref b13, .int 0, .int 0, .int 0, .int 0, .ref b18, .ref b19, .ref b20, .ref b21, .ref b22, .ref b23, .ref b24, .ref b25, .ref b26, .ref b27, .ref b28, .ref b29, .ref b30, .int 0, .ref b32, .ref b33]))] t) (va_A [(h0, .inr (9, [.ref b0, .ref b1, .int 0, .int 0, .int 0, .int 0, .ref b6, .ref b7, .ref b8, .ref b9, .int 0, .ref b11, .ref b12, .ref b13, .int 0, .int 0, .int 0, .int 0, .ref b18, .ref b19, .ref b20, .ref b21, .ref b22, .ref b23, .ref b24, .ref b25, .ref b26, .ref b27, .ref b28, .ref b29, .ref b30, .int 0, .ref b32, .ref b33]))] sz)) 0 0 (va_A [(h0, .inr (9, [.ref b0, .ref b1, .int 0, .int 0, .int 0, .int 0, .ref b6, .ref b7, .ref b8, .ref b9, .int 0, .ref b11, .ref b12, .ref b13, .int 0, .int 0, .int 0, .int 0, .ref b18, .ref b19, .ref b20, .ref b21, .ref b22, .ref b23, .ref b24, .ref b25, .ref b26, .ref b27, .ref b28, .ref b29, .ref b30, .int 0, .ref b32, .ref b33]))] sz) := by
  refine Met.ofW (cc := cX9_pinOf) (maxL := 3) (ret := (some .int)) (by decide) rfl ?_
  intro p e s m args below meth c s₁ B hml hv
  obtain ⟨rfl, hsz, hP, hK, hD0⟩ := hv
  have hx := B.exec
  have hb := B.bytes
  have hr := B.returns
  have hts0 := atoms_spec (ws := .code yX9_pinOf cX9_pinOf 3 (some .int) :: wsL_law) B.pre
  have hts := fun (w : Cond) (h : w ∈ wsL_law) => hts0 w (List.mem_cons_of_mem _ h)
  have hown : s.vm.findClass RX9 = some m.cls := findClass_of_methodNamed B.named
  have hlocks := B.notSynchronized
  have hinX9 := inlX9
  subst hsz
  have hD := hD0.self (sz := s.heap.size)
  generalize hAe : va_A [(h0, .inr (9, [.ref b0, .ref b1, .int 0, .int 0, .int 0, .int 0, .ref b6, .ref b7, .ref b8, .ref b9, .int 0, .ref b11, .ref b12, .ref b13, .int 0, .int 0, .int 0, .int 0, .ref b18, .ref b19, .ref b20, .ref b21, .ref b22, .ref b23, .ref b24, .ref b25, .ref b26, .ref b27, .ref b28, .ref b29, .ref b30, .int 0, .ref b32, .ref b33]))] s.heap.size = A at hD ⊢
  have hA : ∀ q : Nat, s.heap.size ≤ q → A q := fun q h => by rw [← hAe]; exact Or.inr h
  have hS : va_S A s.heap s.heap [] := va_S.rf
  have hP : va_P D vwCl [(h0, .inr (9, [.ref b0, .ref b1, .int 0, .int 0, .int 0, .int 0, .ref b6, .ref b7, .ref b8, .ref b9, .int 0, .ref b11, .ref b12, .ref b13, .int 0, .int 0, .int 0, .int 0, .ref b18, .ref b19, .ref b20, .ref b21, .ref b22, .ref b23, .ref b24, .ref b25, .ref b26, .ref b27, .ref b28, .ref b29, .ref b30, .int 0, .ref b32, .ref b33]))] s.heap := hP
  have hl := lv_entry ([.ref h0, .int k]) (n := 3) (Nat.le_of_ble_eq_true rfl)
  rw [lg_entry_eq]
  generalize (lg_sl ([.ref h0, .int k]) ++ List.replicate (3 - (lg_sl ([.ref h0, .int k])).length) Slot.unset).toArray = ls at hl ⊢
  have hl : lv_has ls 3 [(0, .ref h0), (1, .int k)] := hl
  refine lv_iconst (v := 0) hx hb dX9_pinOf_0 (by decide) ?_
  refine lv_istore_n (lv' := [(2, .int 0), (0, .ref h0), (1, .int k)]) hx hb dX9_pinOf_1 rfl hl (by decide) rfl (fun ls hl => ?_)
  refine lv_iload_n hx hb dX9_pinOf_2 rfl (lv_at hl 0 rfl) ?_
  refine lv_aload_n hx hb dX9_pinOf_3 rfl (lv_at hl 1 rfl) ?_
  refine va_get (D := D) (ci := 9) (v := .int 0) (C := RX9) (T := TX9) (N := 34) hx hb hts hinX9 hown hK hP 0 rfl rfl 31 (by decide) (hts (.fieldLink RX9 190 "TaleReaderModel" "pins" "I") (uc25 _ (List.mem_of_getElem? (i := 7) rfl))) (fun _ h9 => h9) rfl dX9_pinOf_4 ?_
  refine lv_icmp_ge (tgt := 28) hx hb dX9_pinOf_7 (by decide) (fun c_1 => ?_) (fun c_1 => ?_)
  · refine lv_iconst (v := (-1)) hx hb dX9_pinOf_28 (by decide) ?_
    have hP9 := hP.sub (ws' := [(h0, .inr (9, [.ref b0, .ref b1, .int 0, .int 0, .int 0, .int 0, .ref b6, .ref b7, .ref b8, .ref b9, .int 0, .ref b11, .ref b12, .ref b13, .int 0, .int 0, .int 0, .int 0, .ref b18, .ref b19, .ref b20, .ref b21, .ref b22, .ref b23, .ref b24, .ref b25, .ref b26, .ref b27, .ref b28, .ref b29, .ref b30, .int 0, .ref b32, .ref b33]))]) [0] rfl
    have hD9 := hD.sub (ws' := [(h0, .inr (9, [.ref b0, .ref b1, .int 0, .int 0, .int 0, .int 0, .ref b6, .ref b7, .ref b8, .ref b9, .int 0, .ref b11, .ref b12, .ref b13, .int 0, .int 0, .int 0, .int 0, .ref b18, .ref b19, .ref b20, .ref b21, .ref b22, .ref b23, .ref b24, .ref b25, .ref b26, .ref b27, .ref b28, .ref b29, .ref b30, .int 0, .ref b32, .ref b33]))]) [0] (by decide) rfl
    exact W.iret (v := (-1)) hx hb hr (fun t ht hW => ⟨⟨(-1), (), rfl, rfl, ⟨by rw [ht]; exact hP9, va_K.moved hW.alike hK, hD9⟩⟩, hS.F ht⟩) hS.2.2 dX9_pinOf_29
  · exact False.elim (by revert c_1; decide)
set_option maxHeartbeats 4000000 in
set_option maxRecDepth 100000 in
theorem c_X9_loose_0 (l : Launch) (D : va_G) (cB cI cZ : ClassId) (sz : Nat) (h0 : Nat) (b0 : Nat) (b1 : Nat) (b6 : Nat) (b7 : Nat) (b8 : Nat) (b9 : Nat) (b11 : Nat) (b12 : Nat) (b13 : Nat) (b18 : Nat) (b19 : Nat) (b20 : Nat) (b21 : Nat) (b22 : Nat) (b23 : Nat) (b24 : Nat) (b25 : Nat) (b26 : Nat) (b27 : Nat) (b28 : Nat) (b29 : Nat) (b30 : Nat) (b32 : Nat) (b33 : Nat) (k : Int32) : Met l yX9_loose (.code yX9_loose cX9_loose 4 (some .boolean) :: wsL_law) ({ frames := 1, cells := 0, slots := 0, locals := 22 } : Room) (va_Pc [.ref h0, .int k] (pIn D (pT cB cI cZ) sz [(h0, .inr (9, [.ref b0, .ref b1, .int 0, .int 0, .int 0, .int 0, .ref b6, .ref b7, .ref b8, .ref b9, .int 0, .ref b11, .ref b12, .ref b13, .int 0, .int 0, .int 0, .int 0, .ref b18, .ref b19, .ref b20, .ref b21, .ref b22, .ref b23, .ref b24, .ref b25, .ref b26, .ref b27, .ref b28, .ref b29, .ref b30, .int 0, .ref b32, .ref b33]))])) (va_Qi (fun (r : Int32) (u : Unit) => r = 0) (fun (u : Unit) (t : State) => pAt D (pT cB cI cZ) (va_A [(h0, .inr (9, [.ref b0, .ref b1, .int 0, .int 0, .int 0, .int 0, .ref b6, .ref b7, .ref b8, .ref b9, .int 0, .ref b11, .ref b12, .ref b13, .int 0, .int 0, .int 0, .int 0, .ref b18, .ref b19, .ref b20, .ref b21, .ref b22, .ref b23, .ref b24, .ref b25, .ref b26, .ref b27, .ref b28, .ref b29, .ref b30, .int 0, .ref b32, .ref b33]))] sz) [] t) (va_A [(h0, .inr (9, [.ref b0, .ref b1, .int 0, .int 0, .int 0, .int 0, .ref b6, .ref b7, .ref b8, .ref b9, .int 0, .ref b11, .ref b12, .ref b13, .int 0, .int 0, .int 0, .int 0, .ref b18, .ref b19, .ref b20, .ref b21, .ref b22, .ref b23, .ref b24, .ref b25, .ref b26, .ref b27, .ref b28, .ref b29, .ref b30, .int 0, .ref b32, .ref b33]))] sz)) 0 0 (va_A [(h0, .inr (9, [.ref b0, .ref b1, .int 0, .int 0, .int 0, .int 0, .ref b6, .ref b7, .ref b8, .ref b9, .int 0, .ref b11, .ref b12, .ref b13, .int 0, .int 0, .int 0, .int 0, .ref b18, .ref b19, .ref b20, .ref b21, .ref b22, .ref b23, .ref b24, .ref b25, .ref b26, .ref b27, .ref b28, .ref b29, .ref b30, .int 0, .ref b32, .ref b33]))] sz) := by
  refine Met.ofW (cc := cX9_loose) (maxL := 4) (ret := (some .boolean)) (by decide) rfl ?_
  intro p e s m args below meth c s₁ B hml hv
  obtain ⟨rfl, hsz, hP, hK, hD0⟩ := hv
  have hx := B.exec
  have hb := B.bytes
  have hr := B.returns
  have hts0 := atoms_spec (ws := .code yX9_loose cX9_loose 4 (some .boolean) :: wsL_law) B.pre
  have hts := fun (w : Cond) (h : w ∈ wsL_law) => hts0 w (List.mem_cons_of_mem _ h)
  have hown : s.vm.findClass RX9 = some m.cls := findClass_of_methodNamed B.named
  have hlocks := B.notSynchronized
  subst hsz
  have hD := hD0.self (sz := s.heap.size)
  generalize hAe : va_A [(h0, .inr (9, [.ref b0, .ref b1, .int 0, .int 0, .int 0, .int 0, .ref b6, .ref b7, .ref b8, .ref b9, .int 0, .ref b11, .ref b12, .ref b13, .int 0, .int 0, .int 0, .int 0, .ref b18, .ref b19, .ref b20, .ref b21, .ref b22, .ref b23, .ref b24, .ref b25, .ref b26, .ref b27, .ref b28, .ref b29, .ref b30, .int 0, .ref b32, .ref b33]))] s.heap.size = A at hD ⊢
  have hA : ∀ q : Nat, s.heap.size ≤ q → A q := fun q h => by rw [← hAe]; exact Or.inr h
  have hS : va_S A s.heap s.heap [] := va_S.rf
  have hP : va_P D vwCl [(h0, .inr (9, [.ref b0, .ref b1, .int 0, .int 0, .int 0, .int 0, .ref b6, .ref b7, .ref b8, .ref b9, .int 0, .ref b11, .ref b12, .ref b13, .int 0, .int 0, .int 0, .int 0, .ref b18, .ref b19, .ref b20, .ref b21, .ref b22, .ref b23, .ref b24, .ref b25, .ref b26, .ref b27, .ref b28, .ref b29, .ref b30, .int 0, .ref b32, .ref b33]))] s.heap := hP
  have hl := lv_entry ([.ref h0, .int k]) (n := 4) (Nat.le_of_ble_eq_true rfl)
  rw [lg_entry_eq]
  generalize (lg_sl ([.ref h0, .int k]) ++ List.replicate (4 - (lg_sl ([.ref h0, .int k])).length) Slot.unset).toArray = ls at hl ⊢
  have hl : lv_has ls 4 [(0, .ref h0), (1, .int k)] := hl
  refine lv_aload_n hx hb dX9_loose_0 rfl (lv_at hl 0 rfl) ?_
  refine lv_iload_n hx hb dX9_loose_1 rfl (lv_at hl 1 rfl) ?_
  have hPc := hP.sub (ws' := [(h0, .inr (9, [.ref b0, .ref b1, .int 0, .int 0, .int 0, .int 0, .ref b6, .ref b7, .ref b8, .ref b9, .int 0, .ref b11, .ref b12, .ref b13, .int 0, .int 0, .int 0, .int 0, .ref b18, .ref b19, .ref b20, .ref b21, .ref b22, .ref b23, .ref b24, .ref b25, .ref b26, .ref b27, .ref b28, .ref b29, .ref b30, .int 0, .ref b32, .ref b33]))]) [0] rfl
  have hDc := hD.sub (ws' := [(h0, .inr (9, [.ref b0, .ref b1, .int 0, .int 0, .int 0, .int 0, .ref b6, .ref b7, .ref b8, .ref b9, .int 0, .ref b11, .ref b12, .ref b13, .int 0, .int 0, .int 0, .int 0, .ref b18, .ref b19, .ref b20, .ref b21, .ref b22, .ref b23, .ref b24, .ref b25, .ref b26, .ref b27, .ref b28, .ref b29, .ref b30, .int 0, .ref b32, .ref b33]))]) [0] (by decide) rfl
  have hFc := va_free (wc := [(h0, .inr (9, [.ref b0, .ref b1, .int 0, .int 0, .int 0, .int 0, .ref b6, .ref b7, .ref b8, .ref b9, .int 0, .ref b11, .ref b12, .ref b13, .int 0, .int 0, .int 0, .int 0, .ref b18, .ref b19, .ref b20, .ref b21, .ref b22, .ref b23, .ref b24, .ref b25, .ref b26, .ref b27, .ref b28, .ref b29, .ref b30, .int 0, .ref b32, .ref b33]))]) hD hS hA [0] rfl
  refine va_calli (va_runV (As := [.int k]) (rest := []) ⟨hx, hb, hml, hown, hts⟩ (c_X9_pinOf_0 l D cB cI cZ s.heap.size h0 b0 b1 b6 b7 b8 b9 b11 b12 b13 b18 b19 b20 b21 b22 b23 b24 b25 b26 b27 b28 b29 b30 b32 b33 k) (cwV 1 hts (uV (uc27 _ (List.mem_of_getElem? (i := 22) rfl)) (uc27 _ (List.mem_of_getElem? (i := 23) rfl)) (uc28 _ (List.mem_of_getElem? (i := 0) rfl)) (uc1 _ (List.mem_of_getElem? (i := 5) rfl)) (uc28 _ (List.mem_of_getElem? (i := 1) rfl))) rfl rfl rfl (by decide +kernel) ⟨Nat.le_of_ble_eq_true rfl, Nat.le_of_ble_eq_true rfl⟩) (pV hK hPc hDc 0 rfl rfl) rfl rfl hl.1 rfl (lv_room (Nat.le_of_ble_eq_true rfl)) dX9_loose_2 ⟨Nat.le_of_ble_eq_true rfl, Nat.le_of_ble_eq_true rfl⟩) hS (fun q _ h => hFc q h) hFc (fun r_1 u t H_2 L_3 ht hvm hw hB hz1 hk1 hS => ?_)
  obtain ⟨hP1, -, hD1⟩ := hB
  rw [ht] at hP1
  obtain ⟨hP, hD⟩ := va_join (wr := []) (w1 := [(h0, .inr (9, [.ref b0, .ref b1, .int 0, .int 0, .int 0, .int 0, .ref b6, .ref b7, .ref b8, .ref b9, .int 0, .ref b11, .ref b12, .ref b13, .int 0, .int 0, .int 0, .int 0, .ref b18, .ref b19, .ref b20, .ref b21, .ref b22, .ref b23, .ref b24, .ref b25, .ref b26, .ref b27, .ref b28, .ref b29, .ref b30, .int 0, .ref b32, .ref b33]))]) hP hD [0] [] rfl rfl (by decide) (by decide) hk1 hFc hP1 hD1
  have hP : va_P D vwCl [(h0, .inr (9, [.ref b0, .ref b1, .int 0, .int 0, .int 0, .int 0, .ref b6, .ref b7, .ref b8, .ref b9, .int 0, .ref b11, .ref b12, .ref b13, .int 0, .int 0, .int 0, .int 0, .ref b18, .ref b19, .ref b20, .ref b21, .ref b22, .ref b23, .ref b24, .ref b25, .ref b26, .ref b27, .ref b28, .ref b29, .ref b30, .int 0, .ref b32, .ref b33]))] H_2 := hP.sub [0] rfl
  have hD : va_D A [(h0, .inr (9, [.ref b0, .ref b1, .int 0, .int 0, .int 0, .int 0, .ref b6, .ref b7, .ref b8, .ref b9, .int 0, .ref b11, .ref b12, .ref b13, .int 0, .int 0, .int 0, .int 0, .ref b18, .ref b19, .ref b20, .ref b21, .ref b22, .ref b23, .ref b24, .ref b25, .ref b26, .ref b27, .ref b28, .ref b29, .ref b30, .int 0, .ref b32, .ref b33]))] := hD.sub [0] (by decide) rfl
  try dsimp only at hw
  subst hw
  refine lv_istore_n (lv' := [(2, .int (-1)), (0, .ref h0), (1, .int k)]) hx hb dX9_loose_5 rfl hl (by decide) rfl (fun ls hl => ?_)
  refine lv_iload_n hx hb dX9_loose_6 rfl (lv_at hl 0 rfl) ?_
  refine lv_iconst (v := (-1)) hx hb dX9_loose_7 (by decide) ?_
  refine lv_icmp_ne (tgt := 13) hx hb dX9_loose_8 (by decide) (fun c_4 => ?_) (fun c_4 => ?_)
  · exact False.elim (by revert c_4; decide)
  · refine lv_iconst (v := 0) hx hb dX9_loose_11 (by decide) ?_
    have hP9 := hP.sub (ws' := []) [] rfl
    have hD9 := hD.sub (ws' := []) [] (by decide) rfl
    exact W.zret (v := 0) hx hb hr (rfl) (fun t ht hW => ⟨⟨0, (), rfl, rfl, ⟨by rw [ht]; exact hP9, va_K.moved hW.alike hK, hD9⟩⟩, hS.F ht⟩) hS.2.2 dX9_loose_12
set_option maxHeartbeats 4000000 in
set_option maxRecDepth 100000 in
theorem c_X9_look_0 (l : Launch) (D : va_G) (cB cI cZ : ClassId) (sz : Nat) (h0 : Nat) (b0 : Nat) (b1 : Nat) (b6 : Nat) (b7 : Nat) (b8 : Nat) (b9 : Nat) (b11 : Nat) (b12 : Nat) (b13 : Nat) (b18 : Nat) (b19 : Nat) (b20 : Nat) (b21 : Nat) (b22 : Nat) (b23 : Nat) (b24 : Nat) (b25 : Nat) (b26 : Nat) (b27 : Nat) (b28 : Nat) (b29 : Nat) (b30 : Nat) (b32 : Nat) (b33 : Nat) (k : Int32) : Met l yX9_look (.code yX9_look cX9_look 4 (some .int) :: wsL_law) ({ frames := 0, cells := 0, slots := 0, locals := 0 } : Room) (va_Pc [.ref h0, .int k] (pIn D (pT cB cI cZ) sz [(h0, .inr (9, [.ref b0, .ref b1, .int 0, .int 0, .int 0, .int 0, .ref b6, .ref b7, .ref b8, .ref b9, .int 0, .ref b11, .ref b12, .ref b13, .int 0, .int 0, .int 0, .int 0, .ref b18, .ref b19, .ref b20, .ref b21, .ref b22, .ref b23, .ref b24, .ref b25, .ref b26, .ref b27, .ref b28, .ref b29, .ref b30, .int 0, .ref b32, .ref b33]))])) (va_Qi (fun (r : Int32) (u : Unit) => r = (if k < 0 ∨ 8 ≤ k then (-1) else 0)) (fun (u : Unit) (t : State) => pAt D (pT cB cI cZ) (va_A [(h0, .inr (9, [.ref b0, .ref b1, .int 0, .int 0, .int 0, .int 0, .ref b6, .ref b7, .ref b8, .ref b9, .int 0, .ref b11, .ref b12, .ref b13, .int 0, .int 0, .int 0, .int 0, .ref b18, .ref b19, .ref b20, .ref b21, .ref b22, .ref b23, .ref b24, .ref b25, .ref b26, .ref b27, .ref b28, .ref b29, .ref b30, .int 0, .ref b32, .ref b33]))] sz) [] t) (va_A [(h0, .inr (9, [.ref b0, .ref b1, .int 0, .int 0, .int 0, .int 0, .ref b6, .ref b7, .ref b8, .ref b9, .int 0, .ref b11, .ref b12, .ref b13, .int 0, .int 0, .int 0, .int 0, .ref b18, .ref b19, .ref b20, .ref b21, .ref b22, .ref b23, .ref b24, .ref b25, .ref b26, .ref b27, .ref b28, .ref b29, .ref b30, .int 0, .ref b32, .ref b33]))] sz)) 0 0 (va_A [(h0, .inr (9, [.ref b0, .ref b1, .int 0, .int 0, .int 0, .int 0, .ref b6, .ref b7, .ref b8, .ref b9, .int 0, .ref b11, .ref b12, .ref b13, .int 0, .int 0, .int 0, .int 0, .ref b18, .ref b19, .ref b20, .ref b21, .ref b22, .ref b23, .ref b24, .ref b25, .ref b26, .ref b27, .ref b28, .ref b29, .ref b30, .int 0, .ref b32, .ref b33]))] sz) := by
  refine Met.ofW (cc := cX9_look) (maxL := 4) (ret := (some .int)) (by decide) rfl ?_
  intro p e s m args below meth c s₁ B hml hv
  obtain ⟨rfl, hsz, hP, hK, hD0⟩ := hv
  have hx := B.exec
  have hb := B.bytes
  have hr := B.returns
  have hts0 := atoms_spec (ws := .code yX9_look cX9_look 4 (some .int) :: wsL_law) B.pre
  have hts := fun (w : Cond) (h : w ∈ wsL_law) => hts0 w (List.mem_cons_of_mem _ h)
  have hown : s.vm.findClass RX9 = some m.cls := findClass_of_methodNamed B.named
  have hlocks := B.notSynchronized
  have hinX9 := inlX9
  subst hsz
  have hD := hD0.self (sz := s.heap.size)
  generalize hAe : va_A [(h0, .inr (9, [.ref b0, .ref b1, .int 0, .int 0, .int 0, .int 0, .ref b6, .ref b7, .ref b8, .ref b9, .int 0, .ref b11, .ref b12, .ref b13, .int 0, .int 0, .int 0, .int 0, .ref b18, .ref b19, .ref b20, .ref b21, .ref b22, .ref b23, .ref b24, .ref b25, .ref b26, .ref b27, .ref b28, .ref b29, .ref b30, .int 0, .ref b32, .ref b33]))] s.heap.size = A at hD ⊢
  have hA : ∀ q : Nat, s.heap.size ≤ q → A q := fun q h => by rw [← hAe]; exact Or.inr h
  have hS : va_S A s.heap s.heap [] := va_S.rf
  have hP : va_P D vwCl [(h0, .inr (9, [.ref b0, .ref b1, .int 0, .int 0, .int 0, .int 0, .ref b6, .ref b7, .ref b8, .ref b9, .int 0, .ref b11, .ref b12, .ref b13, .int 0, .int 0, .int 0, .int 0, .ref b18, .ref b19, .ref b20, .ref b21, .ref b22, .ref b23, .ref b24, .ref b25, .ref b26, .ref b27, .ref b28, .ref b29, .ref b30, .int 0, .ref b32, .ref b33]))] s.heap := hP
  have hl := lv_entry ([.ref h0, .int k]) (n := 4) (Nat.le_of_ble_eq_true rfl)
  rw [lg_entry_eq]
  generalize (lg_sl ([.ref h0, .int k]) ++ List.replicate (4 - (lg_sl ([.ref h0, .int k])).length) Slot.unset).toArray = ls at hl ⊢
  have hl : lv_has ls 4 [(0, .ref h0), (1, .int k)] := hl
  refine lv_iconst (v := 0) hx hb dX9_look_0 (by decide) ?_
  refine lv_istore_n (lv' := [(2, .int 0), (0, .ref h0), (1, .int k)]) hx hb dX9_look_1 rfl hl (by decide) rfl (fun ls hl => ?_)
  refine lv_iload_n hx hb dX9_look_2 rfl (lv_at hl 2 rfl) ?_
  rcases pk_ix k (n := 8) (by decide) with hlo | hhi | ⟨j_1, hj_1, rfl⟩
  · refine lv_tableOut (tgt := 161) hx hb dX9_look_3 (Or.inl (Int32.lt_iff_toInt_lt.mp hlo)) (by decide) ?_
    refine lv_iconst (v := (-1)) hx hb dX9_look_161 (by decide) ?_
    have hP9 := hP.sub (ws' := []) [] rfl
    have hD9 := hD.sub (ws' := []) [] (by decide) rfl
    exact W.iret (v := (-1)) hx hb hr (fun t ht hW => ⟨⟨(-1), (), rfl, (if_pos (Or.inl hlo)).symm, ⟨by rw [ht]; exact hP9, va_K.moved hW.alike hK, hD9⟩⟩, hS.F ht⟩) hS.2.2 dX9_look_162
  · refine lv_tableOut (tgt := 161) hx hb dX9_look_3 (Or.inr (Int.lt_of_lt_of_le (by decide) (Int32.le_iff_toInt_le.mp hhi))) (by decide) ?_
    refine lv_iconst (v := (-1)) hx hb dX9_look_161 (by decide) ?_
    have hP9 := hP.sub (ws' := []) [] rfl
    have hD9 := hD.sub (ws' := []) [] (by decide) rfl
    exact W.iret (v := (-1)) hx hb hr (fun t ht hW => ⟨⟨(-1), (), rfl, (if_pos (Or.inr hhi)).symm, ⟨by rw [ht]; exact hP9, va_K.moved hW.alike hK, hD9⟩⟩, hS.F ht⟩) hS.2.2 dX9_look_162
  · rcases (show j_1 = 0 ∨ j_1 = 1 ∨ j_1 = 2 ∨ j_1 = 3 ∨ j_1 = 4 ∨ j_1 = 5 ∨ j_1 = 6 ∨ j_1 = 7 by omega) with rfl | rfl | rfl | rfl | rfl | rfl | rfl | rfl
    · refine lv_tableIn (tgt := 48) hx hb dX9_look_3 (by decide) (by decide) rfl (by decide) ?_
      refine lv_aload_n hx hb dX9_look_48 rfl (lv_at hl 1 rfl) ?_
      refine va_get (D := D) (ci := 9) (v := .int 0) (C := RX9) (T := TX9) (N := 34) hx hb hts hinX9 hown hK hP 0 rfl rfl 14 (by decide) (hts (.fieldLink RX9 157 "TaleReaderModel" "mentions" "I") (uc25 _ (List.mem_of_getElem? (i := 8) rfl))) (fun _ h9 => h9) rfl dX9_look_49 ?_
      have hP9 := hP.sub (ws' := []) [] rfl
      have hD9 := hD.sub (ws' := []) [] (by decide) rfl
      exact W.iret (v := 0) hx hb hr (fun t ht hW => ⟨⟨0, (), rfl, (if_neg (by decide)).symm, ⟨by rw [ht]; exact hP9, va_K.moved hW.alike hK, hD9⟩⟩, hS.F ht⟩) hS.2.2 dX9_look_52
    · refine lv_tableIn (tgt := 53) hx hb dX9_look_3 (by decide) (by decide) rfl (by decide) ?_
      refine lv_aload_n hx hb dX9_look_53 rfl (lv_at hl 1 rfl) ?_
      refine va_get (D := D) (ci := 9) (v := .int 0) (C := RX9) (T := TX9) (N := 34) hx hb hts hinX9 hown hK hP 0 rfl rfl 15 (by decide) (hts (.fieldLink RX9 167 "TaleReaderModel" "persons" "I") (uc26 _ (List.mem_of_getElem? (i := 4) rfl))) (fun _ h9 => h9) rfl dX9_look_54 ?_
      have hP9 := hP.sub (ws' := []) [] rfl
      have hD9 := hD.sub (ws' := []) [] (by decide) rfl
      exact W.iret (v := 0) hx hb hr (fun t ht hW => ⟨⟨0, (), rfl, (if_neg (by decide)).symm, ⟨by rw [ht]; exact hP9, va_K.moved hW.alike hK, hD9⟩⟩, hS.F ht⟩) hS.2.2 dX9_look_57
    · refine lv_tableIn (tgt := 58) hx hb dX9_look_3 (by decide) (by decide) rfl (by decide) ?_
      refine lv_aload_n hx hb dX9_look_58 rfl (lv_at hl 1 rfl) ?_
      refine va_get (D := D) (ci := 9) (v := .int 0) (C := RX9) (T := TX9) (N := 34) hx hb hts hinX9 hown hK hP 0 rfl rfl 4 (by decide) (hts (.fieldLink RX9 98 "TaleReaderModel" "words" "I") (uc25 _ (List.mem_of_getElem? (i := 13) rfl))) (fun _ h9 => h9) rfl dX9_look_59 ?_
      refine lv_if_le (tgt := 92) hx hb dX9_look_62 (by decide) (fun c_2 => ?_) (fun c_2 => ?_)
      · refine lv_aload_n hx hb dX9_look_92 rfl (lv_at hl 1 rfl) ?_
        refine va_get (D := D) (ci := 9) (v := .int 0) (C := RX9) (T := TX9) (N := 34) hx hb hts hinX9 hown hK hP 0 rfl rfl 5 (by decide) (hts (.fieldLink RX9 101 "TaleReaderModel" "stops" "I") (uc25 _ (List.mem_of_getElem? (i := 14) rfl))) (fun _ h9 => h9) rfl dX9_look_93 ?_
        have hP9 := hP.sub (ws' := []) [] rfl
        have hD9 := hD.sub (ws' := []) [] (by decide) rfl
        exact W.iret (v := 0) hx hb hr (fun t ht hW => ⟨⟨0, (), rfl, (if_neg (by decide)).symm, ⟨by rw [ht]; exact hP9, va_K.moved hW.alike hK, hD9⟩⟩, hS.F ht⟩) hS.2.2 dX9_look_96
      · exact False.elim (by revert c_2; decide)
    · refine lv_tableIn (tgt := 97) hx hb dX9_look_3 (by decide) (by decide) rfl (by decide) ?_
      refine lv_aload_n hx hb dX9_look_97 rfl (lv_at hl 1 rfl) ?_
      refine va_get (D := D) (ci := 9) (v := .int 0) (C := RX9) (T := TX9) (N := 34) hx hb hts hinX9 hown hK hP 0 rfl rfl 16 (by decide) (hts (.fieldLink RX9 221 "TaleReaderModel" "doubts" "I") (uc26 _ (List.mem_of_getElem? (i := 5) rfl))) (fun _ h9 => h9) rfl dX9_look_98 ?_
      have hP9 := hP.sub (ws' := []) [] rfl
      have hD9 := hD.sub (ws' := []) [] (by decide) rfl
      exact W.iret (v := 0) hx hb hr (fun t ht hW => ⟨⟨0, (), rfl, (if_neg (by decide)).symm, ⟨by rw [ht]; exact hP9, va_K.moved hW.alike hK, hD9⟩⟩, hS.F ht⟩) hS.2.2 dX9_look_101
    · refine lv_tableIn (tgt := 102) hx hb dX9_look_3 (by decide) (by decide) rfl (by decide) ?_
      refine lv_iconst (v := 0) hx hb dX9_look_102 (by decide) ?_
      refine lv_istore_n (lv' := [(3, .int 0), (2, .int 0), (0, .ref h0), (1, .int (nI 4))]) hx hb dX9_look_103 rfl hl (by decide) rfl (fun ls hl => ?_)
      refine lv_iload_n hx hb dX9_look_104 rfl (lv_at hl 0 rfl) ?_
      refine lv_aload_n hx hb dX9_look_105 rfl (lv_at hl 2 rfl) ?_
      refine va_get (D := D) (ci := 9) (v := .int 0) (C := RX9) (T := TX9) (N := 34) hx hb hts hinX9 hown hK hP 0 rfl rfl 14 (by decide) (hts (.fieldLink RX9 157 "TaleReaderModel" "mentions" "I") (uc25 _ (List.mem_of_getElem? (i := 8) rfl))) (fun _ h9 => h9) rfl dX9_look_106 ?_
      refine lv_icmp_ge (tgt := 136) hx hb dX9_look_109 (by decide) (fun c_3 => ?_) (fun c_3 => ?_)
      · refine lv_iload_n hx hb dX9_look_136 rfl (lv_at hl 1 rfl) ?_
        have hP9 := hP.sub (ws' := []) [] rfl
        have hD9 := hD.sub (ws' := []) [] (by decide) rfl
        exact W.iret (v := 0) hx hb hr (fun t ht hW => ⟨⟨0, (), rfl, (if_neg (by decide)).symm, ⟨by rw [ht]; exact hP9, va_K.moved hW.alike hK, hD9⟩⟩, hS.F ht⟩) hS.2.2 dX9_look_137
      · exact False.elim (by revert c_3; decide)
    · refine lv_tableIn (tgt := 138) hx hb dX9_look_3 (by decide) (by decide) rfl (by decide) ?_
      refine lv_aload_n hx hb dX9_look_138 rfl (lv_at hl 1 rfl) ?_
      refine va_get (D := D) (ci := 9) (v := .int 0) (C := RX9) (T := TX9) (N := 34) hx hb hts hinX9 hown hK hP 0 rfl rfl 17 (by decide) (hts (.fieldLink RX9 160 "TaleReaderModel" "isCut" "Z") (uc26 _ (List.mem_of_getElem? (i := 10) rfl))) (fun _ h9 => h9) rfl dX9_look_139 ?_
      refine lv_if_eq (tgt := 149) hx hb dX9_look_142 (by decide) (fun c_4 => ?_) (fun c_4 => ?_)
      · refine lv_iconst (v := 0) hx hb dX9_look_149 (by decide) ?_
        have hP9 := hP.sub (ws' := []) [] rfl
        have hD9 := hD.sub (ws' := []) [] (by decide) rfl
        exact W.iret (v := 0) hx hb hr (fun t ht hW => ⟨⟨0, (), rfl, (if_neg (by decide)).symm, ⟨by rw [ht]; exact hP9, va_K.moved hW.alike hK, hD9⟩⟩, hS.F ht⟩) hS.2.2 dX9_look_150
      · exact False.elim (by revert c_4; decide)
    · refine lv_tableIn (tgt := 151) hx hb dX9_look_3 (by decide) (by decide) rfl (by decide) ?_
      refine lv_aload_n hx hb dX9_look_151 rfl (lv_at hl 1 rfl) ?_
      refine va_get (D := D) (ci := 9) (v := .int 0) (C := RX9) (T := TX9) (N := 34) hx hb hts hinX9 hown hK hP 0 rfl rfl 31 (by decide) (hts (.fieldLink RX9 190 "TaleReaderModel" "pins" "I") (uc25 _ (List.mem_of_getElem? (i := 7) rfl))) (fun _ h9 => h9) rfl dX9_look_152 ?_
      have hP9 := hP.sub (ws' := []) [] rfl
      have hD9 := hD.sub (ws' := []) [] (by decide) rfl
      exact W.iret (v := 0) hx hb hr (fun t ht hW => ⟨⟨0, (), rfl, (if_neg (by decide)).symm, ⟨by rw [ht]; exact hP9, va_K.moved hW.alike hK, hD9⟩⟩, hS.F ht⟩) hS.2.2 dX9_look_155
    · refine lv_tableIn (tgt := 156) hx hb dX9_look_3 (by decide) (by decide) rfl (by decide) ?_
      refine lv_aload_n hx hb dX9_look_156 rfl (lv_at hl 1 rfl) ?_
      refine va_get (D := D) (ci := 9) (v := .int 0) (C := RX9) (T := TX9) (N := 34) hx hb hts hinX9 hown hK hP 0 rfl rfl 10 (by decide) (hts (.fieldLink RX9 132 "TaleReaderModel" "toldMany" "I") (uc27 _ (List.mem_of_getElem? (i := 17) rfl))) (fun _ h9 => h9) rfl dX9_look_157 ?_
      have hP9 := hP.sub (ws' := []) [] rfl
      have hD9 := hD.sub (ws' := []) [] (by decide) rfl
      exact W.iret (v := 0) hx hb hr (fun t ht hW => ⟨⟨0, (), rfl, (if_neg (by decide)).symm, ⟨by rw [ht]; exact hP9, va_K.moved hW.alike hK, hD9⟩⟩, hS.F ht⟩) hS.2.2 dX9_look_160
set_option maxHeartbeats 4000000 in
set_option maxRecDepth 100000 in
theorem c_X9_isMention_0 (l : Launch) (D : va_G) (cB cI cZ : ClassId) (sz : Nat) (h0 : Nat) (b0 : Nat) (b1 : Nat) (b6 : Nat) (b7 : Nat) (b8 : Nat) (b9 : Nat) (b11 : Nat) (b12 : Nat) (b13 : Nat) (b18 : Nat) (b19 : Nat) (b20 : Nat) (b21 : Nat) (b22 : Nat) (b23 : Nat) (b24 : Nat) (b25 : Nat) (b26 : Nat) (b27 : Nat) (b28 : Nat) (b29 : Nat) (b30 : Nat) (b32 : Nat) (b33 : Nat) (k : Int32) : Met l yX9_isMention (.code yX9_isMention cX9_isMention 2 (some .boolean) :: wsL_law) ({ frames := 1, cells := 0, slots := 0, locals := 22 } : Room) (va_Pc [.ref h0, .int k] (pIn D (pT cB cI cZ) sz [(h0, .inr (9, [.ref b0, .ref b1, .int 0, .int 0, .int 0, .int 0, .ref b6, .ref b7, .ref b8, .ref b9, .int 0, .ref b11, .ref b12, .ref b13, .int 0, .int 0, .int 0, .int 0, .ref b18, .ref b19, .ref b20, .ref b21, .ref b22, .ref b23, .ref b24, .ref b25, .ref b26, .ref b27, .ref b28, .ref b29, .ref b30, .int 0, .ref b32, .ref b33]))])) (va_Qi (fun (r : Int32) (u : Unit) => r = 0) (fun (u : Unit) (t : State) => pAt D (pT cB cI cZ) (va_A [(h0, .inr (9, [.ref b0, .ref b1, .int 0, .int 0, .int 0, .int 0, .ref b6, .ref b7, .ref b8, .ref b9, .int 0, .ref b11, .ref b12, .ref b13, .int 0, .int 0, .int 0, .int 0, .ref b18, .ref b19, .ref b20, .ref b21, .ref b22, .ref b23, .ref b24, .ref b25, .ref b26, .ref b27, .ref b28, .ref b29, .ref b30, .int 0, .ref b32, .ref b33]))] sz) [(h0, .inr (9, [.ref b0, .ref b1, .int 0, .int 0, .int 0, .int 0, .ref b6, .ref b7, .ref b8, .ref b9, .int 0, .ref b11, .ref b12, .ref b13, .int 0, .int 0, .int 0, .int 0, .ref b18, .ref b19, .ref b20, .ref b21, .ref b22, .ref b23, .ref b24, .ref b25, .ref b26, .ref b27, .ref b28, .ref b29, .ref b30, .int 0, .ref b32, .ref b33]))] t) (va_A [(h0, .inr (9, [.ref b0, .ref b1, .int 0, .int 0, .int 0, .int 0, .ref b6, .ref b7, .ref b8, .ref b9, .int 0, .ref b11, .ref b12, .ref b13, .int 0, .int 0, .int 0, .int 0, .ref b18, .ref b19, .ref b20, .ref b21, .ref b22, .ref b23, .ref b24, .ref b25, .ref b26, .ref b27, .ref b28, .ref b29, .ref b30, .int 0, .ref b32, .ref b33]))] sz)) 0 0 (va_A [(h0, .inr (9, [.ref b0, .ref b1, .int 0, .int 0, .int 0, .int 0, .ref b6, .ref b7, .ref b8, .ref b9, .int 0, .ref b11, .ref b12, .ref b13, .int 0, .int 0, .int 0, .int 0, .ref b18, .ref b19, .ref b20, .ref b21, .ref b22, .ref b23, .ref b24, .ref b25, .ref b26, .ref b27, .ref b28, .ref b29, .ref b30, .int 0, .ref b32, .ref b33]))] sz) := by
  refine Met.ofW (cc := cX9_isMention) (maxL := 2) (ret := (some .boolean)) (by decide) rfl ?_
  intro p e s m args below meth c s₁ B hml hv
  obtain ⟨rfl, hsz, hP, hK, hD0⟩ := hv
  have hx := B.exec
  have hb := B.bytes
  have hr := B.returns
  have hts0 := atoms_spec (ws := .code yX9_isMention cX9_isMention 2 (some .boolean) :: wsL_law) B.pre
  have hts := fun (w : Cond) (h : w ∈ wsL_law) => hts0 w (List.mem_cons_of_mem _ h)
  have hown : s.vm.findClass RX9 = some m.cls := findClass_of_methodNamed B.named
  have hlocks := B.notSynchronized
  have hinX9 := inlX9
  subst hsz
  have hD := hD0.self (sz := s.heap.size)
  generalize hAe : va_A [(h0, .inr (9, [.ref b0, .ref b1, .int 0, .int 0, .int 0, .int 0, .ref b6, .ref b7, .ref b8, .ref b9, .int 0, .ref b11, .ref b12, .ref b13, .int 0, .int 0, .int 0, .int 0, .ref b18, .ref b19, .ref b20, .ref b21, .ref b22, .ref b23, .ref b24, .ref b25, .ref b26, .ref b27, .ref b28, .ref b29, .ref b30, .int 0, .ref b32, .ref b33]))] s.heap.size = A at hD ⊢
  have hA : ∀ q : Nat, s.heap.size ≤ q → A q := fun q h => by rw [← hAe]; exact Or.inr h
  have hS : va_S A s.heap s.heap [] := va_S.rf
  have hP : va_P D vwCl [(h0, .inr (9, [.ref b0, .ref b1, .int 0, .int 0, .int 0, .int 0, .ref b6, .ref b7, .ref b8, .ref b9, .int 0, .ref b11, .ref b12, .ref b13, .int 0, .int 0, .int 0, .int 0, .ref b18, .ref b19, .ref b20, .ref b21, .ref b22, .ref b23, .ref b24, .ref b25, .ref b26, .ref b27, .ref b28, .ref b29, .ref b30, .int 0, .ref b32, .ref b33]))] s.heap := hP
  have hl := lv_entry ([.ref h0, .int k]) (n := 2) (Nat.le_of_ble_eq_true rfl)
  rw [lg_entry_eq]
  generalize (lg_sl ([.ref h0, .int k]) ++ List.replicate (2 - (lg_sl ([.ref h0, .int k])).length) Slot.unset).toArray = ls at hl ⊢
  have hl : lv_has ls 2 [(0, .ref h0), (1, .int k)] := hl
  refine lv_iload_n hx hb dX9_isMention_0 rfl (lv_at hl 1 rfl) ?_
  refine lv_iconst (v := 0) hx hb dX9_isMention_1 (by decide) ?_
  refine lv_aload_n hx hb dX9_isMention_2 rfl (lv_at hl 0 rfl) ?_
  refine va_get (D := D) (ci := 9) (v := .int 0) (C := RX9) (T := TX9) (N := 34) hx hb hts hinX9 hown hK hP 0 rfl rfl 14 (by decide) (hts (.fieldLink RX9 157 "TaleReaderModel" "mentions" "I") (uc25 _ (List.mem_of_getElem? (i := 8) rfl))) (fun _ h9 => h9) rfl dX9_isMention_3 ?_
  refine lv_iconst (v := 1) hx hb dX9_isMention_6 (by decide) ?_
  refine lv_isub hx hb dX9_isMention_7 ?_
  refine lv_topi (fun z_1 ez_1 => ?_)
  obtain rfl : z_1 = (-1) := ez_1.trans (by decide)
  have hPc := hP.sub (ws' := []) [] rfl
  have hDc := hD.sub (ws' := []) [] (by decide) rfl
  have hFc := va_free (wc := []) hD hS hA [] rfl
  refine va_calli (va_runS (As := [.int k, .int 0, .int (-1)]) (rest := []) ⟨hx, hb, hml, hown, hts⟩ (c_X9_isIn l D cB cI cZ s.heap.size k 0 (-1)) (va_cwS 3 hts (uS (uc9 _ (List.mem_of_getElem? (i := 2) rfl)) (uc9 _ (List.mem_of_getElem? (i := 3) rfl)) (uc1 _ (List.mem_of_getElem? (i := 5) rfl)) (uc9 _ (List.mem_of_getElem? (i := 4) rfl))) rfl rfl rfl (by decide +kernel) ⟨Nat.le_of_ble_eq_true rfl, Nat.le_of_ble_eq_true rfl⟩) (pS hK hPc hDc) rfl rfl hl.1 rfl (lv_room (Nat.le_of_ble_eq_true rfl)) dX9_isMention_8 ⟨Nat.le_of_ble_eq_true rfl, Nat.le_of_ble_eq_true rfl⟩) hS (fun q _ h => hFc q h) hFc (fun r_2 u t H_3 L_4 ht hvm hw hB hz1 hk1 hS => ?_)
  obtain ⟨hP1, -, hD1⟩ := hB
  rw [ht] at hP1
  obtain ⟨hP, hD⟩ := va_join (wr := [(h0, .inr (9, [.ref b0, .ref b1, .int 0, .int 0, .int 0, .int 0, .ref b6, .ref b7, .ref b8, .ref b9, .int 0, .ref b11, .ref b12, .ref b13, .int 0, .int 0, .int 0, .int 0, .ref b18, .ref b19, .ref b20, .ref b21, .ref b22, .ref b23, .ref b24, .ref b25, .ref b26, .ref b27, .ref b28, .ref b29, .ref b30, .int 0, .ref b32, .ref b33]))]) (w1 := []) hP hD [] [0] rfl rfl (by decide) (by decide) hk1 hFc hP1 hD1
  have hP : va_P D vwCl [(h0, .inr (9, [.ref b0, .ref b1, .int 0, .int 0, .int 0, .int 0, .ref b6, .ref b7, .ref b8, .ref b9, .int 0, .ref b11, .ref b12, .ref b13, .int 0, .int 0, .int 0, .int 0, .ref b18, .ref b19, .ref b20, .ref b21, .ref b22, .ref b23, .ref b24, .ref b25, .ref b26, .ref b27, .ref b28, .ref b29, .ref b30, .int 0, .ref b32, .ref b33]))] H_3 := hP.sub [0] rfl
  have hD : va_D A [(h0, .inr (9, [.ref b0, .ref b1, .int 0, .int 0, .int 0, .int 0, .ref b6, .ref b7, .ref b8, .ref b9, .int 0, .ref b11, .ref b12, .ref b13, .int 0, .int 0, .int 0, .int 0, .ref b18, .ref b19, .ref b20, .ref b21, .ref b22, .ref b23, .ref b24, .ref b25, .ref b26, .ref b27, .ref b28, .ref b29, .ref b30, .int 0, .ref b32, .ref b33]))] := hD.sub [0] (by decide) rfl
  try dsimp only at hw
  rcases hw with ⟨rfl, h_5⟩ | ⟨rfl, h_6, h_7⟩
  · have hP9 := hP.sub (ws' := [(h0, .inr (9, [.ref b0, .ref b1, .int 0, .int 0, .int 0, .int 0, .ref b6, .ref b7, .ref b8, .ref b9, .int 0, .ref b11, .ref b12, .ref b13, .int 0, .int 0, .int 0, .int 0, .ref b18, .ref b19, .ref b20, .ref b21, .ref b22, .ref b23, .ref b24, .ref b25, .ref b26, .ref b27, .ref b28, .ref b29, .ref b30, .int 0, .ref b32, .ref b33]))]) [0] rfl
    have hD9 := hD.sub (ws' := [(h0, .inr (9, [.ref b0, .ref b1, .int 0, .int 0, .int 0, .int 0, .ref b6, .ref b7, .ref b8, .ref b9, .int 0, .ref b11, .ref b12, .ref b13, .int 0, .int 0, .int 0, .int 0, .ref b18, .ref b19, .ref b20, .ref b21, .ref b22, .ref b23, .ref b24, .ref b25, .ref b26, .ref b27, .ref b28, .ref b29, .ref b30, .int 0, .ref b32, .ref b33]))]) [0] (by decide) rfl
    exact W.zret (v := 0) hx hb hr (rfl) (fun t ht hW => ⟨⟨0, (), rfl, rfl, ⟨by rw [ht]; exact hP9, va_K.moved hW.alike hK, hD9⟩⟩, hS.F ht⟩) hS.2.2 dX9_isMention_11
  · exact False.elim (by exact pE0 h_6 h_7)
set_option maxHeartbeats 4000000 in
set_option maxRecDepth 100000 in
theorem c_X9_isPerson_0 (l : Launch) (D : va_G) (cB cI cZ : ClassId) (sz : Nat) (h0 : Nat) (b0 : Nat) (b1 : Nat) (b6 : Nat) (b7 : Nat) (b8 : Nat) (b9 : Nat) (b11 : Nat) (b12 : Nat) (b13 : Nat) (b18 : Nat) (b19 : Nat) (b20 : Nat) (b21 : Nat) (b22 : Nat) (b23 : Nat) (b24 : Nat) (b25 : Nat) (b26 : Nat) (b27 : Nat) (b28 : Nat) (b29 : Nat) (b30 : Nat) (b32 : Nat) (b33 : Nat) (k : Int32) : Met l yX9_isPerson (.code yX9_isPerson cX9_isPerson 2 (some .boolean) :: wsL_law) ({ frames := 1, cells := 0, slots := 0, locals := 22 } : Room) (va_Pc [.ref h0, .int k] (pIn D (pT cB cI cZ) sz [(h0, .inr (9, [.ref b0, .ref b1, .int 0, .int 0, .int 0, .int 0, .ref b6, .ref b7, .ref b8, .ref b9, .int 0, .ref b11, .ref b12, .ref b13, .int 0, .int 0, .int 0, .int 0, .ref b18, .ref b19, .ref b20, .ref b21, .ref b22, .ref b23, .ref b24, .ref b25, .ref b26, .ref b27, .ref b28, .ref b29, .ref b30, .int 0, .ref b32, .ref b33]))])) (va_Qi (fun (r : Int32) (u : Unit) => r = 0) (fun (u : Unit) (t : State) => pAt D (pT cB cI cZ) (va_A [(h0, .inr (9, [.ref b0, .ref b1, .int 0, .int 0, .int 0, .int 0, .ref b6, .ref b7, .ref b8, .ref b9, .int 0, .ref b11, .ref b12, .ref b13, .int 0, .int 0, .int 0, .int 0, .ref b18, .ref b19, .ref b20, .ref b21, .ref b22, .ref b23, .ref b24, .ref b25, .ref b26, .ref b27, .ref b28, .ref b29, .ref b30, .int 0, .ref b32, .ref b33]))] sz) [(h0, .inr (9, [.ref b0, .ref b1, .int 0, .int 0, .int 0, .int 0, .ref b6, .ref b7, .ref b8, .ref b9, .int 0, .ref b11, .ref b12, .ref b13, .int 0, .int 0, .int 0, .int 0, .ref b18, .ref b19, .ref b20, .ref b21, .ref b22, .ref b23, .ref b24, .ref b25, .ref b26, .ref b27, .ref b28, .ref b29, .ref b30, .int 0, .ref b32, .ref b33]))] t) (va_A [(h0, .inr (9, [.ref b0, .ref b1, .int 0, .int 0, .int 0, .int 0, .ref b6, .ref b7, .ref b8, .ref b9, .int 0, .ref b11, .ref b12, .ref b13, .int 0, .int 0, .int 0, .int 0, .ref b18, .ref b19, .ref b20, .ref b21, .ref b22, .ref b23, .ref b24, .ref b25, .ref b26, .ref b27, .ref b28, .ref b29, .ref b30, .int 0, .ref b32, .ref b33]))] sz)) 0 0 (va_A [(h0, .inr (9, [.ref b0, .ref b1, .int 0, .int 0, .int 0, .int 0, .ref b6, .ref b7, .ref b8, .ref b9, .int 0, .ref b11, .ref b12, .ref b13, .int 0, .int 0, .int 0, .int 0, .ref b18, .ref b19, .ref b20, .ref b21, .ref b22, .ref b23, .ref b24, .ref b25, .ref b26, .ref b27, .ref b28, .ref b29, .ref b30, .int 0, .ref b32, .ref b33]))] sz) := by
  refine Met.ofW (cc := cX9_isPerson) (maxL := 2) (ret := (some .boolean)) (by decide) rfl ?_
  intro p e s m args below meth c s₁ B hml hv
  obtain ⟨rfl, hsz, hP, hK, hD0⟩ := hv
  have hx := B.exec
  have hb := B.bytes
  have hr := B.returns
  have hts0 := atoms_spec (ws := .code yX9_isPerson cX9_isPerson 2 (some .boolean) :: wsL_law) B.pre
  have hts := fun (w : Cond) (h : w ∈ wsL_law) => hts0 w (List.mem_cons_of_mem _ h)
  have hown : s.vm.findClass RX9 = some m.cls := findClass_of_methodNamed B.named
  have hlocks := B.notSynchronized
  have hinX9 := inlX9
  subst hsz
  have hD := hD0.self (sz := s.heap.size)
  generalize hAe : va_A [(h0, .inr (9, [.ref b0, .ref b1, .int 0, .int 0, .int 0, .int 0, .ref b6, .ref b7, .ref b8, .ref b9, .int 0, .ref b11, .ref b12, .ref b13, .int 0, .int 0, .int 0, .int 0, .ref b18, .ref b19, .ref b20, .ref b21, .ref b22, .ref b23, .ref b24, .ref b25, .ref b26, .ref b27, .ref b28, .ref b29, .ref b30, .int 0, .ref b32, .ref b33]))] s.heap.size = A at hD ⊢
  have hA : ∀ q : Nat, s.heap.size ≤ q → A q := fun q h => by rw [← hAe]; exact Or.inr h
  have hS : va_S A s.heap s.heap [] := va_S.rf
  have hP : va_P D vwCl [(h0, .inr (9, [.ref b0, .ref b1, .int 0, .int 0, .int 0, .int 0, .ref b6, .ref b7, .ref b8, .ref b9, .int 0, .ref b11, .ref b12, .ref b13, .int 0, .int 0, .int 0, .int 0, .ref b18, .ref b19, .ref b20, .ref b21, .ref b22, .ref b23, .ref b24, .ref b25, .ref b26, .ref b27, .ref b28, .ref b29, .ref b30, .int 0, .ref b32, .ref b33]))] s.heap := hP
  have hl := lv_entry ([.ref h0, .int k]) (n := 2) (Nat.le_of_ble_eq_true rfl)
  rw [lg_entry_eq]
  generalize (lg_sl ([.ref h0, .int k]) ++ List.replicate (2 - (lg_sl ([.ref h0, .int k])).length) Slot.unset).toArray = ls at hl ⊢
  have hl : lv_has ls 2 [(0, .ref h0), (1, .int k)] := hl
  refine lv_iload_n hx hb dX9_isPerson_0 rfl (lv_at hl 1 rfl) ?_
  refine lv_iconst (v := 0) hx hb dX9_isPerson_1 (by decide) ?_
  refine lv_aload_n hx hb dX9_isPerson_2 rfl (lv_at hl 0 rfl) ?_
  refine va_get (D := D) (ci := 9) (v := .int 0) (C := RX9) (T := TX9) (N := 34) hx hb hts hinX9 hown hK hP 0 rfl rfl 15 (by decide) (hts (.fieldLink RX9 167 "TaleReaderModel" "persons" "I") (uc26 _ (List.mem_of_getElem? (i := 4) rfl))) (fun _ h9 => h9) rfl dX9_isPerson_3 ?_
  refine lv_iconst (v := 1) hx hb dX9_isPerson_6 (by decide) ?_
  refine lv_isub hx hb dX9_isPerson_7 ?_
  refine lv_topi (fun z_1 ez_1 => ?_)
  obtain rfl : z_1 = (-1) := ez_1.trans (by decide)
  have hPc := hP.sub (ws' := []) [] rfl
  have hDc := hD.sub (ws' := []) [] (by decide) rfl
  have hFc := va_free (wc := []) hD hS hA [] rfl
  refine va_calli (va_runS (As := [.int k, .int 0, .int (-1)]) (rest := []) ⟨hx, hb, hml, hown, hts⟩ (c_X9_isIn l D cB cI cZ s.heap.size k 0 (-1)) (va_cwS 3 hts (uS (uc9 _ (List.mem_of_getElem? (i := 2) rfl)) (uc9 _ (List.mem_of_getElem? (i := 3) rfl)) (uc1 _ (List.mem_of_getElem? (i := 5) rfl)) (uc9 _ (List.mem_of_getElem? (i := 4) rfl))) rfl rfl rfl (by decide +kernel) ⟨Nat.le_of_ble_eq_true rfl, Nat.le_of_ble_eq_true rfl⟩) (pS hK hPc hDc) rfl rfl hl.1 rfl (lv_room (Nat.le_of_ble_eq_true rfl)) dX9_isPerson_8 ⟨Nat.le_of_ble_eq_true rfl, Nat.le_of_ble_eq_true rfl⟩) hS (fun q _ h => hFc q h) hFc (fun r_2 u t H_3 L_4 ht hvm hw hB hz1 hk1 hS => ?_)
  obtain ⟨hP1, -, hD1⟩ := hB
  rw [ht] at hP1
  obtain ⟨hP, hD⟩ := va_join (wr := [(h0, .inr (9, [.ref b0, .ref b1, .int 0, .int 0, .int 0, .int 0, .ref b6, .ref b7, .ref b8, .ref b9, .int 0, .ref b11, .ref b12, .ref b13, .int 0, .int 0, .int 0, .int 0, .ref b18, .ref b19, .ref b20, .ref b21, .ref b22, .ref b23, .ref b24, .ref b25, .ref b26, .ref b27, .ref b28, .ref b29, .ref b30, .int 0, .ref b32, .ref b33]))]) (w1 := []) hP hD [] [0] rfl rfl (by decide) (by decide) hk1 hFc hP1 hD1
  have hP : va_P D vwCl [(h0, .inr (9, [.ref b0, .ref b1, .int 0, .int 0, .int 0, .int 0, .ref b6, .ref b7, .ref b8, .ref b9, .int 0, .ref b11, .ref b12, .ref b13, .int 0, .int 0, .int 0, .int 0, .ref b18, .ref b19, .ref b20, .ref b21, .ref b22, .ref b23, .ref b24, .ref b25, .ref b26, .ref b27, .ref b28, .ref b29, .ref b30, .int 0, .ref b32, .ref b33]))] H_3 := hP.sub [0] rfl
  have hD : va_D A [(h0, .inr (9, [.ref b0, .ref b1, .int 0, .int 0, .int 0, .int 0, .ref b6, .ref b7, .ref b8, .ref b9, .int 0, .ref b11, .ref b12, .ref b13, .int 0, .int 0, .int 0, .int 0, .ref b18, .ref b19, .ref b20, .ref b21, .ref b22, .ref b23, .ref b24, .ref b25, .ref b26, .ref b27, .ref b28, .ref b29, .ref b30, .int 0, .ref b32, .ref b33]))] := hD.sub [0] (by decide) rfl
  try dsimp only at hw
  rcases hw with ⟨rfl, h_5⟩ | ⟨rfl, h_6, h_7⟩
  · have hP9 := hP.sub (ws' := [(h0, .inr (9, [.ref b0, .ref b1, .int 0, .int 0, .int 0, .int 0, .ref b6, .ref b7, .ref b8, .ref b9, .int 0, .ref b11, .ref b12, .ref b13, .int 0, .int 0, .int 0, .int 0, .ref b18, .ref b19, .ref b20, .ref b21, .ref b22, .ref b23, .ref b24, .ref b25, .ref b26, .ref b27, .ref b28, .ref b29, .ref b30, .int 0, .ref b32, .ref b33]))]) [0] rfl
    have hD9 := hD.sub (ws' := [(h0, .inr (9, [.ref b0, .ref b1, .int 0, .int 0, .int 0, .int 0, .ref b6, .ref b7, .ref b8, .ref b9, .int 0, .ref b11, .ref b12, .ref b13, .int 0, .int 0, .int 0, .int 0, .ref b18, .ref b19, .ref b20, .ref b21, .ref b22, .ref b23, .ref b24, .ref b25, .ref b26, .ref b27, .ref b28, .ref b29, .ref b30, .int 0, .ref b32, .ref b33]))]) [0] (by decide) rfl
    exact W.zret (v := 0) hx hb hr (rfl) (fun t ht hW => ⟨⟨0, (), rfl, rfl, ⟨by rw [ht]; exact hP9, va_K.moved hW.alike hK, hD9⟩⟩, hS.F ht⟩) hS.2.2 dX9_isPerson_11
  · exact False.elim (by exact pE0 h_6 h_7)
set_option maxHeartbeats 4000000 in
set_option maxRecDepth 100000 in
theorem c_X9_mention_0 (l : Launch) (D : va_G) (cB cI cZ : ClassId) (sz : Nat) (h0 : Nat) (b0 : Nat) (b1 : Nat) (b6 : Nat) (b7 : Nat) (b8 : Nat) (b9 : Nat) (b11 : Nat) (b12 : Nat) (b13 : Nat) (b18 : Nat) (b19 : Nat) (b20 : Nat) (b21 : Nat) (b22 : Nat) (b23 : Nat) (b24 : Nat) (b25 : Nat) (b26 : Nat) (b27 : Nat) (b28 : Nat) (b29 : Nat) (b30 : Nat) (b32 : Nat) (b33 : Nat) (k : Int32) (k2 : Int32) : Met l yX9_mention (.code yX9_mention cX9_mention 3 (some .int) :: wsL_law) ({ frames := 2, cells := 0, slots := 0, locals := 43 } : Room) (va_Pc [.ref h0, .int k, .int k2] (pIn D (pT cB cI cZ) sz [(h0, .inr (9, [.ref b0, .ref b1, .int 0, .int 0, .int 0, .int 0, .ref b6, .ref b7, .ref b8, .ref b9, .int 0, .ref b11, .ref b12, .ref b13, .int 0, .int 0, .int 0, .int 0, .ref b18, .ref b19, .ref b20, .ref b21, .ref b22, .ref b23, .ref b24, .ref b25, .ref b26, .ref b27, .ref b28, .ref b29, .ref b30, .int 0, .ref b32, .ref b33]))])) (va_Qi (fun (r : Int32) (u : Unit) => r = (-1)) (fun (u : Unit) (t : State) => pAt D (pT cB cI cZ) (va_A [(h0, .inr (9, [.ref b0, .ref b1, .int 0, .int 0, .int 0, .int 0, .ref b6, .ref b7, .ref b8, .ref b9, .int 0, .ref b11, .ref b12, .ref b13, .int 0, .int 0, .int 0, .int 0, .ref b18, .ref b19, .ref b20, .ref b21, .ref b22, .ref b23, .ref b24, .ref b25, .ref b26, .ref b27, .ref b28, .ref b29, .ref b30, .int 0, .ref b32, .ref b33]))] sz) [] t) (va_A [(h0, .inr (9, [.ref b0, .ref b1, .int 0, .int 0, .int 0, .int 0, .ref b6, .ref b7, .ref b8, .ref b9, .int 0, .ref b11, .ref b12, .ref b13, .int 0, .int 0, .int 0, .int 0, .ref b18, .ref b19, .ref b20, .ref b21, .ref b22, .ref b23, .ref b24, .ref b25, .ref b26, .ref b27, .ref b28, .ref b29, .ref b30, .int 0, .ref b32, .ref b33]))] sz)) 0 0 (va_A [(h0, .inr (9, [.ref b0, .ref b1, .int 0, .int 0, .int 0, .int 0, .ref b6, .ref b7, .ref b8, .ref b9, .int 0, .ref b11, .ref b12, .ref b13, .int 0, .int 0, .int 0, .int 0, .ref b18, .ref b19, .ref b20, .ref b21, .ref b22, .ref b23, .ref b24, .ref b25, .ref b26, .ref b27, .ref b28, .ref b29, .ref b30, .int 0, .ref b32, .ref b33]))] sz) := by
  refine Met.ofW (cc := cX9_mention) (maxL := 3) (ret := (some .int)) (by decide) rfl ?_
  intro p e s m args below meth c s₁ B hml hv
  obtain ⟨rfl, hsz, hP, hK, hD0⟩ := hv
  have hx := B.exec
  have hb := B.bytes
  have hr := B.returns
  have hts0 := atoms_spec (ws := .code yX9_mention cX9_mention 3 (some .int) :: wsL_law) B.pre
  have hts := fun (w : Cond) (h : w ∈ wsL_law) => hts0 w (List.mem_cons_of_mem _ h)
  have hown : s.vm.findClass RX9 = some m.cls := findClass_of_methodNamed B.named
  have hlocks := B.notSynchronized
  subst hsz
  have hD := hD0.self (sz := s.heap.size)
  generalize hAe : va_A [(h0, .inr (9, [.ref b0, .ref b1, .int 0, .int 0, .int 0, .int 0, .ref b6, .ref b7, .ref b8, .ref b9, .int 0, .ref b11, .ref b12, .ref b13, .int 0, .int 0, .int 0, .int 0, .ref b18, .ref b19, .ref b20, .ref b21, .ref b22, .ref b23, .ref b24, .ref b25, .ref b26, .ref b27, .ref b28, .ref b29, .ref b30, .int 0, .ref b32, .ref b33]))] s.heap.size = A at hD ⊢
  have hA : ∀ q : Nat, s.heap.size ≤ q → A q := fun q h => by rw [← hAe]; exact Or.inr h
  have hS : va_S A s.heap s.heap [] := va_S.rf
  have hP : va_P D vwCl [(h0, .inr (9, [.ref b0, .ref b1, .int 0, .int 0, .int 0, .int 0, .ref b6, .ref b7, .ref b8, .ref b9, .int 0, .ref b11, .ref b12, .ref b13, .int 0, .int 0, .int 0, .int 0, .ref b18, .ref b19, .ref b20, .ref b21, .ref b22, .ref b23, .ref b24, .ref b25, .ref b26, .ref b27, .ref b28, .ref b29, .ref b30, .int 0, .ref b32, .ref b33]))] s.heap := hP
  have hl := lv_entry ([.ref h0, .int k, .int k2]) (n := 3) (Nat.le_of_ble_eq_true rfl)
  rw [lg_entry_eq]
  generalize (lg_sl ([.ref h0, .int k, .int k2]) ++ List.replicate (3 - (lg_sl ([.ref h0, .int k, .int k2])).length) Slot.unset).toArray = ls at hl ⊢
  have hl : lv_has ls 3 [(0, .ref h0), (1, .int k), (2, .int k2)] := hl
  refine lv_aload_n hx hb dX9_mention_0 rfl (lv_at hl 0 rfl) ?_
  refine lv_iload_n hx hb dX9_mention_1 rfl (lv_at hl 1 rfl) ?_
  have hPc := hP.sub (ws' := [(h0, .inr (9, [.ref b0, .ref b1, .int 0, .int 0, .int 0, .int 0, .ref b6, .ref b7, .ref b8, .ref b9, .int 0, .ref b11, .ref b12, .ref b13, .int 0, .int 0, .int 0, .int 0, .ref b18, .ref b19, .ref b20, .ref b21, .ref b22, .ref b23, .ref b24, .ref b25, .ref b26, .ref b27, .ref b28, .ref b29, .ref b30, .int 0, .ref b32, .ref b33]))]) [0] rfl
  have hDc := hD.sub (ws' := [(h0, .inr (9, [.ref b0, .ref b1, .int 0, .int 0, .int 0, .int 0, .ref b6, .ref b7, .ref b8, .ref b9, .int 0, .ref b11, .ref b12, .ref b13, .int 0, .int 0, .int 0, .int 0, .ref b18, .ref b19, .ref b20, .ref b21, .ref b22, .ref b23, .ref b24, .ref b25, .ref b26, .ref b27, .ref b28, .ref b29, .ref b30, .int 0, .ref b32, .ref b33]))]) [0] (by decide) rfl
  have hFc := va_free (wc := [(h0, .inr (9, [.ref b0, .ref b1, .int 0, .int 0, .int 0, .int 0, .ref b6, .ref b7, .ref b8, .ref b9, .int 0, .ref b11, .ref b12, .ref b13, .int 0, .int 0, .int 0, .int 0, .ref b18, .ref b19, .ref b20, .ref b21, .ref b22, .ref b23, .ref b24, .ref b25, .ref b26, .ref b27, .ref b28, .ref b29, .ref b30, .int 0, .ref b32, .ref b33]))]) hD hS hA [0] rfl
  refine va_calli (va_runV (As := [.int k]) (rest := []) ⟨hx, hb, hml, hown, hts⟩ (c_X9_isMention_0 l D cB cI cZ s.heap.size h0 b0 b1 b6 b7 b8 b9 b11 b12 b13 b18 b19 b20 b21 b22 b23 b24 b25 b26 b27 b28 b29 b30 b32 b33 k) (cwV 1 hts (uV (uc36 _ (List.mem_of_getElem? (i := 10) rfl)) (uc36 _ (List.mem_of_getElem? (i := 11) rfl)) (uc36 _ (List.mem_of_getElem? (i := 12) rfl)) (uc1 _ (List.mem_of_getElem? (i := 5) rfl)) (uc36 _ (List.mem_of_getElem? (i := 13) rfl))) rfl rfl rfl (by decide +kernel) ⟨Nat.le_of_ble_eq_true rfl, Nat.le_of_ble_eq_true rfl⟩) (pV hK hPc hDc 0 rfl rfl) rfl rfl hl.1 rfl (lv_room (Nat.le_of_ble_eq_true rfl)) dX9_mention_2 ⟨Nat.le_of_ble_eq_true rfl, Nat.le_of_ble_eq_true rfl⟩) hS (fun q _ h => hFc q h) hFc (fun r_1 u t H_2 L_3 ht hvm hw hB hz1 hk1 hS => ?_)
  obtain ⟨hP1, -, hD1⟩ := hB
  rw [ht] at hP1
  obtain ⟨hP, hD⟩ := va_join (wr := []) (w1 := [(h0, .inr (9, [.ref b0, .ref b1, .int 0, .int 0, .int 0, .int 0, .ref b6, .ref b7, .ref b8, .ref b9, .int 0, .ref b11, .ref b12, .ref b13, .int 0, .int 0, .int 0, .int 0, .ref b18, .ref b19, .ref b20, .ref b21, .ref b22, .ref b23, .ref b24, .ref b25, .ref b26, .ref b27, .ref b28, .ref b29, .ref b30, .int 0, .ref b32, .ref b33]))]) hP hD [0] [] rfl rfl (by decide) (by decide) hk1 hFc hP1 hD1
  have hP : va_P D vwCl [(h0, .inr (9, [.ref b0, .ref b1, .int 0, .int 0, .int 0, .int 0, .ref b6, .ref b7, .ref b8, .ref b9, .int 0, .ref b11, .ref b12, .ref b13, .int 0, .int 0, .int 0, .int 0, .ref b18, .ref b19, .ref b20, .ref b21, .ref b22, .ref b23, .ref b24, .ref b25, .ref b26, .ref b27, .ref b28, .ref b29, .ref b30, .int 0, .ref b32, .ref b33]))] H_2 := hP.sub [0] rfl
  have hD : va_D A [(h0, .inr (9, [.ref b0, .ref b1, .int 0, .int 0, .int 0, .int 0, .ref b6, .ref b7, .ref b8, .ref b9, .int 0, .ref b11, .ref b12, .ref b13, .int 0, .int 0, .int 0, .int 0, .ref b18, .ref b19, .ref b20, .ref b21, .ref b22, .ref b23, .ref b24, .ref b25, .ref b26, .ref b27, .ref b28, .ref b29, .ref b30, .int 0, .ref b32, .ref b33]))] := hD.sub [0] (by decide) rfl
  try dsimp only at hw
  subst hw
  refine lv_if_ne (tgt := 10) hx hb dX9_mention_5 (by decide) (fun c_4 => ?_) (fun c_4 => ?_)
  · exact False.elim (by revert c_4; decide)
  · refine lv_iconst (v := (-1)) hx hb dX9_mention_8 (by decide) ?_
    have hP9 := hP.sub (ws' := []) [] rfl
    have hD9 := hD.sub (ws' := []) [] (by decide) rfl
    exact W.iret (v := (-1)) hx hb hr (fun t ht hW => ⟨⟨(-1), (), rfl, rfl, ⟨by rw [ht]; exact hP9, va_K.moved hW.alike hK, hD9⟩⟩, hS.F ht⟩) hS.2.2 dX9_mention_9
set_option maxHeartbeats 4000000 in
set_option maxRecDepth 100000 in
theorem c_X9_person_0 (l : Launch) (D : va_G) (cB cI cZ : ClassId) (sz : Nat) (h0 : Nat) (b0 : Nat) (b1 : Nat) (b6 : Nat) (b7 : Nat) (b8 : Nat) (b9 : Nat) (b11 : Nat) (b12 : Nat) (b13 : Nat) (b18 : Nat) (b19 : Nat) (b20 : Nat) (b21 : Nat) (b22 : Nat) (b23 : Nat) (b24 : Nat) (b25 : Nat) (b26 : Nat) (b27 : Nat) (b28 : Nat) (b29 : Nat) (b30 : Nat) (b32 : Nat) (b33 : Nat) (k : Int32) (k2 : Int32) : Met l yX9_person (.code yX9_person cX9_person 6 (some .int) :: wsL_law) ({ frames := 2, cells := 0, slots := 0, locals := 43 } : Room) (va_Pc [.ref h0, .int k, .int k2] (pIn D (pT cB cI cZ) sz [(h0, .inr (9, [.ref b0, .ref b1, .int 0, .int 0, .int 0, .int 0, .ref b6, .ref b7, .ref b8, .ref b9, .int 0, .ref b11, .ref b12, .ref b13, .int 0, .int 0, .int 0, .int 0, .ref b18, .ref b19, .ref b20, .ref b21, .ref b22, .ref b23, .ref b24, .ref b25, .ref b26, .ref b27, .ref b28, .ref b29, .ref b30, .int 0, .ref b32, .ref b33]))])) (va_Qi (fun (r : Int32) (u : Unit) => r = (-1)) (fun (u : Unit) (t : State) => pAt D (pT cB cI cZ) (va_A [(h0, .inr (9, [.ref b0, .ref b1, .int 0, .int 0, .int 0, .int 0, .ref b6, .ref b7, .ref b8, .ref b9, .int 0, .ref b11, .ref b12, .ref b13, .int 0, .int 0, .int 0, .int 0, .ref b18, .ref b19, .ref b20, .ref b21, .ref b22, .ref b23, .ref b24, .ref b25, .ref b26, .ref b27, .ref b28, .ref b29, .ref b30, .int 0, .ref b32, .ref b33]))] sz) [] t) (va_A [(h0, .inr (9, [.ref b0, .ref b1, .int 0, .int 0, .int 0, .int 0, .ref b6, .ref b7, .ref b8, .ref b9, .int 0, .ref b11, .ref b12, .ref b13, .int 0, .int 0, .int 0, .int 0, .ref b18, .ref b19, .ref b20, .ref b21, .ref b22, .ref b23, .ref b24, .ref b25, .ref b26, .ref b27, .ref b28, .ref b29, .ref b30, .int 0, .ref b32, .ref b33]))] sz)) 0 0 (va_A [(h0, .inr (9, [.ref b0, .ref b1, .int 0, .int 0, .int 0, .int 0, .ref b6, .ref b7, .ref b8, .ref b9, .int 0, .ref b11, .ref b12, .ref b13, .int 0, .int 0, .int 0, .int 0, .ref b18, .ref b19, .ref b20, .ref b21, .ref b22, .ref b23, .ref b24, .ref b25, .ref b26, .ref b27, .ref b28, .ref b29, .ref b30, .int 0, .ref b32, .ref b33]))] sz) := by
  refine Met.ofW (cc := cX9_person) (maxL := 6) (ret := (some .int)) (by decide) rfl ?_
  intro p e s m args below meth c s₁ B hml hv
  obtain ⟨rfl, hsz, hP, hK, hD0⟩ := hv
  have hx := B.exec
  have hb := B.bytes
  have hr := B.returns
  have hts0 := atoms_spec (ws := .code yX9_person cX9_person 6 (some .int) :: wsL_law) B.pre
  have hts := fun (w : Cond) (h : w ∈ wsL_law) => hts0 w (List.mem_cons_of_mem _ h)
  have hown : s.vm.findClass RX9 = some m.cls := findClass_of_methodNamed B.named
  have hlocks := B.notSynchronized
  subst hsz
  have hD := hD0.self (sz := s.heap.size)
  generalize hAe : va_A [(h0, .inr (9, [.ref b0, .ref b1, .int 0, .int 0, .int 0, .int 0, .ref b6, .ref b7, .ref b8, .ref b9, .int 0, .ref b11, .ref b12, .ref b13, .int 0, .int 0, .int 0, .int 0, .ref b18, .ref b19, .ref b20, .ref b21, .ref b22, .ref b23, .ref b24, .ref b25, .ref b26, .ref b27, .ref b28, .ref b29, .ref b30, .int 0, .ref b32, .ref b33]))] s.heap.size = A at hD ⊢
  have hA : ∀ q : Nat, s.heap.size ≤ q → A q := fun q h => by rw [← hAe]; exact Or.inr h
  have hS : va_S A s.heap s.heap [] := va_S.rf
  have hP : va_P D vwCl [(h0, .inr (9, [.ref b0, .ref b1, .int 0, .int 0, .int 0, .int 0, .ref b6, .ref b7, .ref b8, .ref b9, .int 0, .ref b11, .ref b12, .ref b13, .int 0, .int 0, .int 0, .int 0, .ref b18, .ref b19, .ref b20, .ref b21, .ref b22, .ref b23, .ref b24, .ref b25, .ref b26, .ref b27, .ref b28, .ref b29, .ref b30, .int 0, .ref b32, .ref b33]))] s.heap := hP
  have hl := lv_entry ([.ref h0, .int k, .int k2]) (n := 6) (Nat.le_of_ble_eq_true rfl)
  rw [lg_entry_eq]
  generalize (lg_sl ([.ref h0, .int k, .int k2]) ++ List.replicate (6 - (lg_sl ([.ref h0, .int k, .int k2])).length) Slot.unset).toArray = ls at hl ⊢
  have hl : lv_has ls 6 [(0, .ref h0), (1, .int k), (2, .int k2)] := hl
  refine lv_aload_n hx hb dX9_person_0 rfl (lv_at hl 0 rfl) ?_
  refine lv_iload_n hx hb dX9_person_1 rfl (lv_at hl 1 rfl) ?_
  have hPc := hP.sub (ws' := [(h0, .inr (9, [.ref b0, .ref b1, .int 0, .int 0, .int 0, .int 0, .ref b6, .ref b7, .ref b8, .ref b9, .int 0, .ref b11, .ref b12, .ref b13, .int 0, .int 0, .int 0, .int 0, .ref b18, .ref b19, .ref b20, .ref b21, .ref b22, .ref b23, .ref b24, .ref b25, .ref b26, .ref b27, .ref b28, .ref b29, .ref b30, .int 0, .ref b32, .ref b33]))]) [0] rfl
  have hDc := hD.sub (ws' := [(h0, .inr (9, [.ref b0, .ref b1, .int 0, .int 0, .int 0, .int 0, .ref b6, .ref b7, .ref b8, .ref b9, .int 0, .ref b11, .ref b12, .ref b13, .int 0, .int 0, .int 0, .int 0, .ref b18, .ref b19, .ref b20, .ref b21, .ref b22, .ref b23, .ref b24, .ref b25, .ref b26, .ref b27, .ref b28, .ref b29, .ref b30, .int 0, .ref b32, .ref b33]))]) [0] (by decide) rfl
  have hFc := va_free (wc := [(h0, .inr (9, [.ref b0, .ref b1, .int 0, .int 0, .int 0, .int 0, .ref b6, .ref b7, .ref b8, .ref b9, .int 0, .ref b11, .ref b12, .ref b13, .int 0, .int 0, .int 0, .int 0, .ref b18, .ref b19, .ref b20, .ref b21, .ref b22, .ref b23, .ref b24, .ref b25, .ref b26, .ref b27, .ref b28, .ref b29, .ref b30, .int 0, .ref b32, .ref b33]))]) hD hS hA [0] rfl
  refine va_calli (va_runV (As := [.int k]) (rest := []) ⟨hx, hb, hml, hown, hts⟩ (c_X9_isPerson_0 l D cB cI cZ s.heap.size h0 b0 b1 b6 b7 b8 b9 b11 b12 b13 b18 b19 b20 b21 b22 b23 b24 b25 b26 b27 b28 b29 b30 b32 b33 k) (cwV 1 hts (uV (uc37 _ (List.mem_of_getElem? (i := 12) rfl)) (uc37 _ (List.mem_of_getElem? (i := 13) rfl)) (uc37 _ (List.mem_of_getElem? (i := 14) rfl)) (uc1 _ (List.mem_of_getElem? (i := 5) rfl)) (uc37 _ (List.mem_of_getElem? (i := 15) rfl))) rfl rfl rfl (by decide +kernel) ⟨Nat.le_of_ble_eq_true rfl, Nat.le_of_ble_eq_true rfl⟩) (pV hK hPc hDc 0 rfl rfl) rfl rfl hl.1 rfl (lv_room (Nat.le_of_ble_eq_true rfl)) dX9_person_2 ⟨Nat.le_of_ble_eq_true rfl, Nat.le_of_ble_eq_true rfl⟩) hS (fun q _ h => hFc q h) hFc (fun r_1 u t H_2 L_3 ht hvm hw hB hz1 hk1 hS => ?_)
  obtain ⟨hP1, -, hD1⟩ := hB
  rw [ht] at hP1
  obtain ⟨hP, hD⟩ := va_join (wr := []) (w1 := [(h0, .inr (9, [.ref b0, .ref b1, .int 0, .int 0, .int 0, .int 0, .ref b6, .ref b7, .ref b8, .ref b9, .int 0, .ref b11, .ref b12, .ref b13, .int 0, .int 0, .int 0, .int 0, .ref b18, .ref b19, .ref b20, .ref b21, .ref b22, .ref b23, .ref b24, .ref b25, .ref b26, .ref b27, .ref b28, .ref b29, .ref b30, .int 0, .ref b32, .ref b33]))]) hP hD [0] [] rfl rfl (by decide) (by decide) hk1 hFc hP1 hD1
  have hP : va_P D vwCl [(h0, .inr (9, [.ref b0, .ref b1, .int 0, .int 0, .int 0, .int 0, .ref b6, .ref b7, .ref b8, .ref b9, .int 0, .ref b11, .ref b12, .ref b13, .int 0, .int 0, .int 0, .int 0, .ref b18, .ref b19, .ref b20, .ref b21, .ref b22, .ref b23, .ref b24, .ref b25, .ref b26, .ref b27, .ref b28, .ref b29, .ref b30, .int 0, .ref b32, .ref b33]))] H_2 := hP.sub [0] rfl
  have hD : va_D A [(h0, .inr (9, [.ref b0, .ref b1, .int 0, .int 0, .int 0, .int 0, .ref b6, .ref b7, .ref b8, .ref b9, .int 0, .ref b11, .ref b12, .ref b13, .int 0, .int 0, .int 0, .int 0, .ref b18, .ref b19, .ref b20, .ref b21, .ref b22, .ref b23, .ref b24, .ref b25, .ref b26, .ref b27, .ref b28, .ref b29, .ref b30, .int 0, .ref b32, .ref b33]))] := hD.sub [0] (by decide) rfl
  try dsimp only at hw
  subst hw
  refine lv_if_ne (tgt := 10) hx hb dX9_person_5 (by decide) (fun c_4 => ?_) (fun c_4 => ?_)
  · exact False.elim (by revert c_4; decide)
  · refine lv_iconst (v := (-1)) hx hb dX9_person_8 (by decide) ?_
    have hP9 := hP.sub (ws' := []) [] rfl
    have hD9 := hD.sub (ws' := []) [] (by decide) rfl
    exact W.iret (v := (-1)) hx hb hr (fun t ht hW => ⟨⟨(-1), (), rfl, rfl, ⟨by rw [ht]; exact hP9, va_K.moved hW.alike hK, hD9⟩⟩, hS.F ht⟩) hS.2.2 dX9_person_9
set_option maxHeartbeats 4000000 in
set_option maxRecDepth 100000 in
theorem c_X9_chain_0 (l : Launch) (D : va_G) (cB cI cZ : ClassId) (sz : Nat) (h0 : Nat) (b0 : Nat) (b1 : Nat) (b6 : Nat) (b7 : Nat) (b8 : Nat) (b9 : Nat) (b11 : Nat) (b12 : Nat) (b13 : Nat) (b18 : Nat) (b19 : Nat) (b20 : Nat) (b21 : Nat) (b22 : Nat) (b23 : Nat) (b24 : Nat) (b25 : Nat) (b26 : Nat) (b27 : Nat) (b28 : Nat) (b29 : Nat) (b30 : Nat) (b32 : Nat) (b33 : Nat) (k : Int32) (k2 : Int32) : Met l yX9_chain (.code yX9_chain cX9_chain 5 (some .int) :: wsL_law) ({ frames := 2, cells := 0, slots := 0, locals := 43 } : Room) (va_Pc [.ref h0, .int k, .int k2] (pIn D (pT cB cI cZ) sz [(h0, .inr (9, [.ref b0, .ref b1, .int 0, .int 0, .int 0, .int 0, .ref b6, .ref b7, .ref b8, .ref b9, .int 0, .ref b11, .ref b12, .ref b13, .int 0, .int 0, .int 0, .int 0, .ref b18, .ref b19, .ref b20, .ref b21, .ref b22, .ref b23, .ref b24, .ref b25, .ref b26, .ref b27, .ref b28, .ref b29, .ref b30, .int 0, .ref b32, .ref b33]))])) (va_Qi (fun (r : Int32) (u : Unit) => r = (-1)) (fun (u : Unit) (t : State) => pAt D (pT cB cI cZ) (va_A [(h0, .inr (9, [.ref b0, .ref b1, .int 0, .int 0, .int 0, .int 0, .ref b6, .ref b7, .ref b8, .ref b9, .int 0, .ref b11, .ref b12, .ref b13, .int 0, .int 0, .int 0, .int 0, .ref b18, .ref b19, .ref b20, .ref b21, .ref b22, .ref b23, .ref b24, .ref b25, .ref b26, .ref b27, .ref b28, .ref b29, .ref b30, .int 0, .ref b32, .ref b33]))] sz) [] t) (va_A [(h0, .inr (9, [.ref b0, .ref b1, .int 0, .int 0, .int 0, .int 0, .ref b6, .ref b7, .ref b8, .ref b9, .int 0, .ref b11, .ref b12, .ref b13, .int 0, .int 0, .int 0, .int 0, .ref b18, .ref b19, .ref b20, .ref b21, .ref b22, .ref b23, .ref b24, .ref b25, .ref b26, .ref b27, .ref b28, .ref b29, .ref b30, .int 0, .ref b32, .ref b33]))] sz)) 0 0 (va_A [(h0, .inr (9, [.ref b0, .ref b1, .int 0, .int 0, .int 0, .int 0, .ref b6, .ref b7, .ref b8, .ref b9, .int 0, .ref b11, .ref b12, .ref b13, .int 0, .int 0, .int 0, .int 0, .ref b18, .ref b19, .ref b20, .ref b21, .ref b22, .ref b23, .ref b24, .ref b25, .ref b26, .ref b27, .ref b28, .ref b29, .ref b30, .int 0, .ref b32, .ref b33]))] sz) := by
  refine Met.ofW (cc := cX9_chain) (maxL := 5) (ret := (some .int)) (by decide) rfl ?_
  intro p e s m args below meth c s₁ B hml hv
  obtain ⟨rfl, hsz, hP, hK, hD0⟩ := hv
  have hx := B.exec
  have hb := B.bytes
  have hr := B.returns
  have hts0 := atoms_spec (ws := .code yX9_chain cX9_chain 5 (some .int) :: wsL_law) B.pre
  have hts := fun (w : Cond) (h : w ∈ wsL_law) => hts0 w (List.mem_cons_of_mem _ h)
  have hown : s.vm.findClass RX9 = some m.cls := findClass_of_methodNamed B.named
  have hlocks := B.notSynchronized
  subst hsz
  have hD := hD0.self (sz := s.heap.size)
  generalize hAe : va_A [(h0, .inr (9, [.ref b0, .ref b1, .int 0, .int 0, .int 0, .int 0, .ref b6, .ref b7, .ref b8, .ref b9, .int 0, .ref b11, .ref b12, .ref b13, .int 0, .int 0, .int 0, .int 0, .ref b18, .ref b19, .ref b20, .ref b21, .ref b22, .ref b23, .ref b24, .ref b25, .ref b26, .ref b27, .ref b28, .ref b29, .ref b30, .int 0, .ref b32, .ref b33]))] s.heap.size = A at hD ⊢
  have hA : ∀ q : Nat, s.heap.size ≤ q → A q := fun q h => by rw [← hAe]; exact Or.inr h
  have hS : va_S A s.heap s.heap [] := va_S.rf
  have hP : va_P D vwCl [(h0, .inr (9, [.ref b0, .ref b1, .int 0, .int 0, .int 0, .int 0, .ref b6, .ref b7, .ref b8, .ref b9, .int 0, .ref b11, .ref b12, .ref b13, .int 0, .int 0, .int 0, .int 0, .ref b18, .ref b19, .ref b20, .ref b21, .ref b22, .ref b23, .ref b24, .ref b25, .ref b26, .ref b27, .ref b28, .ref b29, .ref b30, .int 0, .ref b32, .ref b33]))] s.heap := hP
  have hl := lv_entry ([.ref h0, .int k, .int k2]) (n := 5) (Nat.le_of_ble_eq_true rfl)
  rw [lg_entry_eq]
  generalize (lg_sl ([.ref h0, .int k, .int k2]) ++ List.replicate (5 - (lg_sl ([.ref h0, .int k, .int k2])).length) Slot.unset).toArray = ls at hl ⊢
  have hl : lv_has ls 5 [(0, .ref h0), (1, .int k), (2, .int k2)] := hl
  refine lv_aload_n hx hb dX9_chain_0 rfl (lv_at hl 0 rfl) ?_
  refine lv_iload_n hx hb dX9_chain_1 rfl (lv_at hl 1 rfl) ?_
  have hPc := hP.sub (ws' := [(h0, .inr (9, [.ref b0, .ref b1, .int 0, .int 0, .int 0, .int 0, .ref b6, .ref b7, .ref b8, .ref b9, .int 0, .ref b11, .ref b12, .ref b13, .int 0, .int 0, .int 0, .int 0, .ref b18, .ref b19, .ref b20, .ref b21, .ref b22, .ref b23, .ref b24, .ref b25, .ref b26, .ref b27, .ref b28, .ref b29, .ref b30, .int 0, .ref b32, .ref b33]))]) [0] rfl
  have hDc := hD.sub (ws' := [(h0, .inr (9, [.ref b0, .ref b1, .int 0, .int 0, .int 0, .int 0, .ref b6, .ref b7, .ref b8, .ref b9, .int 0, .ref b11, .ref b12, .ref b13, .int 0, .int 0, .int 0, .int 0, .ref b18, .ref b19, .ref b20, .ref b21, .ref b22, .ref b23, .ref b24, .ref b25, .ref b26, .ref b27, .ref b28, .ref b29, .ref b30, .int 0, .ref b32, .ref b33]))]) [0] (by decide) rfl
  have hFc := va_free (wc := [(h0, .inr (9, [.ref b0, .ref b1, .int 0, .int 0, .int 0, .int 0, .ref b6, .ref b7, .ref b8, .ref b9, .int 0, .ref b11, .ref b12, .ref b13, .int 0, .int 0, .int 0, .int 0, .ref b18, .ref b19, .ref b20, .ref b21, .ref b22, .ref b23, .ref b24, .ref b25, .ref b26, .ref b27, .ref b28, .ref b29, .ref b30, .int 0, .ref b32, .ref b33]))]) hD hS hA [0] rfl
  refine va_calli (va_runV (As := [.int k]) (rest := []) ⟨hx, hb, hml, hown, hts⟩ (c_X9_isPerson_0 l D cB cI cZ s.heap.size h0 b0 b1 b6 b7 b8 b9 b11 b12 b13 b18 b19 b20 b21 b22 b23 b24 b25 b26 b27 b28 b29 b30 b32 b33 k) (cwV 1 hts (uV (uc37 _ (List.mem_of_getElem? (i := 12) rfl)) (uc37 _ (List.mem_of_getElem? (i := 13) rfl)) (uc37 _ (List.mem_of_getElem? (i := 14) rfl)) (uc1 _ (List.mem_of_getElem? (i := 5) rfl)) (uc37 _ (List.mem_of_getElem? (i := 15) rfl))) rfl rfl rfl (by decide +kernel) ⟨Nat.le_of_ble_eq_true rfl, Nat.le_of_ble_eq_true rfl⟩) (pV hK hPc hDc 0 rfl rfl) rfl rfl hl.1 rfl (lv_room (Nat.le_of_ble_eq_true rfl)) dX9_chain_2 ⟨Nat.le_of_ble_eq_true rfl, Nat.le_of_ble_eq_true rfl⟩) hS (fun q _ h => hFc q h) hFc (fun r_1 u t H_2 L_3 ht hvm hw hB hz1 hk1 hS => ?_)
  obtain ⟨hP1, -, hD1⟩ := hB
  rw [ht] at hP1
  obtain ⟨hP, hD⟩ := va_join (wr := []) (w1 := [(h0, .inr (9, [.ref b0, .ref b1, .int 0, .int 0, .int 0, .int 0, .ref b6, .ref b7, .ref b8, .ref b9, .int 0, .ref b11, .ref b12, .ref b13, .int 0, .int 0, .int 0, .int 0, .ref b18, .ref b19, .ref b20, .ref b21, .ref b22, .ref b23, .ref b24, .ref b25, .ref b26, .ref b27, .ref b28, .ref b29, .ref b30, .int 0, .ref b32, .ref b33]))]) hP hD [0] [] rfl rfl (by decide) (by decide) hk1 hFc hP1 hD1
  have hP : va_P D vwCl [(h0, .inr (9, [.ref b0, .ref b1, .int 0, .int 0, .int 0, .int 0, .ref b6, .ref b7, .ref b8, .ref b9, .int 0, .ref b11, .ref b12, .ref b13, .int 0, .int 0, .int 0, .int 0, .ref b18, .ref b19, .ref b20, .ref b21, .ref b22, .ref b23, .ref b24, .ref b25, .ref b26, .ref b27, .ref b28, .ref b29, .ref b30, .int 0, .ref b32, .ref b33]))] H_2 := hP.sub [0] rfl
  have hD : va_D A [(h0, .inr (9, [.ref b0, .ref b1, .int 0, .int 0, .int 0, .int 0, .ref b6, .ref b7, .ref b8, .ref b9, .int 0, .ref b11, .ref b12, .ref b13, .int 0, .int 0, .int 0, .int 0, .ref b18, .ref b19, .ref b20, .ref b21, .ref b22, .ref b23, .ref b24, .ref b25, .ref b26, .ref b27, .ref b28, .ref b29, .ref b30, .int 0, .ref b32, .ref b33]))] := hD.sub [0] (by decide) rfl
  try dsimp only at hw
  subst hw
  refine lv_if_ne (tgt := 10) hx hb dX9_chain_5 (by decide) (fun c_4 => ?_) (fun c_4 => ?_)
  · exact False.elim (by revert c_4; decide)
  · refine lv_iconst (v := (-1)) hx hb dX9_chain_8 (by decide) ?_
    have hP9 := hP.sub (ws' := []) [] rfl
    have hD9 := hD.sub (ws' := []) [] (by decide) rfl
    exact W.iret (v := (-1)) hx hb hr (fun t ht hW => ⟨⟨(-1), (), rfl, rfl, ⟨by rw [ht]; exact hP9, va_K.moved hW.alike hK, hD9⟩⟩, hS.F ht⟩) hS.2.2 dX9_chain_9
set_option maxHeartbeats 4000000 in
set_option maxRecDepth 100000 in
theorem c_X9_name_0 (l : Launch) (D : va_G) (cB cI cZ : ClassId) (sz : Nat) (h0 : Nat) (b0 : Nat) (b1 : Nat) (b6 : Nat) (b7 : Nat) (b8 : Nat) (b9 : Nat) (b11 : Nat) (b12 : Nat) (b13 : Nat) (b18 : Nat) (b19 : Nat) (b20 : Nat) (b21 : Nat) (b22 : Nat) (b23 : Nat) (b24 : Nat) (b25 : Nat) (b26 : Nat) (b27 : Nat) (b28 : Nat) (b29 : Nat) (b30 : Nat) (b32 : Nat) (b33 : Nat) (k : Int32) (k2 : Int32) : Met l yX9_name (.code yX9_name cX9_name 3 (some .int) :: wsL_law) ({ frames := 2, cells := 0, slots := 0, locals := 43 } : Room) (va_Pc [.ref h0, .int k, .int k2] (pIn D (pT cB cI cZ) sz [(h0, .inr (9, [.ref b0, .ref b1, .int 0, .int 0, .int 0, .int 0, .ref b6, .ref b7, .ref b8, .ref b9, .int 0, .ref b11, .ref b12, .ref b13, .int 0, .int 0, .int 0, .int 0, .ref b18, .ref b19, .ref b20, .ref b21, .ref b22, .ref b23, .ref b24, .ref b25, .ref b26, .ref b27, .ref b28, .ref b29, .ref b30, .int 0, .ref b32, .ref b33]))])) (va_Qi (fun (r : Int32) (u : Unit) => r = (-1)) (fun (u : Unit) (t : State) => pAt D (pT cB cI cZ) (va_A [(h0, .inr (9, [.ref b0, .ref b1, .int 0, .int 0, .int 0, .int 0, .ref b6, .ref b7, .ref b8, .ref b9, .int 0, .ref b11, .ref b12, .ref b13, .int 0, .int 0, .int 0, .int 0, .ref b18, .ref b19, .ref b20, .ref b21, .ref b22, .ref b23, .ref b24, .ref b25, .ref b26, .ref b27, .ref b28, .ref b29, .ref b30, .int 0, .ref b32, .ref b33]))] sz) [] t) (va_A [(h0, .inr (9, [.ref b0, .ref b1, .int 0, .int 0, .int 0, .int 0, .ref b6, .ref b7, .ref b8, .ref b9, .int 0, .ref b11, .ref b12, .ref b13, .int 0, .int 0, .int 0, .int 0, .ref b18, .ref b19, .ref b20, .ref b21, .ref b22, .ref b23, .ref b24, .ref b25, .ref b26, .ref b27, .ref b28, .ref b29, .ref b30, .int 0, .ref b32, .ref b33]))] sz)) 0 0 (va_A [(h0, .inr (9, [.ref b0, .ref b1, .int 0, .int 0, .int 0, .int 0, .ref b6, .ref b7, .ref b8, .ref b9, .int 0, .ref b11, .ref b12, .ref b13, .int 0, .int 0, .int 0, .int 0, .ref b18, .ref b19, .ref b20, .ref b21, .ref b22, .ref b23, .ref b24, .ref b25, .ref b26, .ref b27, .ref b28, .ref b29, .ref b30, .int 0, .ref b32, .ref b33]))] sz) := by
  refine Met.ofW (cc := cX9_name) (maxL := 3) (ret := (some .int)) (by decide) rfl ?_
  intro p e s m args below meth c s₁ B hml hv
  obtain ⟨rfl, hsz, hP, hK, hD0⟩ := hv
  have hx := B.exec
  have hb := B.bytes
  have hr := B.returns
  have hts0 := atoms_spec (ws := .code yX9_name cX9_name 3 (some .int) :: wsL_law) B.pre
  have hts := fun (w : Cond) (h : w ∈ wsL_law) => hts0 w (List.mem_cons_of_mem _ h)
  have hown : s.vm.findClass RX9 = some m.cls := findClass_of_methodNamed B.named
  have hlocks := B.notSynchronized
  subst hsz
  have hD := hD0.self (sz := s.heap.size)
  generalize hAe : va_A [(h0, .inr (9, [.ref b0, .ref b1, .int 0, .int 0, .int 0, .int 0, .ref b6, .ref b7, .ref b8, .ref b9, .int 0, .ref b11, .ref b12, .ref b13, .int 0, .int 0, .int 0, .int 0, .ref b18, .ref b19, .ref b20, .ref b21, .ref b22, .ref b23, .ref b24, .ref b25, .ref b26, .ref b27, .ref b28, .ref b29, .ref b30, .int 0, .ref b32, .ref b33]))] s.heap.size = A at hD ⊢
  have hA : ∀ q : Nat, s.heap.size ≤ q → A q := fun q h => by rw [← hAe]; exact Or.inr h
  have hS : va_S A s.heap s.heap [] := va_S.rf
  have hP : va_P D vwCl [(h0, .inr (9, [.ref b0, .ref b1, .int 0, .int 0, .int 0, .int 0, .ref b6, .ref b7, .ref b8, .ref b9, .int 0, .ref b11, .ref b12, .ref b13, .int 0, .int 0, .int 0, .int 0, .ref b18, .ref b19, .ref b20, .ref b21, .ref b22, .ref b23, .ref b24, .ref b25, .ref b26, .ref b27, .ref b28, .ref b29, .ref b30, .int 0, .ref b32, .ref b33]))] s.heap := hP
  have hl := lv_entry ([.ref h0, .int k, .int k2]) (n := 3) (Nat.le_of_ble_eq_true rfl)
  rw [lg_entry_eq]
  generalize (lg_sl ([.ref h0, .int k, .int k2]) ++ List.replicate (3 - (lg_sl ([.ref h0, .int k, .int k2])).length) Slot.unset).toArray = ls at hl ⊢
  have hl : lv_has ls 3 [(0, .ref h0), (1, .int k), (2, .int k2)] := hl
  refine lv_aload_n hx hb dX9_name_0 rfl (lv_at hl 0 rfl) ?_
  refine lv_iload_n hx hb dX9_name_1 rfl (lv_at hl 1 rfl) ?_
  have hPc := hP.sub (ws' := [(h0, .inr (9, [.ref b0, .ref b1, .int 0, .int 0, .int 0, .int 0, .ref b6, .ref b7, .ref b8, .ref b9, .int 0, .ref b11, .ref b12, .ref b13, .int 0, .int 0, .int 0, .int 0, .ref b18, .ref b19, .ref b20, .ref b21, .ref b22, .ref b23, .ref b24, .ref b25, .ref b26, .ref b27, .ref b28, .ref b29, .ref b30, .int 0, .ref b32, .ref b33]))]) [0] rfl
  have hDc := hD.sub (ws' := [(h0, .inr (9, [.ref b0, .ref b1, .int 0, .int 0, .int 0, .int 0, .ref b6, .ref b7, .ref b8, .ref b9, .int 0, .ref b11, .ref b12, .ref b13, .int 0, .int 0, .int 0, .int 0, .ref b18, .ref b19, .ref b20, .ref b21, .ref b22, .ref b23, .ref b24, .ref b25, .ref b26, .ref b27, .ref b28, .ref b29, .ref b30, .int 0, .ref b32, .ref b33]))]) [0] (by decide) rfl
  have hFc := va_free (wc := [(h0, .inr (9, [.ref b0, .ref b1, .int 0, .int 0, .int 0, .int 0, .ref b6, .ref b7, .ref b8, .ref b9, .int 0, .ref b11, .ref b12, .ref b13, .int 0, .int 0, .int 0, .int 0, .ref b18, .ref b19, .ref b20, .ref b21, .ref b22, .ref b23, .ref b24, .ref b25, .ref b26, .ref b27, .ref b28, .ref b29, .ref b30, .int 0, .ref b32, .ref b33]))]) hD hS hA [0] rfl
  refine va_calli (va_runV (As := [.int k]) (rest := []) ⟨hx, hb, hml, hown, hts⟩ (c_X9_isPerson_0 l D cB cI cZ s.heap.size h0 b0 b1 b6 b7 b8 b9 b11 b12 b13 b18 b19 b20 b21 b22 b23 b24 b25 b26 b27 b28 b29 b30 b32 b33 k) (cwV 1 hts (uV (uc37 _ (List.mem_of_getElem? (i := 12) rfl)) (uc37 _ (List.mem_of_getElem? (i := 13) rfl)) (uc37 _ (List.mem_of_getElem? (i := 14) rfl)) (uc1 _ (List.mem_of_getElem? (i := 5) rfl)) (uc37 _ (List.mem_of_getElem? (i := 15) rfl))) rfl rfl rfl (by decide +kernel) ⟨Nat.le_of_ble_eq_true rfl, Nat.le_of_ble_eq_true rfl⟩) (pV hK hPc hDc 0 rfl rfl) rfl rfl hl.1 rfl (lv_room (Nat.le_of_ble_eq_true rfl)) dX9_name_2 ⟨Nat.le_of_ble_eq_true rfl, Nat.le_of_ble_eq_true rfl⟩) hS (fun q _ h => hFc q h) hFc (fun r_1 u t H_2 L_3 ht hvm hw hB hz1 hk1 hS => ?_)
  obtain ⟨hP1, -, hD1⟩ := hB
  rw [ht] at hP1
  obtain ⟨hP, hD⟩ := va_join (wr := []) (w1 := [(h0, .inr (9, [.ref b0, .ref b1, .int 0, .int 0, .int 0, .int 0, .ref b6, .ref b7, .ref b8, .ref b9, .int 0, .ref b11, .ref b12, .ref b13, .int 0, .int 0, .int 0, .int 0, .ref b18, .ref b19, .ref b20, .ref b21, .ref b22, .ref b23, .ref b24, .ref b25, .ref b26, .ref b27, .ref b28, .ref b29, .ref b30, .int 0, .ref b32, .ref b33]))]) hP hD [0] [] rfl rfl (by decide) (by decide) hk1 hFc hP1 hD1
  have hP : va_P D vwCl [(h0, .inr (9, [.ref b0, .ref b1, .int 0, .int 0, .int 0, .int 0, .ref b6, .ref b7, .ref b8, .ref b9, .int 0, .ref b11, .ref b12, .ref b13, .int 0, .int 0, .int 0, .int 0, .ref b18, .ref b19, .ref b20, .ref b21, .ref b22, .ref b23, .ref b24, .ref b25, .ref b26, .ref b27, .ref b28, .ref b29, .ref b30, .int 0, .ref b32, .ref b33]))] H_2 := hP.sub [0] rfl
  have hD : va_D A [(h0, .inr (9, [.ref b0, .ref b1, .int 0, .int 0, .int 0, .int 0, .ref b6, .ref b7, .ref b8, .ref b9, .int 0, .ref b11, .ref b12, .ref b13, .int 0, .int 0, .int 0, .int 0, .ref b18, .ref b19, .ref b20, .ref b21, .ref b22, .ref b23, .ref b24, .ref b25, .ref b26, .ref b27, .ref b28, .ref b29, .ref b30, .int 0, .ref b32, .ref b33]))] := hD.sub [0] (by decide) rfl
  try dsimp only at hw
  subst hw
  refine lv_if_eq (tgt := 46) hx hb dX9_name_5 (by decide) (fun c_4 => ?_) (fun c_4 => ?_)
  · refine lv_iconst (v := (-1)) hx hb dX9_name_46 (by decide) ?_
    have hP9 := hP.sub (ws' := []) [] rfl
    have hD9 := hD.sub (ws' := []) [] (by decide) rfl
    exact W.iret (v := (-1)) hx hb hr (fun t ht hW => ⟨⟨(-1), (), rfl, rfl, ⟨by rw [ht]; exact hP9, va_K.moved hW.alike hK, hD9⟩⟩, hS.F ht⟩) hS.2.2 dX9_name_47
  · exact False.elim (by revert c_4; decide)
set_option maxHeartbeats 4000000 in
set_option maxRecDepth 100000 in
theorem c_X9_who_0 (l : Launch) (D : va_G) (cB cI cZ : ClassId) (sz : Nat) (h0 : Nat) (b0 : Nat) (b1 : Nat) (b6 : Nat) (b7 : Nat) (b8 : Nat) (b9 : Nat) (b11 : Nat) (b12 : Nat) (b13 : Nat) (b18 : Nat) (b19 : Nat) (b20 : Nat) (b21 : Nat) (b22 : Nat) (b23 : Nat) (b24 : Nat) (b25 : Nat) (b26 : Nat) (b27 : Nat) (b28 : Nat) (b29 : Nat) (b30 : Nat) (b32 : Nat) (b33 : Nat) (k : Int32) : Met l yX9_who (.code yX9_who cX9_who 2 (some .int) :: wsL_law) ({ frames := 2, cells := 0, slots := 0, locals := 43 } : Room) (va_Pc [.ref h0, .int k] (pIn D (pT cB cI cZ) sz [(h0, .inr (9, [.ref b0, .ref b1, .int 0, .int 0, .int 0, .int 0, .ref b6, .ref b7, .ref b8, .ref b9, .int 0, .ref b11, .ref b12, .ref b13, .int 0, .int 0, .int 0, .int 0, .ref b18, .ref b19, .ref b20, .ref b21, .ref b22, .ref b23, .ref b24, .ref b25, .ref b26, .ref b27, .ref b28, .ref b29, .ref b30, .int 0, .ref b32, .ref b33]))])) (va_Qi (fun (r : Int32) (u : Unit) => r = (-1)) (fun (u : Unit) (t : State) => pAt D (pT cB cI cZ) (va_A [(h0, .inr (9, [.ref b0, .ref b1, .int 0, .int 0, .int 0, .int 0, .ref b6, .ref b7, .ref b8, .ref b9, .int 0, .ref b11, .ref b12, .ref b13, .int 0, .int 0, .int 0, .int 0, .ref b18, .ref b19, .ref b20, .ref b21, .ref b22, .ref b23, .ref b24, .ref b25, .ref b26, .ref b27, .ref b28, .ref b29, .ref b30, .int 0, .ref b32, .ref b33]))] sz) [] t) (va_A [(h0, .inr (9, [.ref b0, .ref b1, .int 0, .int 0, .int 0, .int 0, .ref b6, .ref b7, .ref b8, .ref b9, .int 0, .ref b11, .ref b12, .ref b13, .int 0, .int 0, .int 0, .int 0, .ref b18, .ref b19, .ref b20, .ref b21, .ref b22, .ref b23, .ref b24, .ref b25, .ref b26, .ref b27, .ref b28, .ref b29, .ref b30, .int 0, .ref b32, .ref b33]))] sz)) 0 0 (va_A [(h0, .inr (9, [.ref b0, .ref b1, .int 0, .int 0, .int 0, .int 0, .ref b6, .ref b7, .ref b8, .ref b9, .int 0, .ref b11, .ref b12, .ref b13, .int 0, .int 0, .int 0, .int 0, .ref b18, .ref b19, .ref b20, .ref b21, .ref b22, .ref b23, .ref b24, .ref b25, .ref b26, .ref b27, .ref b28, .ref b29, .ref b30, .int 0, .ref b32, .ref b33]))] sz) := by
  refine Met.ofW (cc := cX9_who) (maxL := 2) (ret := (some .int)) (by decide) rfl ?_
  intro p e s m args below meth c s₁ B hml hv
  obtain ⟨rfl, hsz, hP, hK, hD0⟩ := hv
  have hx := B.exec
  have hb := B.bytes
  have hr := B.returns
  have hts0 := atoms_spec (ws := .code yX9_who cX9_who 2 (some .int) :: wsL_law) B.pre
  have hts := fun (w : Cond) (h : w ∈ wsL_law) => hts0 w (List.mem_cons_of_mem _ h)
  have hown : s.vm.findClass RX9 = some m.cls := findClass_of_methodNamed B.named
  have hlocks := B.notSynchronized
  subst hsz
  have hD := hD0.self (sz := s.heap.size)
  generalize hAe : va_A [(h0, .inr (9, [.ref b0, .ref b1, .int 0, .int 0, .int 0, .int 0, .ref b6, .ref b7, .ref b8, .ref b9, .int 0, .ref b11, .ref b12, .ref b13, .int 0, .int 0, .int 0, .int 0, .ref b18, .ref b19, .ref b20, .ref b21, .ref b22, .ref b23, .ref b24, .ref b25, .ref b26, .ref b27, .ref b28, .ref b29, .ref b30, .int 0, .ref b32, .ref b33]))] s.heap.size = A at hD ⊢
  have hA : ∀ q : Nat, s.heap.size ≤ q → A q := fun q h => by rw [← hAe]; exact Or.inr h
  have hS : va_S A s.heap s.heap [] := va_S.rf
  have hP : va_P D vwCl [(h0, .inr (9, [.ref b0, .ref b1, .int 0, .int 0, .int 0, .int 0, .ref b6, .ref b7, .ref b8, .ref b9, .int 0, .ref b11, .ref b12, .ref b13, .int 0, .int 0, .int 0, .int 0, .ref b18, .ref b19, .ref b20, .ref b21, .ref b22, .ref b23, .ref b24, .ref b25, .ref b26, .ref b27, .ref b28, .ref b29, .ref b30, .int 0, .ref b32, .ref b33]))] s.heap := hP
  have hl := lv_entry ([.ref h0, .int k]) (n := 2) (Nat.le_of_ble_eq_true rfl)
  rw [lg_entry_eq]
  generalize (lg_sl ([.ref h0, .int k]) ++ List.replicate (2 - (lg_sl ([.ref h0, .int k])).length) Slot.unset).toArray = ls at hl ⊢
  have hl : lv_has ls 2 [(0, .ref h0), (1, .int k)] := hl
  refine lv_aload_n hx hb dX9_who_0 rfl (lv_at hl 0 rfl) ?_
  refine lv_iload_n hx hb dX9_who_1 rfl (lv_at hl 1 rfl) ?_
  have hPc := hP.sub (ws' := [(h0, .inr (9, [.ref b0, .ref b1, .int 0, .int 0, .int 0, .int 0, .ref b6, .ref b7, .ref b8, .ref b9, .int 0, .ref b11, .ref b12, .ref b13, .int 0, .int 0, .int 0, .int 0, .ref b18, .ref b19, .ref b20, .ref b21, .ref b22, .ref b23, .ref b24, .ref b25, .ref b26, .ref b27, .ref b28, .ref b29, .ref b30, .int 0, .ref b32, .ref b33]))]) [0] rfl
  have hDc := hD.sub (ws' := [(h0, .inr (9, [.ref b0, .ref b1, .int 0, .int 0, .int 0, .int 0, .ref b6, .ref b7, .ref b8, .ref b9, .int 0, .ref b11, .ref b12, .ref b13, .int 0, .int 0, .int 0, .int 0, .ref b18, .ref b19, .ref b20, .ref b21, .ref b22, .ref b23, .ref b24, .ref b25, .ref b26, .ref b27, .ref b28, .ref b29, .ref b30, .int 0, .ref b32, .ref b33]))]) [0] (by decide) rfl
  have hFc := va_free (wc := [(h0, .inr (9, [.ref b0, .ref b1, .int 0, .int 0, .int 0, .int 0, .ref b6, .ref b7, .ref b8, .ref b9, .int 0, .ref b11, .ref b12, .ref b13, .int 0, .int 0, .int 0, .int 0, .ref b18, .ref b19, .ref b20, .ref b21, .ref b22, .ref b23, .ref b24, .ref b25, .ref b26, .ref b27, .ref b28, .ref b29, .ref b30, .int 0, .ref b32, .ref b33]))]) hD hS hA [0] rfl
  refine va_calli (va_runV (As := [.int k]) (rest := []) ⟨hx, hb, hml, hown, hts⟩ (c_X9_isMention_0 l D cB cI cZ s.heap.size h0 b0 b1 b6 b7 b8 b9 b11 b12 b13 b18 b19 b20 b21 b22 b23 b24 b25 b26 b27 b28 b29 b30 b32 b33 k) (cwV 1 hts (uV (uc36 _ (List.mem_of_getElem? (i := 10) rfl)) (uc36 _ (List.mem_of_getElem? (i := 11) rfl)) (uc36 _ (List.mem_of_getElem? (i := 12) rfl)) (uc1 _ (List.mem_of_getElem? (i := 5) rfl)) (uc36 _ (List.mem_of_getElem? (i := 13) rfl))) rfl rfl rfl (by decide +kernel) ⟨Nat.le_of_ble_eq_true rfl, Nat.le_of_ble_eq_true rfl⟩) (pV hK hPc hDc 0 rfl rfl) rfl rfl hl.1 rfl (lv_room (Nat.le_of_ble_eq_true rfl)) dX9_who_2 ⟨Nat.le_of_ble_eq_true rfl, Nat.le_of_ble_eq_true rfl⟩) hS (fun q _ h => hFc q h) hFc (fun r_1 u t H_2 L_3 ht hvm hw hB hz1 hk1 hS => ?_)
  obtain ⟨hP1, -, hD1⟩ := hB
  rw [ht] at hP1
  obtain ⟨hP, hD⟩ := va_join (wr := []) (w1 := [(h0, .inr (9, [.ref b0, .ref b1, .int 0, .int 0, .int 0, .int 0, .ref b6, .ref b7, .ref b8, .ref b9, .int 0, .ref b11, .ref b12, .ref b13, .int 0, .int 0, .int 0, .int 0, .ref b18, .ref b19, .ref b20, .ref b21, .ref b22, .ref b23, .ref b24, .ref b25, .ref b26, .ref b27, .ref b28, .ref b29, .ref b30, .int 0, .ref b32, .ref b33]))]) hP hD [0] [] rfl rfl (by decide) (by decide) hk1 hFc hP1 hD1
  have hP : va_P D vwCl [(h0, .inr (9, [.ref b0, .ref b1, .int 0, .int 0, .int 0, .int 0, .ref b6, .ref b7, .ref b8, .ref b9, .int 0, .ref b11, .ref b12, .ref b13, .int 0, .int 0, .int 0, .int 0, .ref b18, .ref b19, .ref b20, .ref b21, .ref b22, .ref b23, .ref b24, .ref b25, .ref b26, .ref b27, .ref b28, .ref b29, .ref b30, .int 0, .ref b32, .ref b33]))] H_2 := hP.sub [0] rfl
  have hD : va_D A [(h0, .inr (9, [.ref b0, .ref b1, .int 0, .int 0, .int 0, .int 0, .ref b6, .ref b7, .ref b8, .ref b9, .int 0, .ref b11, .ref b12, .ref b13, .int 0, .int 0, .int 0, .int 0, .ref b18, .ref b19, .ref b20, .ref b21, .ref b22, .ref b23, .ref b24, .ref b25, .ref b26, .ref b27, .ref b28, .ref b29, .ref b30, .int 0, .ref b32, .ref b33]))] := hD.sub [0] (by decide) rfl
  try dsimp only at hw
  subst hw
  refine lv_if_eq (tgt := 25) hx hb dX9_who_5 (by decide) (fun c_4 => ?_) (fun c_4 => ?_)
  · refine lv_iconst (v := (-1)) hx hb dX9_who_25 (by decide) ?_
    have hP9 := hP.sub (ws' := []) [] rfl
    have hD9 := hD.sub (ws' := []) [] (by decide) rfl
    exact W.iret (v := (-1)) hx hb hr (fun t ht hW => ⟨⟨(-1), (), rfl, rfl, ⟨by rw [ht]; exact hP9, va_K.moved hW.alike hK, hD9⟩⟩, hS.F ht⟩) hS.2.2 dX9_who_26
  · exact False.elim (by revert c_4; decide)
