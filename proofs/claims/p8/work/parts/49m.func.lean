set_option maxHeartbeats 4000000 in
set_option maxRecDepth 100000 in
theorem f_X3_targetOf (l : Launch) (D : va_G) (cB cI cZ : ClassId) (E : pEt) (sz : Nat) (h0 : Nat) (x : Int32) (a : Nat) (v : Int32) (f : Nat → Int32) : Met l yX3_targetOf (.code yX3_targetOf cX3_targetOf 2 (some .int) :: wsL_law) ({ frames := 0, cells := 0, slots := 0, locals := 0 } : Room) (va_Pc [.ref h0, .int x] (pInE E D (pT cB cI cZ) sz [(h0, .inr (3, [.ref a, .int v])), (a, .inl (cI, 80, .inl f))])) (va_Qi (fun (r : Int32) (u : Unit) => (((-1) = r) ∧ (¬ ∃ j : Nat, j < 80 ∧ x = nI j)) ∨ (∃ j : Nat, j < 80 ∧ x = nI j ∧ r = f j)) (fun (u : Unit) (t : State) => pAt D (pT cB cI cZ) (va_A [(h0, .inr (3, [.ref a, .int v])), (a, .inl (cI, 80, .inl f))] sz) [(h0, .inr (3, [.ref a, .int v])), (a, .inl (cI, 80, .inl f))] t) (va_A [(h0, .inr (3, [.ref a, .int v])), (a, .inl (cI, 80, .inl f))] sz)) 0 0 (va_A [(h0, .inr (3, [.ref a, .int v])), (a, .inl (cI, 80, .inl f))] sz) := by
  refine Met.ofW (cc := cX3_targetOf) (maxL := 2) (ret := (some .int)) (by decide) rfl ?_
  intro p e s m args below meth cd s₁ B hml hv
  obtain ⟨rfl, hsz, hP, hK, hD0, hE⟩ := hv
  have hx := B.exec
  have hb := B.bytes
  have hr := B.returns
  have hts0 := atoms_spec (ws := .code yX3_targetOf cX3_targetOf 2 (some .int) :: wsL_law) B.pre
  have hts := fun (w : Cond) (h : w ∈ wsL_law) => hts0 w (List.mem_cons_of_mem _ h)
  have hown : s.vm.findClass RX3 = some m.cls := findClass_of_methodNamed B.named
  have hlocks := B.notSynchronized
  have hinX3 := inlX3
  subst hsz
  have hD := hD0.self (sz := s.heap.size)
  generalize hAe : va_A [(h0, .inr (3, [.ref a, .int v])), (a, .inl (cI, 80, .inl f))] s.heap.size = A at hD hE ⊢
  have hA : ∀ q : Nat, s.heap.size ≤ q → A q := fun q h => by rw [← hAe]; exact Or.inr h
  have hS : va_S A s.heap s.heap [] := va_S.rf
  have hP : va_P D vwCl [(h0, .inr (3, [.ref a, .int v])), (a, .inl (cI, 80, .inl f))] s.heap := hP
  have hl := lv_entry ([.ref h0, .int x]) (n := 2) (Nat.le_of_ble_eq_true rfl)
  rw [lg_entry_eq]
  generalize (lg_sl ([.ref h0, .int x]) ++ List.replicate (2 - (lg_sl ([.ref h0, .int x])).length) Slot.unset).toArray = ls at hl ⊢
  have hl : lv_has ls 2 [(0, .ref h0), (1, .int x)] := hl
  refine lv_iload_n hx hb dX3_targetOf_0 rfl (lv_at hl 1 rfl) ?_
  refine lv_if_lt (tgt := 19) hx hb dX3_targetOf_1 (by decide) (fun c_1 => ?_) (fun c_1 => ?_)
  · refine lv_iconst (v := (-1)) hx hb dX3_targetOf_19 (by decide) ?_
    have hP9 := hP.sub (ws' := [(h0, .inr (3, [.ref a, .int v])), (a, .inl (cI, 80, .inl f))]) [0, 1] rfl
    have hD9 := hD.sub (ws' := [(h0, .inr (3, [.ref a, .int v])), (a, .inl (cI, 80, .inl f))]) [0, 1] (by decide) rfl
    exact W.iret (v := (-1)) hx hb hr (fun t ht hW => ⟨⟨(-1), (), rfl, Or.inl (⟨rfl, qTg_n (Or.inl c_1)⟩), ⟨by rw [ht]; exact hP9, va_K.moved hW.alike hK, hD9⟩⟩, hS.F ht⟩) hS.2.2 dX3_targetOf_20
  · refine lv_iload_n hx hb dX3_targetOf_4 rfl (lv_at hl 1 rfl) ?_
    refine lv_bipush (v := 80) hx hb dX3_targetOf_5 (by decide) ?_
    refine lv_icmp_ge (tgt := 19) hx hb dX3_targetOf_7 (by decide) (fun c_2 => ?_) (fun c_2 => ?_)
    · refine lv_iconst (v := (-1)) hx hb dX3_targetOf_19 (by decide) ?_
      have hP9 := hP.sub (ws' := [(h0, .inr (3, [.ref a, .int v])), (a, .inl (cI, 80, .inl f))]) [0, 1] rfl
      have hD9 := hD.sub (ws' := [(h0, .inr (3, [.ref a, .int v])), (a, .inl (cI, 80, .inl f))]) [0, 1] (by decide) rfl
      exact W.iret (v := (-1)) hx hb hr (fun t ht hW => ⟨⟨(-1), (), rfl, Or.inl (⟨rfl, qTg_n (Or.inr c_2)⟩), ⟨by rw [ht]; exact hP9, va_K.moved hW.alike hK, hD9⟩⟩, hS.F ht⟩) hS.2.2 dX3_targetOf_20
    · refine lv_aload_n hx hb dX3_targetOf_10 rfl (lv_at hl 0 rfl) ?_
      refine va_get (D := D) (ci := 3) (v := .ref a) (C := RX3) (T := TX3) (N := 2) hx hb hts hinX3 hown hK hP 0 rfl rfl 0 (by decide) (hts (.fieldLink RX3 9 "TaleReader$Pins" "targets" "[I") (uc4 _ (List.mem_of_getElem? (i := 12) rfl))) (fun _ h9 => h9) rfl dX3_targetOf_11 ?_
      refine lv_iload_n hx hb dX3_targetOf_14 rfl (lv_at hl 1 rfl) ?_
      refine va_iald (D := D) hx hb hK hP 1 1 rfl rfl (pIx c_1 c_2 (by decide)) dX3_targetOf_15 ?_
      refine lv_topi (fun z_3 ez_3 => ?_)
      obtain rfl : z_3 = f x.toNatClampNeg := ez_3.trans (rfl)
      refine lv_goto (tgt := 20) hx hb dX3_targetOf_16 (by decide) ?_
      have hP9 := hP.sub (ws' := [(h0, .inr (3, [.ref a, .int v])), (a, .inl (cI, 80, .inl f))]) [0, 1] rfl
      have hD9 := hD.sub (ws' := [(h0, .inr (3, [.ref a, .int v])), (a, .inl (cI, 80, .inl f))]) [0, 1] (by decide) rfl
      exact W.iret (v := f x.toNatClampNeg) hx hb hr (fun t ht hW => ⟨⟨f x.toNatClampNeg, (), rfl, Or.inr ((qTg c_1 c_2)), ⟨by rw [ht]; exact hP9, va_K.moved hW.alike hK, hD9⟩⟩, hS.F ht⟩) hS.2.2 dX3_targetOf_20
set_option maxHeartbeats 4000000 in
set_option maxRecDepth 100000 in
theorem f_X3_put (l : Launch) (D : va_G) (cB cI cZ : ClassId) (E : pEt) (sz : Nat) (h0 : Nat) (j : Nat) (y : Int32) (a : Nat) (pc : Nat) (f : Nat → Int32) (hj80 : j < 80) (hpc : pc ≤ 20) : Met l yX3_put (.code yX3_put cX3_put 3 none :: wsL_law) ({ frames := 0, cells := 0, slots := 0, locals := 0 } : Room) (va_Pc [.ref h0, .int (nI j), .int y] (pInE E D (pT cB cI cZ) sz [(h0, .inr (3, [.ref a, .int (nI pc)])), (a, .inl (cI, 80, .inl f))])) (va_Qv (fun (u : Nat × (Nat → Int32)) => ((f j = -1) ∧ (pc + 1 = u.1) ∧ (upd f j y = u.2)) ∨ ((¬ f j = -1) ∧ (pc = u.1) ∧ (upd f j y = u.2))) (fun (u : Nat × (Nat → Int32)) (t : State) => pAt D (pT cB cI cZ) (va_A [(h0, .inr (3, [.ref a, .int (nI pc)])), (a, .inl (cI, 80, .inl f))] sz) [(h0, .inr (3, [.ref a, .int (nI u.1)])), (a, .inl (cI, 80, .inl u.2))] t) (va_A [(h0, .inr (3, [.ref a, .int (nI pc)])), (a, .inl (cI, 80, .inl f))] sz)) 0 0 (va_A [(h0, .inr (3, [.ref a, .int (nI pc)])), (a, .inl (cI, 80, .inl f))] sz) := by
  refine Met.ofW (cc := cX3_put) (maxL := 3) (ret := none) (by decide) rfl ?_
  intro p e s m args below meth cd s₁ B hml hv
  obtain ⟨rfl, hsz, hP, hK, hD0, hE⟩ := hv
  have hx := B.exec
  have hb := B.bytes
  have hr := B.returns
  have hts0 := atoms_spec (ws := .code yX3_put cX3_put 3 none :: wsL_law) B.pre
  have hts := fun (w : Cond) (h : w ∈ wsL_law) => hts0 w (List.mem_cons_of_mem _ h)
  have hown : s.vm.findClass RX3 = some m.cls := findClass_of_methodNamed B.named
  have hlocks := B.notSynchronized
  have hinX3 := inlX3
  subst hsz
  have hD := hD0.self (sz := s.heap.size)
  generalize hAe : va_A [(h0, .inr (3, [.ref a, .int (nI pc)])), (a, .inl (cI, 80, .inl f))] s.heap.size = A at hD hE ⊢
  have hA : ∀ q : Nat, s.heap.size ≤ q → A q := fun q h => by rw [← hAe]; exact Or.inr h
  have hS : va_S A s.heap s.heap [] := va_S.rf
  have hP : va_P D vwCl [(h0, .inr (3, [.ref a, .int (nI pc)])), (a, .inl (cI, 80, .inl f))] s.heap := hP
  have hl := lv_entry ([.ref h0, .int (nI j), .int y]) (n := 3) (Nat.le_of_ble_eq_true rfl)
  rw [lg_entry_eq]
  generalize (lg_sl ([.ref h0, .int (nI j), .int y]) ++ List.replicate (3 - (lg_sl ([.ref h0, .int (nI j), .int y])).length) Slot.unset).toArray = ls at hl ⊢
  have hl : lv_has ls 3 [(0, .ref h0), (1, .int (nI j)), (2, .int y)] := hl
  refine lv_iload_n hx hb dX3_put_0 rfl (lv_at hl 1 rfl) ?_
  refine lv_if_lt (tgt := 37) hx hb dX3_put_1 (by decide) (fun c_1 => ?_) (fun c_1 => ?_)
  · exact False.elim (by exact nI_pos (by omega) c_1)
  · refine lv_iload_n hx hb dX3_put_4 rfl (lv_at hl 1 rfl) ?_
    refine lv_bipush (v := 80) hx hb dX3_put_5 (by decide) ?_
    refine lv_icmp_ge (tgt := 37) hx hb dX3_put_7 (by decide) (fun c_2 => ?_) (fun c_2 => ?_)
    · exact False.elim (by exact absurd ((nI_leI (a := 80) (by decide) (by omega)).mp c_2) (by omega))
    · refine lv_aload_n hx hb dX3_put_10 rfl (lv_at hl 0 rfl) ?_
      refine va_get (D := D) (ci := 3) (v := .ref a) (C := RX3) (T := TX3) (N := 2) hx hb hts hinX3 hown hK hP 0 rfl rfl 0 (by decide) (hts (.fieldLink RX3 9 "TaleReader$Pins" "targets" "[I") (uc4 _ (List.mem_of_getElem? (i := 12) rfl))) (fun _ h9 => h9) rfl dX3_put_11 ?_
      refine lv_iload_n hx hb dX3_put_14 rfl (lv_at hl 1 rfl) ?_
      refine va_iald (D := D) hx hb hK hP 1 1 rfl rfl (vp_in_nI (by omega) (by omega)) dX3_put_15 ?_
      refine lv_topi (fun z_3 ez_3 => ?_)
      obtain rfl : z_3 = f j := ez_3.trans (congrArg f (nI_clamp (by omega)))
      refine lv_iconst (v := (-1)) hx hb dX3_put_16 (by decide) ?_
      refine lv_icmp_ne (tgt := 30) hx hb dX3_put_17 (by decide) (fun c_4 => ?_) (fun c_4 => ?_)
      · have hfj : ¬ f j = -1 := c_4
        refine lv_aload_n hx hb dX3_put_30 rfl (lv_at hl 0 rfl) ?_
        refine va_get (D := D) (ci := 3) (v := .ref a) (C := RX3) (T := TX3) (N := 2) hx hb hts hinX3 hown hK hP 0 rfl rfl 0 (by decide) (hts (.fieldLink RX3 9 "TaleReader$Pins" "targets" "[I") (uc4 _ (List.mem_of_getElem? (i := 12) rfl))) (fun _ h9 => h9) rfl dX3_put_31 ?_
        refine lv_iload_n hx hb dX3_put_34 rfl (lv_at hl 1 rfl) ?_
        refine lv_iload_n hx hb dX3_put_35 rfl (lv_at hl 2 rfl) ?_
        refine va_iast (D := D) hx hb hK hP hD hS 1 1 rfl rfl (vp_in_nI (by omega) (by omega)) dX3_put_36 (fun H_5 L_6 hP hD hS => ?_)
        obtain ⟨g_7, eg_7⟩ : ∃ gg : Nat → Int32, gg = upd f ((nI j)).toNatClampNeg y := ⟨_, rfl⟩
        have hP : va_P D vwCl [(h0, .inr (3, [.ref a, .int (nI pc)])), (a, .inl (cI, 80, .inl g_7))] H_5 := by rw [eg_7]; exact hP
        have hD : va_D A [(h0, .inr (3, [.ref a, .int (nI pc)])), (a, .inl (cI, 80, .inl g_7))] := by rw [eg_7]; exact hD
        obtain rfl : g_7 = upd f j y := eg_7.trans (by rw [nI_clamp (by omega)])
        have hP9 := hP.sub (ws' := [(h0, .inr (3, [.ref a, .int (nI pc)])), (a, .inl (cI, 80, .inl (upd f j y)))]) [0, 1] rfl
        have hD9 := hD.sub (ws' := [(h0, .inr (3, [.ref a, .int (nI pc)])), (a, .inl (cI, 80, .inl (upd f j y)))]) [0, 1] (by decide) rfl
        exact W.vret hx hb hr (fun t ht hW => ⟨⟨(pc, upd f j y), rfl, Or.inr ((⟨hfj, rfl, rfl⟩)), ⟨by rw [ht]; exact hP9, va_K.moved hW.alike hK, hD9⟩⟩, hS.F ht⟩) hS.2.2 dX3_put_37
      · have hfj : f j = -1 := c_4
        refine lv_aload_n hx hb dX3_put_20 rfl (lv_at hl 0 rfl) ?_
        refine lv_dup hx hb dX3_put_21 rfl ?_
        refine va_get (D := D) (ci := 3) (v := .int (nI pc)) (C := RX3) (T := TX3) (N := 2) hx hb hts hinX3 hown hK hP 0 rfl rfl 1 (by decide) (hts (.fieldLink RX3 21 "TaleReader$Pins" "count" "I") (uc4 _ (List.mem_of_getElem? (i := 13) rfl))) (fun _ h9 => h9) rfl dX3_put_22 ?_
        refine lv_iconst (v := 1) hx hb dX3_put_25 (by decide) ?_
        refine lv_iadd hx hb dX3_put_26 ?_
        refine lv_topi (fun z_8 ez_8 => ?_)
        obtain rfl : z_8 = nI (pc + 1) := ez_8.trans (nI_add pc 1)
        refine va_put (D := D) (ci := 3) (v := .int (nI (pc + 1))) (ty := .int) (C := RX3) (T := TX3) (N := 2) hx hb hts hinX3 tyX3 tyX3_ok nmX3 hown hK hP hD hS 0 rfl rfl 1 (by decide) (hts (.fieldLink RX3 21 "TaleReader$Pins" "count" "I") (uc4 _ (List.mem_of_getElem? (i := 13) rfl))) (fun _ h9 => h9) rfl (by decide +kernel) rfl rfl (Nat.le_of_ble_eq_true rfl) dX3_put_27 (fun H_9 L_10 hP hD hS => ?_)
        have hP : va_P D vwCl [(h0, .inr (3, [.ref a, .int (nI (pc + 1))])), (a, .inl (cI, 80, .inl f))] H_9 := hP
        have hD : va_D A [(h0, .inr (3, [.ref a, .int (nI (pc + 1))])), (a, .inl (cI, 80, .inl f))] := hD
        refine lv_aload_n hx hb dX3_put_30 rfl (lv_at hl 0 rfl) ?_
        refine va_get (D := D) (ci := 3) (v := .ref a) (C := RX3) (T := TX3) (N := 2) hx hb hts hinX3 hown hK hP 0 rfl rfl 0 (by decide) (hts (.fieldLink RX3 9 "TaleReader$Pins" "targets" "[I") (uc4 _ (List.mem_of_getElem? (i := 12) rfl))) (fun _ h9 => h9) rfl dX3_put_31 ?_
        refine lv_iload_n hx hb dX3_put_34 rfl (lv_at hl 1 rfl) ?_
        refine lv_iload_n hx hb dX3_put_35 rfl (lv_at hl 2 rfl) ?_
        refine va_iast (D := D) hx hb hK hP hD hS 1 1 rfl rfl (vp_in_nI (by omega) (by omega)) dX3_put_36 (fun H_11 L_12 hP hD hS => ?_)
        obtain ⟨g_13, eg_13⟩ : ∃ gg : Nat → Int32, gg = upd f ((nI j)).toNatClampNeg y := ⟨_, rfl⟩
        have hP : va_P D vwCl [(h0, .inr (3, [.ref a, .int (nI (pc + 1))])), (a, .inl (cI, 80, .inl g_13))] H_11 := by rw [eg_13]; exact hP
        have hD : va_D A [(h0, .inr (3, [.ref a, .int (nI (pc + 1))])), (a, .inl (cI, 80, .inl g_13))] := by rw [eg_13]; exact hD
        obtain rfl : g_13 = upd f j y := eg_13.trans (by rw [nI_clamp (by omega)])
        have hP9 := hP.sub (ws' := [(h0, .inr (3, [.ref a, .int (nI (pc + 1))])), (a, .inl (cI, 80, .inl (upd f j y)))]) [0, 1] rfl
        have hD9 := hD.sub (ws' := [(h0, .inr (3, [.ref a, .int (nI (pc + 1))])), (a, .inl (cI, 80, .inl (upd f j y)))]) [0, 1] (by decide) rfl
        exact W.vret hx hb hr (fun t ht hW => ⟨⟨(pc + 1, upd f j y), rfl, Or.inl (⟨hfj, rfl, rfl⟩), ⟨by rw [ht]; exact hP9, va_K.moved hW.alike hK, hD9⟩⟩, hS.F ht⟩) hS.2.2 dX3_put_37
set_option maxHeartbeats 4000000 in
set_option maxRecDepth 100000 in
theorem f_X3_drop (l : Launch) (D : va_G) (cB cI cZ : ClassId) (E : pEt) (sz : Nat) (h0 : Nat) (j : Nat) (a : Nat) (pc : Nat) (f : Nat → Int32) (hj80 : j < 80) (hpc : pc ≤ 20) (h1pc : 1 ≤ pc) (hfj : ¬ f j = -1) : Met l yX3_drop (.code yX3_drop cX3_drop 2 none :: wsL_law) ({ frames := 1, cells := 0, slots := 0, locals := 21 } : Room) (va_Pc [.ref h0, .int (nI j)] (pInE E D (pT cB cI cZ) sz [(h0, .inr (3, [.ref a, .int (nI pc)])), (a, .inl (cI, 80, .inl f))])) (va_Qv (fun (u : Unit) => True) (fun (u : Unit) (t : State) => pAt D (pT cB cI cZ) (va_A [(h0, .inr (3, [.ref a, .int (nI pc)])), (a, .inl (cI, 80, .inl f))] sz) [(h0, .inr (3, [.ref a, .int (nI (pc - 1))])), (a, .inl (cI, 80, .inl (upd f j (-1))))] t) (va_A [(h0, .inr (3, [.ref a, .int (nI pc)])), (a, .inl (cI, 80, .inl f))] sz)) 0 0 (va_A [(h0, .inr (3, [.ref a, .int (nI pc)])), (a, .inl (cI, 80, .inl f))] sz) := by
  refine Met.ofW (cc := cX3_drop) (maxL := 2) (ret := none) (by decide) rfl ?_
  intro p e s m args below meth cd s₁ B hml hv
  obtain ⟨rfl, hsz, hP, hK, hD0, hE⟩ := hv
  have hx := B.exec
  have hb := B.bytes
  have hr := B.returns
  have hts0 := atoms_spec (ws := .code yX3_drop cX3_drop 2 none :: wsL_law) B.pre
  have hts := fun (w : Cond) (h : w ∈ wsL_law) => hts0 w (List.mem_cons_of_mem _ h)
  have hown : s.vm.findClass RX3 = some m.cls := findClass_of_methodNamed B.named
  have hlocks := B.notSynchronized
  have hinX3 := inlX3
  subst hsz
  have hD := hD0.self (sz := s.heap.size)
  generalize hAe : va_A [(h0, .inr (3, [.ref a, .int (nI pc)])), (a, .inl (cI, 80, .inl f))] s.heap.size = A at hD hE ⊢
  have hA : ∀ q : Nat, s.heap.size ≤ q → A q := fun q h => by rw [← hAe]; exact Or.inr h
  have hS : va_S A s.heap s.heap [] := va_S.rf
  have hP : va_P D vwCl [(h0, .inr (3, [.ref a, .int (nI pc)])), (a, .inl (cI, 80, .inl f))] s.heap := hP
  have hl := lv_entry ([.ref h0, .int (nI j)]) (n := 2) (Nat.le_of_ble_eq_true rfl)
  rw [lg_entry_eq]
  generalize (lg_sl ([.ref h0, .int (nI j)]) ++ List.replicate (2 - (lg_sl ([.ref h0, .int (nI j)])).length) Slot.unset).toArray = ls at hl ⊢
  have hl : lv_has ls 2 [(0, .ref h0), (1, .int (nI j))] := hl
  refine lv_aload_n hx hb dX3_drop_0 rfl (lv_at hl 0 rfl) ?_
  refine lv_iload_n hx hb dX3_drop_1 rfl (lv_at hl 1 rfl) ?_
  have hPc := hP.sub (ws' := [(h0, .inr (3, [.ref a, .int (nI pc)])), (a, .inl (cI, 80, .inl f))]) [0, 1] rfl
  have hDc := hD.sub (ws' := [(h0, .inr (3, [.ref a, .int (nI pc)])), (a, .inl (cI, 80, .inl f))]) [0, 1] (by decide) rfl
  have hFc := va_free (wc := [(h0, .inr (3, [.ref a, .int (nI pc)])), (a, .inl (cI, 80, .inl f))]) hD hS hA [0, 1] rfl
  refine va_calli (va_runV (As := [.int (nI j)]) (rest := []) ⟨hx, hb, hml, hown, hts⟩ (f_X3_targetOf l D cB cI cZ E s.heap.size h0 (nI j) a (nI pc) f) (cwV 1 hts (uV (uc33 _ (List.mem_of_getElem? (i := 22) rfl)) (uc18 _ (List.mem_of_getElem? (i := 8) rfl)) (uc18 _ (List.mem_of_getElem? (i := 9) rfl)) (uc2 _ (List.mem_of_getElem? (i := 2) rfl)) (uc18 _ (List.mem_of_getElem? (i := 10) rfl))) rfl rfl rfl (by decide +kernel) ⟨Nat.le_of_ble_eq_true rfl, Nat.le_of_ble_eq_true rfl⟩) (pVE hE hS hFc hK hPc hDc 0 rfl rfl) rfl rfl hl.1 rfl (lv_room (Nat.le_of_ble_eq_true rfl)) dX3_drop_2 ⟨Nat.le_of_ble_eq_true rfl, Nat.le_of_ble_eq_true rfl⟩) hS (fun q _ h => hFc q h) hFc (fun r_1 u t H_2 L_3 ht hvm hw hB hz1 hk1 hS => ?_)
  obtain ⟨hP1, -, hD1⟩ := hB
  rw [ht] at hP1
  obtain ⟨hP, hD⟩ := va_join (wr := []) (w1 := [(h0, .inr (3, [.ref a, .int (nI pc)])), (a, .inl (cI, 80, .inl f))]) hP hD [0, 1] [] rfl rfl (by decide) (by decide) hk1 hFc hP1 hD1
  have hP : va_P D vwCl [(h0, .inr (3, [.ref a, .int (nI pc)])), (a, .inl (cI, 80, .inl f))] H_2 := hP.sub [0, 1] rfl
  have hD : va_D A [(h0, .inr (3, [.ref a, .int (nI pc)])), (a, .inl (cI, 80, .inl f))] := hD.sub [0, 1] (by decide) rfl
  try dsimp only at hw
  rcases hw with ⟨rfl, h_4⟩ | h_5
  · exact False.elim (by exact h_4 ⟨j, hj80, rfl⟩)
  · obtain ⟨j2, hj2, ej2, rfl⟩ := h_5
    have hjj : j = j2 := nI80 hj80 hj2 ej2
    refine lv_iconst (v := (-1)) hx hb dX3_drop_5 (by decide) ?_
    refine lv_icmp_eq (tgt := 26) hx hb dX3_drop_6 (by decide) (fun c_6 => ?_) (fun c_6 => ?_)
    · exact False.elim (by exact hfj (by rw [hjj]; exact c_6))
    · refine lv_aload_n hx hb dX3_drop_9 rfl (lv_at hl 0 rfl) ?_
      refine va_get (D := D) (ci := 3) (v := .ref a) (C := RX3) (T := TX3) (N := 2) hx hb hts hinX3 hown hK hP 0 rfl rfl 0 (by decide) (hts (.fieldLink RX3 9 "TaleReader$Pins" "targets" "[I") (uc4 _ (List.mem_of_getElem? (i := 12) rfl))) (fun _ h9 => h9) rfl dX3_drop_10 ?_
      refine lv_iload_n hx hb dX3_drop_13 rfl (lv_at hl 1 rfl) ?_
      refine lv_iconst (v := (-1)) hx hb dX3_drop_14 (by decide) ?_
      refine va_iast (D := D) hx hb hK hP hD hS 1 1 rfl rfl (vp_in_nI (by omega) (by omega)) dX3_drop_15 (fun H_7 L_8 hP hD hS => ?_)
      obtain ⟨g_9, eg_9⟩ : ∃ gg : Nat → Int32, gg = upd f ((nI j)).toNatClampNeg (-1) := ⟨_, rfl⟩
      have hP : va_P D vwCl [(h0, .inr (3, [.ref a, .int (nI pc)])), (a, .inl (cI, 80, .inl g_9))] H_7 := by rw [eg_9]; exact hP
      have hD : va_D A [(h0, .inr (3, [.ref a, .int (nI pc)])), (a, .inl (cI, 80, .inl g_9))] := by rw [eg_9]; exact hD
      obtain rfl : g_9 = upd f j (-1) := eg_9.trans (by rw [nI_clamp (by omega)])
      refine lv_aload_n hx hb dX3_drop_16 rfl (lv_at hl 0 rfl) ?_
      refine lv_dup hx hb dX3_drop_17 rfl ?_
      refine va_get (D := D) (ci := 3) (v := .int (nI pc)) (C := RX3) (T := TX3) (N := 2) hx hb hts hinX3 hown hK hP 0 rfl rfl 1 (by decide) (hts (.fieldLink RX3 21 "TaleReader$Pins" "count" "I") (uc4 _ (List.mem_of_getElem? (i := 13) rfl))) (fun _ h9 => h9) rfl dX3_drop_18 ?_
      refine lv_iconst (v := 1) hx hb dX3_drop_21 (by decide) ?_
      refine lv_isub hx hb dX3_drop_22 ?_
      refine lv_topi (fun z_10 ez_10 => ?_)
      obtain rfl : z_10 = nI (pc - 1) := ez_10.trans (pk_sub (b := 1) (by omega))
      refine va_put (D := D) (ci := 3) (v := .int (nI (pc - 1))) (ty := .int) (C := RX3) (T := TX3) (N := 2) hx hb hts hinX3 tyX3 tyX3_ok nmX3 hown hK hP hD hS 0 rfl rfl 1 (by decide) (hts (.fieldLink RX3 21 "TaleReader$Pins" "count" "I") (uc4 _ (List.mem_of_getElem? (i := 13) rfl))) (fun _ h9 => h9) rfl (by decide +kernel) rfl rfl (Nat.le_of_ble_eq_true rfl) dX3_drop_23 (fun H_11 L_12 hP hD hS => ?_)
      have hP : va_P D vwCl [(h0, .inr (3, [.ref a, .int (nI (pc - 1))])), (a, .inl (cI, 80, .inl (upd f j (-1))))] H_11 := hP
      have hD : va_D A [(h0, .inr (3, [.ref a, .int (nI (pc - 1))])), (a, .inl (cI, 80, .inl (upd f j (-1))))] := hD
      have hP9 := hP.sub (ws' := [(h0, .inr (3, [.ref a, .int (nI (pc - 1))])), (a, .inl (cI, 80, .inl (upd f j (-1))))]) [0, 1] rfl
      have hD9 := hD.sub (ws' := [(h0, .inr (3, [.ref a, .int (nI (pc - 1))])), (a, .inl (cI, 80, .inl (upd f j (-1))))]) [0, 1] (by decide) rfl
      exact W.vret hx hb hr (fun t ht hW => ⟨⟨(), rfl, trivial, ⟨by rw [ht]; exact hP9, va_K.moved hW.alike hK, hD9⟩⟩, hS.F ht⟩) hS.2.2 dX3_drop_26
