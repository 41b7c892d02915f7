set_option maxHeartbeats 4000000 in
set_option maxRecDepth 100000 in
theorem s_X2_init (l : Launch) (D : va_G) (cB cI cZ : ClassId) (E : pEt) (sz : Nat) (h0 : Nat) (mn : Nat) : Met l yX2_init (.code yX2_init cX2_init 2 none :: wsL_law) ({ frames := 1, cells := 2, slots := 160, locals := 12 } : Room) (va_Pc [.ref h0, .ref mn] (pInE E D (pT cB cI cZ) sz [(h0, .inr (2, [.null, .null, .null, .int 0]))])) (va_Qv (fun (u : Nat × Nat) => True) (fun (u : Nat × Nat) (t : State) => pAt D (pT cB cI cZ) (va_A [(h0, .inr (2, [.null, .null, .null, .int 0]))] sz) [(h0, .inr (2, [.ref mn, .ref u.1, .ref u.2, .int 0])), (u.1, .inl (cI, 80, .inl (fun _ => 0))), (u.2, .inl (cI, 80, .inl (fun _ => 0)))] t) (va_A [(h0, .inr (2, [.null, .null, .null, .int 0]))] sz)) 2 160 (va_A [(h0, .inr (2, [.null, .null, .null, .int 0]))] sz) := by
  refine Met.ofW (cc := cX2_init) (maxL := 2) (ret := none) (by decide) rfl ?_
  intro p e s m args below meth cd s₁ B hml hv
  obtain ⟨rfl, hsz, hP, hK, hD0, hE⟩ := hv
  have hx := B.exec
  have hb := B.bytes
  have hr := B.returns
  have hts0 := atoms_spec (ws := .code yX2_init cX2_init 2 none :: wsL_law) B.pre
  have hts := fun (w : Cond) (h : w ∈ wsL_law) => hts0 w (List.mem_cons_of_mem _ h)
  have hown : s.vm.findClass RX2 = some m.cls := findClass_of_methodNamed B.named
  have hlocks := B.notSynchronized
  have hin : meth.name = "<init>" := (name_of_methodNamed B.named B.method).1
  have hinX2 := inlX2
  subst hsz
  have hD := hD0.self (sz := s.heap.size)
  generalize hAe : va_A [(h0, .inr (2, [.null, .null, .null, .int 0]))] s.heap.size = A at hD hE ⊢
  have hA : ∀ q : Nat, s.heap.size ≤ q → A q := fun q h => by rw [← hAe]; exact Or.inr h
  have hS : va_S A s.heap s.heap [] := va_S.rf
  have hP : va_P D vwCl [(h0, .inr (2, [.null, .null, .null, .int 0]))] s.heap := hP
  have hl := lv_entry ([.ref h0, .ref mn]) (n := 2) (Nat.le_of_ble_eq_true rfl)
  rw [lg_entry_eq]
  generalize (lg_sl ([.ref h0, .ref mn]) ++ List.replicate (2 - (lg_sl ([.ref h0, .ref mn])).length) Slot.unset).toArray = ls at hl ⊢
  have hl : lv_has ls 2 [(0, .ref h0), (1, .ref mn)] := hl
  refine lv_aload_n hx hb dX2_init_0 rfl (lv_at hl 0 rfl) ?_
  refine W.objInit hx hb hown (hts (.methodLink RX2 3 objectInit) (uc5 _ (List.mem_of_getElem? (i := 20) rfl))) (hts (.instanceMethod objectInit) (uc1 _ (List.mem_of_getElem? (i := 10) rfl))) (hts (.code objectInit ⟨#[0xb1]⟩ 1 none) (uc1 _ (List.mem_of_getElem? (i := 11) rfl))) rfl (by rw [hml]; exact hl.1) rfl dX2_init_1 (Nat.le_of_ble_eq_true rfl) (Nat.le_of_ble_eq_true rfl) ?_
  refine W.eq (g2 := F0 m 4 ls []) rfl ?_
  refine lv_aload_n hx hb dX2_init_4 rfl (lv_at hl 0 rfl) ?_
  refine lv_aload_n hx hb dX2_init_5 rfl (lv_at hl 1 rfl) ?_
  refine va_putF (D := D) (ci := 2) (v := .ref mn) (ty := (.object "TaleReader$Mentions")) (C := RX2) (T := TX2) (N := 4) hx hb hts hinX2 tyX2 tyX2_ok nmX2 hown hK hP hD hS 0 rfl rfl 0 (by decide) (hts (.fieldLink RX2 9 "TaleReader$Names" "mentions" "LTaleReader$Mentions;") (uc5 _ (List.mem_of_getElem? (i := 21) rfl))) (fun _ h9 => h9) rfl hin rfl (by decide +kernel) rfl rfl (Nat.le_of_ble_eq_true rfl) dX2_init_6 (fun H_1 L_2 hP hD hS => ?_)
  have hP : va_P D vwCl [(h0, .inr (2, [.ref mn, .null, .null, .int 0]))] H_1 := hP
  have hD : va_D A [(h0, .inr (2, [.ref mn, .null, .null, .int 0]))] := hD
  refine lv_aload_n hx hb dX2_init_9 rfl (lv_at hl 0 rfl) ?_
  refine lv_bipush (v := 80) hx hb dX2_init_10 (by decide) ?_
  refine pNewa (D := D) (cl := vwCl) (ty := .int) (N' := 80) (a0 := (80, .inl (fun _ => 0))) (cA := cI) hx hb (hts (.arrayClass .int) (uc3 _ (List.mem_of_getElem? (i := 13) rfl))) rfl hK hP hD hS hA (fun _ => rfl) (by decide) (by decide) (by decide) (Nat.le_of_ble_eq_true rfl) (Nat.le_of_ble_eq_true rfl) dX2_init_12 1 rfl (fun q_3 H_4 hP hD hS => ?_)
  have hP : va_P D vwCl [(h0, .inr (2, [.ref mn, .null, .null, .int 0])), (q_3, .inl (cI, 80, .inl (fun _ => 0)))] H_4 := hP
  have hD : va_D A [(h0, .inr (2, [.ref mn, .null, .null, .int 0])), (q_3, .inl (cI, 80, .inl (fun _ => 0)))] := hD
  refine W.widen (k := 1) (n := 80) (by decide) (by decide) ?_
  refine va_putF (D := D) (ci := 2) (v := .ref q_3) (ty := (.array .int)) (C := RX2) (T := TX2) (N := 4) hx hb hts hinX2 tyX2 tyX2_ok nmX2 hown hK hP hD hS 0 rfl rfl 1 (by decide) (hts (.fieldLink RX2 15 "TaleReader$Names" "firstMentions" "[I") (uc5 _ (List.mem_of_getElem? (i := 22) rfl))) (fun _ h9 => h9) rfl hin rfl (by decide +kernel) rfl rfl (Nat.le_of_ble_eq_true rfl) dX2_init_14 (fun H_5 L_6 hP hD hS => ?_)
  have hP : va_P D vwCl [(h0, .inr (2, [.ref mn, .ref q_3, .null, .int 0])), (q_3, .inl (cI, 80, .inl (fun _ => 0)))] H_5 := hP
  have hD : va_D A [(h0, .inr (2, [.ref mn, .ref q_3, .null, .int 0])), (q_3, .inl (cI, 80, .inl (fun _ => 0)))] := hD
  refine lv_aload_n hx hb dX2_init_17 rfl (lv_at hl 0 rfl) ?_
  refine lv_bipush (v := 80) hx hb dX2_init_18 (by decide) ?_
  refine pNewa (D := D) (cl := vwCl) (ty := .int) (N' := 80) (a0 := (80, .inl (fun _ => 0))) (cA := cI) hx hb (hts (.arrayClass .int) (uc3 _ (List.mem_of_getElem? (i := 13) rfl))) rfl hK hP hD hS hA (fun _ => rfl) (by decide) (by decide) (by decide) (Nat.le_of_ble_eq_true rfl) (Nat.le_of_ble_eq_true rfl) dX2_init_20 1 rfl (fun q_7 H_8 hP hD hS => ?_)
  have hP : va_P D vwCl [(h0, .inr (2, [.ref mn, .ref q_3, .null, .int 0])), (q_3, .inl (cI, 80, .inl (fun _ => 0))), (q_7, .inl (cI, 80, .inl (fun _ => 0)))] H_8 := hP
  have hD : va_D A [(h0, .inr (2, [.ref mn, .ref q_3, .null, .int 0])), (q_3, .inl (cI, 80, .inl (fun _ => 0))), (q_7, .inl (cI, 80, .inl (fun _ => 0)))] := hD
  refine W.widen (k := 2) (n := 160) (by decide) (by decide) ?_
  refine va_putF (D := D) (ci := 2) (v := .ref q_7) (ty := (.array .int)) (C := RX2) (T := TX2) (N := 4) hx hb hts hinX2 tyX2 tyX2_ok nmX2 hown hK hP hD hS 0 rfl rfl 2 (by decide) (hts (.fieldLink RX2 19 "TaleReader$Names" "owners" "[I") (uc5 _ (List.mem_of_getElem? (i := 23) rfl))) (fun _ h9 => h9) rfl hin rfl (by decide +kernel) rfl rfl (Nat.le_of_ble_eq_true rfl) dX2_init_22 (fun H_9 L_10 hP hD hS => ?_)
  have hP : va_P D vwCl [(h0, .inr (2, [.ref mn, .ref q_3, .ref q_7, .int 0])), (q_3, .inl (cI, 80, .inl (fun _ => 0))), (q_7, .inl (cI, 80, .inl (fun _ => 0)))] H_9 := hP
  have hD : va_D A [(h0, .inr (2, [.ref mn, .ref q_3, .ref q_7, .int 0])), (q_3, .inl (cI, 80, .inl (fun _ => 0))), (q_7, .inl (cI, 80, .inl (fun _ => 0)))] := hD
  refine lv_aload_n hx hb dX2_init_25 rfl (lv_at hl 0 rfl) ?_
  refine lv_iconst (v := 0) hx hb dX2_init_26 (by decide) ?_
  refine va_put (D := D) (ci := 2) (v := .int 0) (ty := .int) (C := RX2) (T := TX2) (N := 4) hx hb hts hinX2 tyX2 tyX2_ok nmX2 hown hK hP hD hS 0 rfl rfl 3 (by decide) (hts (.fieldLink RX2 22 "TaleReader$Names" "count" "I") (uc6 _ (List.mem_of_getElem? (i := 0) rfl))) (fun _ h9 => h9) rfl (by decide +kernel) rfl rfl (Nat.le_of_ble_eq_true rfl) dX2_init_27 (fun H_11 L_12 hP hD hS => ?_)
  have hP : va_P D vwCl [(h0, .inr (2, [.ref mn, .ref q_3, .ref q_7, .int 0])), (q_3, .inl (cI, 80, .inl (fun _ => 0))), (q_7, .inl (cI, 80, .inl (fun _ => 0)))] H_11 := hP
  have hD : va_D A [(h0, .inr (2, [.ref mn, .ref q_3, .ref q_7, .int 0])), (q_3, .inl (cI, 80, .inl (fun _ => 0))), (q_7, .inl (cI, 80, .inl (fun _ => 0)))] := hD
  have hP9 := hP.sub (ws' := [(h0, .inr (2, [.ref mn, .ref q_3, .ref q_7, .int 0])), (q_3, .inl (cI, 80, .inl (fun _ => 0))), (q_7, .inl (cI, 80, .inl (fun _ => 0)))]) [0, 1, 2] rfl
  have hD9 := hD.sub (ws' := [(h0, .inr (2, [.ref mn, .ref q_3, .ref q_7, .int 0])), (q_3, .inl (cI, 80, .inl (fun _ => 0))), (q_7, .inl (cI, 80, .inl (fun _ => 0)))]) [0, 1, 2] (by decide) rfl
  exact W.vret hx hb hr (fun t ht hW => ⟨⟨(q_3, q_7), rfl, trivial, ⟨by rw [ht]; exact hP9, va_K.moved hW.alike hK, hD9⟩⟩, hS.F ht⟩) hS.2.2 dX2_init_30
set_option maxHeartbeats 4000000 in
set_option maxRecDepth 100000 in
theorem s_X2_clear (l : Launch) (D : va_G) (cB cI cZ : ClassId) (E : pEt) (sz : Nat) (h0 : Nat) (mn : Nat) (na1 : Nat) (na2 : Nat) (v : Int32) : Met l yX2_clear (.code yX2_clear cX2_clear 1 none :: wsL_law) ({ frames := 0, cells := 0, slots := 0, locals := 0 } : Room) (va_Pc [.ref h0] (pInE E D (pT cB cI cZ) sz [(h0, .inr (2, [.ref mn, .ref na1, .ref na2, .int v]))])) (va_Qv (fun (u : Unit) => True) (fun (u : Unit) (t : State) => pAt D (pT cB cI cZ) (va_A [(h0, .inr (2, [.ref mn, .ref na1, .ref na2, .int v]))] sz) [(h0, .inr (2, [.ref mn, .ref na1, .ref na2, .int 0]))] t) (va_A [(h0, .inr (2, [.ref mn, .ref na1, .ref na2, .int v]))] sz)) 0 0 (va_A [(h0, .inr (2, [.ref mn, .ref na1, .ref na2, .int v]))] sz) := by
  refine Met.ofW (cc := cX2_clear) (maxL := 1) (ret := none) (by decide) rfl ?_
  intro p e s m args below meth cd s₁ B hml hv
  obtain ⟨rfl, hsz, hP, hK, hD0, hE⟩ := hv
  have hx := B.exec
  have hb := B.bytes
  have hr := B.returns
  have hts0 := atoms_spec (ws := .code yX2_clear cX2_clear 1 none :: wsL_law) B.pre
  have hts := fun (w : Cond) (h : w ∈ wsL_law) => hts0 w (List.mem_cons_of_mem _ h)
  have hown : s.vm.findClass RX2 = some m.cls := findClass_of_methodNamed B.named
  have hlocks := B.notSynchronized
  have hinX2 := inlX2
  subst hsz
  have hD := hD0.self (sz := s.heap.size)
  generalize hAe : va_A [(h0, .inr (2, [.ref mn, .ref na1, .ref na2, .int v]))] s.heap.size = A at hD hE ⊢
  have hA : ∀ q : Nat, s.heap.size ≤ q → A q := fun q h => by rw [← hAe]; exact Or.inr h
  have hS : va_S A s.heap s.heap [] := va_S.rf
  have hP : va_P D vwCl [(h0, .inr (2, [.ref mn, .ref na1, .ref na2, .int v]))] s.heap := hP
  have hl := lv_entry ([.ref h0]) (n := 1) (Nat.le_of_ble_eq_true rfl)
  rw [lg_entry_eq]
  generalize (lg_sl ([.ref h0]) ++ List.replicate (1 - (lg_sl ([.ref h0])).length) Slot.unset).toArray = ls at hl ⊢
  have hl : lv_has ls 1 [(0, .ref h0)] := hl
  refine lv_aload_n hx hb dX2_clear_0 rfl (lv_at hl 0 rfl) ?_
  refine lv_iconst (v := 0) hx hb dX2_clear_1 (by decide) ?_
  refine va_put (D := D) (ci := 2) (v := .int 0) (ty := .int) (C := RX2) (T := TX2) (N := 4) hx hb hts hinX2 tyX2 tyX2_ok nmX2 hown hK hP hD hS 0 rfl rfl 3 (by decide) (hts (.fieldLink RX2 22 "TaleReader$Names" "count" "I") (uc6 _ (List.mem_of_getElem? (i := 0) rfl))) (fun _ h9 => h9) rfl (by decide +kernel) rfl rfl (Nat.le_of_ble_eq_true rfl) dX2_clear_2 (fun H_1 L_2 hP hD hS => ?_)
  have hP : va_P D vwCl [(h0, .inr (2, [.ref mn, .ref na1, .ref na2, .int 0]))] H_1 := hP
  have hD : va_D A [(h0, .inr (2, [.ref mn, .ref na1, .ref na2, .int 0]))] := hD
  have hP9 := hP.sub (ws' := [(h0, .inr (2, [.ref mn, .ref na1, .ref na2, .int 0]))]) [0] rfl
  have hD9 := hD.sub (ws' := [(h0, .inr (2, [.ref mn, .ref na1, .ref na2, .int 0]))]) [0] (by decide) rfl
  exact W.vret hx hb hr (fun t ht hW => ⟨⟨(), rfl, trivial, ⟨by rw [ht]; exact hP9, va_K.moved hW.alike hK, hD9⟩⟩, hS.F ht⟩) hS.2.2 dX2_clear_5
set_option maxHeartbeats 4000000 in
set_option maxRecDepth 100000 in
theorem s_X2_add (l : Launch) (D : va_G) (cB cI cZ : ClassId) (E : pEt) (sz : Nat) (h0 : Nat) (x : Int32) (y : Int32) (mn : Nat) (na1 : Nat) (na2 : Nat) (e0 : Nat) (fn1 : Nat → Int32) (fn2 : Nat → Int32) (he : e0 ≤ 80) : Met l yX2_add (.code yX2_add cX2_add 3 none :: wsL_law) ({ frames := 0, cells := 0, slots := 0, locals := 0 } : Room) (va_Pc [.ref h0, .int x, .int y] (pInE E D (pT cB cI cZ) sz [(h0, .inr (2, [.ref mn, .ref na1, .ref na2, .int (nI e0)])), (na1, .inl (cI, 80, .inl fn1)), (na2, .inl (cI, 80, .inl fn2))])) (va_Qv (fun (u : Nat × (Nat → Int32) × (Nat → Int32)) => u.1 ≤ 80) (fun (u : Nat × (Nat → Int32) × (Nat → Int32)) (t : State) => pAt D (pT cB cI cZ) (va_A [(h0, .inr (2, [.ref mn, .ref na1, .ref na2, .int (nI e0)])), (na1, .inl (cI, 80, .inl fn1)), (na2, .inl (cI, 80, .inl fn2))] sz) [(h0, .inr (2, [.ref mn, .ref na1, .ref na2, .int (nI u.1)])), (na1, .inl (cI, 80, .inl u.2.1)), (na2, .inl (cI, 80, .inl u.2.2))] t) (va_A [(h0, .inr (2, [.ref mn, .ref na1, .ref na2, .int (nI e0)])), (na1, .inl (cI, 80, .inl fn1)), (na2, .inl (cI, 80, .inl fn2))] sz)) 0 0 (va_A [(h0, .inr (2, [.ref mn, .ref na1, .ref na2, .int (nI e0)])), (na1, .inl (cI, 80, .inl fn1)), (na2, .inl (cI, 80, .inl fn2))] sz) := by
  refine Met.ofW (cc := cX2_add) (maxL := 3) (ret := none) (by decide) rfl ?_
  intro p e s m args below meth cd s₁ B hml hv
  obtain ⟨rfl, hsz, hP, hK, hD0, hE⟩ := hv
  have hx := B.exec
  have hb := B.bytes
  have hr := B.returns
  have hts0 := atoms_spec (ws := .code yX2_add cX2_add 3 none :: wsL_law) B.pre
  have hts := fun (w : Cond) (h : w ∈ wsL_law) => hts0 w (List.mem_cons_of_mem _ h)
  have hown : s.vm.findClass RX2 = some m.cls := findClass_of_methodNamed B.named
  have hlocks := B.notSynchronized
  have hinX2 := inlX2
  subst hsz
  have hD := hD0.self (sz := s.heap.size)
  generalize hAe : va_A [(h0, .inr (2, [.ref mn, .ref na1, .ref na2, .int (nI e0)])), (na1, .inl (cI, 80, .inl fn1)), (na2, .inl (cI, 80, .inl fn2))] s.heap.size = A at hD hE ⊢
  have hA : ∀ q : Nat, s.heap.size ≤ q → A q := fun q h => by rw [← hAe]; exact Or.inr h
  have hS : va_S A s.heap s.heap [] := va_S.rf
  have hP : va_P D vwCl [(h0, .inr (2, [.ref mn, .ref na1, .ref na2, .int (nI e0)])), (na1, .inl (cI, 80, .inl fn1)), (na2, .inl (cI, 80, .inl fn2))] s.heap := hP
  have hl := lv_entry ([.ref h0, .int x, .int y]) (n := 3) (Nat.le_of_ble_eq_true rfl)
  rw [lg_entry_eq]
  generalize (lg_sl ([.ref h0, .int x, .int y]) ++ List.replicate (3 - (lg_sl ([.ref h0, .int x, .int y])).length) Slot.unset).toArray = ls at hl ⊢
  have hl : lv_has ls 3 [(0, .ref h0), (1, .int x), (2, .int y)] := hl
  refine lv_aload_n hx hb dX2_add_0 rfl (lv_at hl 0 rfl) ?_
  refine va_get (D := D) (ci := 2) (v := .int (nI e0)) (C := RX2) (T := TX2) (N := 4) hx hb hts hinX2 hown hK hP 0 rfl rfl 3 (by decide) (hts (.fieldLink RX2 22 "TaleReader$Names" "count" "I") (uc6 _ (List.mem_of_getElem? (i := 0) rfl))) (fun _ h9 => h9) rfl dX2_add_1 ?_
  refine lv_bipush (v := 80) hx hb dX2_add_4 (by decide) ?_
  refine lv_icmp_ge (tgt := 44) hx hb dX2_add_6 (by decide) (fun c_1 => ?_) (fun c_1 => ?_)
  · have hP9 := hP.sub (ws' := [(h0, .inr (2, [.ref mn, .ref na1, .ref na2, .int (nI e0)])), (na1, .inl (cI, 80, .inl fn1)), (na2, .inl (cI, 80, .inl fn2))]) [0, 1, 2] rfl
    have hD9 := hD.sub (ws' := [(h0, .inr (2, [.ref mn, .ref na1, .ref na2, .int (nI e0)])), (na1, .inl (cI, 80, .inl fn1)), (na2, .inl (cI, 80, .inl fn2))]) [0, 1, 2] (by decide) rfl
    exact W.vret hx hb hr (fun t ht hW => ⟨⟨(e0, fn1, fn2), rfl, he, ⟨by rw [ht]; exact hP9, va_K.moved hW.alike hK, hD9⟩⟩, hS.F ht⟩) hS.2.2 dX2_add_44
  · have hlt_e0 : e0 < 80 := Nat.lt_of_not_le (fun q => c_1 (nI_le q (by omega)))
    refine lv_iload_n hx hb dX2_add_9 rfl (lv_at hl 2 rfl) ?_
    refine lv_iconst (v := (-1)) hx hb dX2_add_10 (by decide) ?_
    refine lv_icmp_eq (tgt := 44) hx hb dX2_add_11 (by decide) (fun c_2 => ?_) (fun c_2 => ?_)
    · have hP9 := hP.sub (ws' := [(h0, .inr (2, [.ref mn, .ref na1, .ref na2, .int (nI e0)])), (na1, .inl (cI, 80, .inl fn1)), (na2, .inl (cI, 80, .inl fn2))]) [0, 1, 2] rfl
      have hD9 := hD.sub (ws' := [(h0, .inr (2, [.ref mn, .ref na1, .ref na2, .int (nI e0)])), (na1, .inl (cI, 80, .inl fn1)), (na2, .inl (cI, 80, .inl fn2))]) [0, 1, 2] (by decide) rfl
      exact W.vret hx hb hr (fun t ht hW => ⟨⟨(e0, fn1, fn2), rfl, he, ⟨by rw [ht]; exact hP9, va_K.moved hW.alike hK, hD9⟩⟩, hS.F ht⟩) hS.2.2 dX2_add_44
    · refine lv_aload_n hx hb dX2_add_14 rfl (lv_at hl 0 rfl) ?_
      refine va_get (D := D) (ci := 2) (v := .ref na1) (C := RX2) (T := TX2) (N := 4) hx hb hts hinX2 hown hK hP 0 rfl rfl 1 (by decide) (hts (.fieldLink RX2 15 "TaleReader$Names" "firstMentions" "[I") (uc5 _ (List.mem_of_getElem? (i := 22) rfl))) (fun _ h9 => h9) rfl dX2_add_15 ?_
      refine lv_aload_n hx hb dX2_add_18 rfl (lv_at hl 0 rfl) ?_
      refine va_get (D := D) (ci := 2) (v := .int (nI e0)) (C := RX2) (T := TX2) (N := 4) hx hb hts hinX2 hown hK hP 0 rfl rfl 3 (by decide) (hts (.fieldLink RX2 22 "TaleReader$Names" "count" "I") (uc6 _ (List.mem_of_getElem? (i := 0) rfl))) (fun _ h9 => h9) rfl dX2_add_19 ?_
      refine lv_iload_n hx hb dX2_add_22 rfl (lv_at hl 1 rfl) ?_
      refine va_iast (D := D) hx hb hK hP hD hS 1 1 rfl rfl (vp_in_nI (by omega) (by omega)) dX2_add_23 (fun H_3 L_4 hP hD hS => ?_)
      obtain ⟨g_5, eg_5⟩ : ∃ gg : Nat → Int32, gg = upd fn1 ((nI e0)).toNatClampNeg x := ⟨_, rfl⟩
      have hP : va_P D vwCl [(h0, .inr (2, [.ref mn, .ref na1, .ref na2, .int (nI e0)])), (na1, .inl (cI, 80, .inl g_5)), (na2, .inl (cI, 80, .inl fn2))] H_3 := by rw [eg_5]; exact hP
      have hD : va_D A [(h0, .inr (2, [.ref mn, .ref na1, .ref na2, .int (nI e0)])), (na1, .inl (cI, 80, .inl g_5)), (na2, .inl (cI, 80, .inl fn2))] := by rw [eg_5]; exact hD
      refine lv_aload_n hx hb dX2_add_24 rfl (lv_at hl 0 rfl) ?_
      refine va_get (D := D) (ci := 2) (v := .ref na2) (C := RX2) (T := TX2) (N := 4) hx hb hts hinX2 hown hK hP 0 rfl rfl 2 (by decide) (hts (.fieldLink RX2 19 "TaleReader$Names" "owners" "[I") (uc5 _ (List.mem_of_getElem? (i := 23) rfl))) (fun _ h9 => h9) rfl dX2_add_25 ?_
      refine lv_aload_n hx hb dX2_add_28 rfl (lv_at hl 0 rfl) ?_
      refine va_get (D := D) (ci := 2) (v := .int (nI e0)) (C := RX2) (T := TX2) (N := 4) hx hb hts hinX2 hown hK hP 0 rfl rfl 3 (by decide) (hts (.fieldLink RX2 22 "TaleReader$Names" "count" "I") (uc6 _ (List.mem_of_getElem? (i := 0) rfl))) (fun _ h9 => h9) rfl dX2_add_29 ?_
      refine lv_iload_n hx hb dX2_add_32 rfl (lv_at hl 2 rfl) ?_
      refine va_iast (D := D) hx hb hK hP hD hS 2 1 rfl rfl (vp_in_nI (by omega) (by omega)) dX2_add_33 (fun H_6 L_7 hP hD hS => ?_)
      obtain ⟨g_8, eg_8⟩ : ∃ gg : Nat → Int32, gg = upd fn2 ((nI e0)).toNatClampNeg y := ⟨_, rfl⟩
      have hP : va_P D vwCl [(h0, .inr (2, [.ref mn, .ref na1, .ref na2, .int (nI e0)])), (na1, .inl (cI, 80, .inl g_5)), (na2, .inl (cI, 80, .inl g_8))] H_6 := by rw [eg_8]; exact hP
      have hD : va_D A [(h0, .inr (2, [.ref mn, .ref na1, .ref na2, .int (nI e0)])), (na1, .inl (cI, 80, .inl g_5)), (na2, .inl (cI, 80, .inl g_8))] := by rw [eg_8]; exact hD
      refine lv_aload_n hx hb dX2_add_34 rfl (lv_at hl 0 rfl) ?_
      refine lv_dup hx hb dX2_add_35 rfl ?_
      refine va_get (D := D) (ci := 2) (v := .int (nI e0)) (C := RX2) (T := TX2) (N := 4) hx hb hts hinX2 hown hK hP 0 rfl rfl 3 (by decide) (hts (.fieldLink RX2 22 "TaleReader$Names" "count" "I") (uc6 _ (List.mem_of_getElem? (i := 0) rfl))) (fun _ h9 => h9) rfl dX2_add_36 ?_
      refine lv_iconst (v := 1) hx hb dX2_add_39 (by decide) ?_
      refine lv_iadd hx hb dX2_add_40 ?_
      refine lv_topi (fun z_9 ez_9 => ?_)
      obtain rfl : z_9 = nI (e0 + 1) := ez_9.trans (nI_add e0 1)
      refine va_put (D := D) (ci := 2) (v := .int (nI (e0 + 1))) (ty := .int) (C := RX2) (T := TX2) (N := 4) hx hb hts hinX2 tyX2 tyX2_ok nmX2 hown hK hP hD hS 0 rfl rfl 3 (by decide) (hts (.fieldLink RX2 22 "TaleReader$Names" "count" "I") (uc6 _ (List.mem_of_getElem? (i := 0) rfl))) (fun _ h9 => h9) rfl (by decide +kernel) rfl rfl (Nat.le_of_ble_eq_true rfl) dX2_add_41 (fun H_10 L_11 hP hD hS => ?_)
      have hP : va_P D vwCl [(h0, .inr (2, [.ref mn, .ref na1, .ref na2, .int (nI (e0 + 1))])), (na1, .inl (cI, 80, .inl g_5)), (na2, .inl (cI, 80, .inl g_8))] H_10 := hP
      have hD : va_D A [(h0, .inr (2, [.ref mn, .ref na1, .ref na2, .int (nI (e0 + 1))])), (na1, .inl (cI, 80, .inl g_5)), (na2, .inl (cI, 80, .inl g_8))] := hD
      have hP9 := hP.sub (ws' := [(h0, .inr (2, [.ref mn, .ref na1, .ref na2, .int (nI (e0 + 1))])), (na1, .inl (cI, 80, .inl g_5)), (na2, .inl (cI, 80, .inl g_8))]) [0, 1, 2] rfl
      have hD9 := hD.sub (ws' := [(h0, .inr (2, [.ref mn, .ref na1, .ref na2, .int (nI (e0 + 1))])), (na1, .inl (cI, 80, .inl g_5)), (na2, .inl (cI, 80, .inl g_8))]) [0, 1, 2] (by decide) rfl
      exact W.vret hx hb hr (fun t ht hW => ⟨⟨(e0 + 1, g_5, g_8), rfl, (by omega), ⟨by rw [ht]; exact hP9, va_K.moved hW.alike hK, hD9⟩⟩, hS.F ht⟩) hS.2.2 dX2_add_44
set_option maxHeartbeats 4000000 in
set_option maxRecDepth 100000 in
theorem s_X2_ownerOf (l : Launch) (D : va_G) (cB cI cZ : ClassId) (E : pEt) (sz : Nat) (h0 : Nat) (x : Int32) (mn : Nat) (na1 : Nat) (na2 : Nat) (e0 : Nat) (fn1 : Nat → Int32) (fn2 : Nat → Int32) (w : Nat) (ma1 : Nat) (ma2 : Nat) (ma3 : Nat) (ma4 : Nat) (ma5 : Nat) (ma6 : Nat) (ma7 : Nat) (c : Nat) (cut : Int32) (fm2 : Nat → Int32) (fm3 : Nat → Int32) (tl : Nat) (wa1 : Nat) (wa2 : Nat) (wa3 : Nat) (wa4 : Nat) (vw : Int32) (sc : Int32) (ta : Nat) (kt : Nat) (ft : Nat → Int32) (he : e0 ≤ 80) (hc : c ≤ 80) (hkt : kt ≤ 600) : Met l yX2_ownerOf (.code yX2_ownerOf cX2_ownerOf 3 (some .int) :: wsL_law) ({ frames := 2, cells := 0, slots := 0, locals := 47 } : Room) (va_Pc [.ref h0, .int x] (pInE E D (pT cB cI cZ) sz [(h0, .inr (2, [.ref mn, .ref na1, .ref na2, .int (nI e0)])), (na1, .inl (cI, 80, .inl fn1)), (na2, .inl (cI, 80, .inl fn2)), (mn, .inr (1, [.ref w, .ref ma1, .ref ma2, .ref ma3, .ref ma4, .ref ma5, .ref ma6, .ref ma7, .int (nI c), .int cut])), (ma2, .inl (cI, 80, .inl fm2)), (ma3, .inl (cI, 80, .inl fm3)), (w, .inr (7, [.ref tl, .ref wa1, .ref wa2, .ref wa3, .ref wa4, .int vw, .int sc])), (tl, .inr (5, [.ref ta, .int (nI kt)])), (ta, .inl (cB, 600, .inl ft))])) (va_Qi (fun (r : Int32) (u : Unit) => True) (fun (u : Unit) (t : State) => pAt D (pT cB cI cZ) (va_A [(h0, .inr (2, [.ref mn, .ref na1, .ref na2, .int (nI e0)])), (na1, .inl (cI, 80, .inl fn1)), (na2, .inl (cI, 80, .inl fn2)), (mn, .inr (1, [.ref w, .ref ma1, .ref ma2, .ref ma3, .ref ma4, .ref ma5, .ref ma6, .ref ma7, .int (nI c), .int cut])), (ma2, .inl (cI, 80, .inl fm2)), (ma3, .inl (cI, 80, .inl fm3)), (w, .inr (7, [.ref tl, .ref wa1, .ref wa2, .ref wa3, .ref wa4, .int vw, .int sc])), (tl, .inr (5, [.ref ta, .int (nI kt)])), (ta, .inl (cB, 600, .inl ft))] sz) [(h0, .inr (2, [.ref mn, .ref na1, .ref na2, .int (nI e0)])), (na1, .inl (cI, 80, .inl fn1)), (na2, .inl (cI, 80, .inl fn2)), (mn, .inr (1, [.ref w, .ref ma1, .ref ma2, .ref ma3, .ref ma4, .ref ma5, .ref ma6, .ref ma7, .int (nI c), .int cut])), (ma2, .inl (cI, 80, .inl fm2)), (ma3, .inl (cI, 80, .inl fm3)), (w, .inr (7, [.ref tl, .ref wa1, .ref wa2, .ref wa3, .ref wa4, .int vw, .int sc])), (tl, .inr (5, [.ref ta, .int (nI kt)])), (ta, .inl (cB, 600, .inl ft))] t) (va_A [(h0, .inr (2, [.ref mn, .ref na1, .ref na2, .int (nI e0)])), (na1, .inl (cI, 80, .inl fn1)), (na2, .inl (cI, 80, .inl fn2)), (mn, .inr (1, [.ref w, .ref ma1, .ref ma2, .ref ma3, .ref ma4, .ref ma5, .ref ma6, .ref ma7, .int (nI c), .int cut])), (ma2, .inl (cI, 80, .inl fm2)), (ma3, .inl (cI, 80, .inl fm3)), (w, .inr (7, [.ref tl, .ref wa1, .ref wa2, .ref wa3, .ref wa4, .int vw, .int sc])), (tl, .inr (5, [.ref ta, .int (nI kt)])), (ta, .inl (cB, 600, .inl ft))] sz)) 0 0 (va_A [(h0, .inr (2, [.ref mn, .ref na1, .ref na2, .int (nI e0)])), (na1, .inl (cI, 80, .inl fn1)), (na2, .inl (cI, 80, .inl fn2)), (mn, .inr (1, [.ref w, .ref ma1, .ref ma2, .ref ma3, .ref ma4, .ref ma5, .ref ma6, .ref ma7, .int (nI c), .int cut])), (ma2, .inl (cI, 80, .inl fm2)), (ma3, .inl (cI, 80, .inl fm3)), (w, .inr (7, [.ref tl, .ref wa1, .ref wa2, .ref wa3, .ref wa4, .int vw, .int sc])), (tl, .inr (5, [.ref ta, .int (nI kt)])), (ta, .inl (cB, 600, .inl ft))] sz) := by
  refine Met.ofW (cc := cX2_ownerOf) (maxL := 3) (ret := (some .int)) (by decide) rfl ?_
  intro p e s m args below meth cd s₁ B hml hv
  obtain ⟨rfl, hsz, hP, hK, hD0, hE⟩ := hv
  have hx := B.exec
  have hb := B.bytes
  have hr := B.returns
  have hts0 := atoms_spec (ws := .code yX2_ownerOf cX2_ownerOf 3 (some .int) :: wsL_law) B.pre
  have hts := fun (w : Cond) (h : w ∈ wsL_law) => hts0 w (List.mem_cons_of_mem _ h)
  have hown : s.vm.findClass RX2 = some m.cls := findClass_of_methodNamed B.named
  have hlocks := B.notSynchronized
  have hinX2 := inlX2
  subst hsz
  have hD := hD0.self (sz := s.heap.size)
  generalize hAe : va_A [(h0, .inr (2, [.ref mn, .ref na1, .ref na2, .int (nI e0)])), (na1, .inl (cI, 80, .inl fn1)), (na2, .inl (cI, 80, .inl fn2)), (mn, .inr (1, [.ref w, .ref ma1, .ref ma2, .ref ma3, .ref ma4, .ref ma5, .ref ma6, .ref ma7, .int (nI c), .int cut])), (ma2, .inl (cI, 80, .inl fm2)), (ma3, .inl (cI, 80, .inl fm3)), (w, .inr (7, [.ref tl, .ref wa1, .ref wa2, .ref wa3, .ref wa4, .int vw, .int sc])), (tl, .inr (5, [.ref ta, .int (nI kt)])), (ta, .inl (cB, 600, .inl ft))] s.heap.size = A at hD hE ⊢
  have hA : ∀ q : Nat, s.heap.size ≤ q → A q := fun q h => by rw [← hAe]; exact Or.inr h
  have hS : va_S A s.heap s.heap [] := va_S.rf
  have hP : va_P D vwCl [(h0, .inr (2, [.ref mn, .ref na1, .ref na2, .int (nI e0)])), (na1, .inl (cI, 80, .inl fn1)), (na2, .inl (cI, 80, .inl fn2)), (mn, .inr (1, [.ref w, .ref ma1, .ref ma2, .ref ma3, .ref ma4, .ref ma5, .ref ma6, .ref ma7, .int (nI c), .int cut])), (ma2, .inl (cI, 80, .inl fm2)), (ma3, .inl (cI, 80, .inl fm3)), (w, .inr (7, [.ref tl, .ref wa1, .ref wa2, .ref wa3, .ref wa4, .int vw, .int sc])), (tl, .inr (5, [.ref ta, .int (nI kt)])), (ta, .inl (cB, 600, .inl ft))] s.heap := hP
  have hl := lv_entry ([.ref h0, .int x]) (n := 3) (Nat.le_of_ble_eq_true rfl)
  rw [lg_entry_eq]
  generalize (lg_sl ([.ref h0, .int x]) ++ List.replicate (3 - (lg_sl ([.ref h0, .int x])).length) Slot.unset).toArray = ls at hl ⊢
  have hl : lv_has ls 3 [(0, .ref h0), (1, .int x)] := hl
  generalize hQ : MQ below _ _ _ _ _ _ = Q
  refine lv_iconst (v := 0) hx hb dX2_ownerOf_0 (by decide) ?_
  refine lv_istore_n (lv' := [(2, .int 0), (0, .ref h0), (1, .int x)]) hx hb dX2_ownerOf_1 rfl hl (by decide) rfl (fun ls hl => ?_)
  have loop_1 : ∀ (nn_3 : Nat) (i : Nat), (i ≤ 600) → (e0 - i < nn_3) → ∀ (H : Heap) (locs : List Loc) (ls : Array Slot), va_P D vwCl [(h0, .inr (2, [.ref mn, .ref na1, .ref na2, .int (nI e0)])), (na1, .inl (cI, 80, .inl fn1)), (na2, .inl (cI, 80, .inl fn2)), (mn, .inr (1, [.ref w, .ref ma1, .ref ma2, .ref ma3, .ref ma4, .ref ma5, .ref ma6, .ref ma7, .int (nI c), .int cut])), (ma2, .inl (cI, 80, .inl fm2)), (ma3, .inl (cI, 80, .inl fm3)), (w, .inr (7, [.ref tl, .ref wa1, .ref wa2, .ref wa3, .ref wa4, .int vw, .int sc])), (tl, .inr (5, [.ref ta, .int (nI kt)])), (ta, .inl (cB, 600, .inl ft))] H → va_D A [(h0, .inr (2, [.ref mn, .ref na1, .ref na2, .int (nI e0)])), (na1, .inl (cI, 80, .inl fn1)), (na2, .inl (cI, 80, .inl fn2)), (mn, .inr (1, [.ref w, .ref ma1, .ref ma2, .ref ma3, .ref ma4, .ref ma5, .ref ma6, .ref ma7, .int (nI c), .int cut])), (ma2, .inl (cI, 80, .inl fm2)), (ma3, .inl (cI, 80, .inl fm3)), (w, .inr (7, [.ref tl, .ref wa1, .ref wa2, .ref wa3, .ref wa4, .int vw, .int sc])), (tl, .inr (5, [.ref ta, .int (nI kt)])), (ta, .inl (cB, 600, .inl ft))] → va_S A s.heap H locs → lv_has ls 3 [(0, .ref h0), (1, .int x), (2, .int (nI i))] → W p l e ({ frames := 2, cells := 0, slots := 0, locals := 47 } : Room) s m ([.ref h0, .int x] : List Value).toArray below meth cd H locs 0 0 Q (F0 m 2 ls []) := by
    intro nn_3
    induction nn_3 with
    | zero => intros; exact absurd ‹_ < 0› (Nat.not_lt_zero _)
    | succ nn_3 ih_2 =>
      intro i hi600 hmu H locs ls hP hD hS hl
      refine lv_iload_n hx hb dX2_ownerOf_2 rfl (lv_at hl 2 rfl) ?_
      refine lv_aload_n hx hb dX2_ownerOf_3 rfl (lv_at hl 0 rfl) ?_
      refine va_get (D := D) (ci := 2) (v := .int (nI e0)) (C := RX2) (T := TX2) (N := 4) hx hb hts hinX2 hown hK hP 0 rfl rfl 3 (by decide) (hts (.fieldLink RX2 22 "TaleReader$Names" "count" "I") (uc6 _ (List.mem_of_getElem? (i := 0) rfl))) (fun _ h9 => h9) rfl dX2_ownerOf_4 ?_
      refine lv_icmp_ge (tgt := 40) hx hb dX2_ownerOf_7 (by decide) (fun c_4 => ?_) (fun c_4 => ?_)
      · refine lv_iconst (v := (-1)) hx hb dX2_ownerOf_40 (by decide) ?_
        have hP9 := hP.sub (ws' := [(h0, .inr (2, [.ref mn, .ref na1, .ref na2, .int (nI e0)])), (na1, .inl (cI, 80, .inl fn1)), (na2, .inl (cI, 80, .inl fn2)), (mn, .inr (1, [.ref w, .ref ma1, .ref ma2, .ref ma3, .ref ma4, .ref ma5, .ref ma6, .ref ma7, .int (nI c), .int cut])), (ma2, .inl (cI, 80, .inl fm2)), (ma3, .inl (cI, 80, .inl fm3)), (w, .inr (7, [.ref tl, .ref wa1, .ref wa2, .ref wa3, .ref wa4, .int vw, .int sc])), (tl, .inr (5, [.ref ta, .int (nI kt)])), (ta, .inl (cB, 600, .inl ft))]) [0, 1, 2, 3, 4, 5, 6, 7, 8] rfl
        have hD9 := hD.sub (ws' := [(h0, .inr (2, [.ref mn, .ref na1, .ref na2, .int (nI e0)])), (na1, .inl (cI, 80, .inl fn1)), (na2, .inl (cI, 80, .inl fn2)), (mn, .inr (1, [.ref w, .ref ma1, .ref ma2, .ref ma3, .ref ma4, .ref ma5, .ref ma6, .ref ma7, .int (nI c), .int cut])), (ma2, .inl (cI, 80, .inl fm2)), (ma3, .inl (cI, 80, .inl fm3)), (w, .inr (7, [.ref tl, .ref wa1, .ref wa2, .ref wa3, .ref wa4, .int vw, .int sc])), (tl, .inr (5, [.ref ta, .int (nI kt)])), (ta, .inl (cB, 600, .inl ft))]) [0, 1, 2, 3, 4, 5, 6, 7, 8] (by decide) rfl
        rw [← hQ]
        exact W.iret (v := (-1)) hx hb hr (fun t ht hW => ⟨⟨(-1), (), rfl, trivial, ⟨by rw [ht]; exact hP9, va_K.moved hW.alike hK, hD9⟩⟩, hS.F ht⟩) hS.2.2 dX2_ownerOf_41
      · have hlt_i : i < e0 := Nat.lt_of_not_le (fun q => c_4 (nI_le q (by omega)))
        refine lv_aload_n hx hb dX2_ownerOf_10 rfl (lv_at hl 0 rfl) ?_
        refine va_get (D := D) (ci := 2) (v := .ref mn) (C := RX2) (T := TX2) (N := 4) hx hb hts hinX2 hown hK hP 0 rfl rfl 0 (by decide) (hts (.fieldLink RX2 9 "TaleReader$Names" "mentions" "LTaleReader$Mentions;") (uc5 _ (List.mem_of_getElem? (i := 21) rfl))) (fun _ h9 => h9) rfl dX2_ownerOf_11 ?_
        refine lv_aload_n hx hb dX2_ownerOf_14 rfl (lv_at hl 0 rfl) ?_
        refine va_get (D := D) (ci := 2) (v := .ref na1) (C := RX2) (T := TX2) (N := 4) hx hb hts hinX2 hown hK hP 0 rfl rfl 1 (by decide) (hts (.fieldLink RX2 15 "TaleReader$Names" "firstMentions" "[I") (uc5 _ (List.mem_of_getElem? (i := 22) rfl))) (fun _ h9 => h9) rfl dX2_ownerOf_15 ?_
        refine lv_iload_n hx hb dX2_ownerOf_18 rfl (lv_at hl 2 rfl) ?_
        refine va_iald (D := D) hx hb hK hP 1 1 rfl rfl (vp_in_nI (by omega) (by omega)) dX2_ownerOf_19 ?_
        refine lv_topi (fun v_5 ev_5 => ?_)
        refine lv_iload_n hx hb dX2_ownerOf_20 rfl (lv_at hl 1 rfl) ?_
        have hPc := hP.sub (ws' := [(mn, .inr (1, [.ref w, .ref ma1, .ref ma2, .ref ma3, .ref ma4, .ref ma5, .ref ma6, .ref ma7, .int (nI c), .int cut])), (ma2, .inl (cI, 80, .inl fm2)), (ma3, .inl (cI, 80, .inl fm3)), (w, .inr (7, [.ref tl, .ref wa1, .ref wa2, .ref wa3, .ref wa4, .int vw, .int sc])), (tl, .inr (5, [.ref ta, .int (nI kt)])), (ta, .inl (cB, 600, .inl ft))]) [3, 4, 5, 6, 7, 8] rfl
        have hDc := hD.sub (ws' := [(mn, .inr (1, [.ref w, .ref ma1, .ref ma2, .ref ma3, .ref ma4, .ref ma5, .ref ma6, .ref ma7, .int (nI c), .int cut])), (ma2, .inl (cI, 80, .inl fm2)), (ma3, .inl (cI, 80, .inl fm3)), (w, .inr (7, [.ref tl, .ref wa1, .ref wa2, .ref wa3, .ref wa4, .int vw, .int sc])), (tl, .inr (5, [.ref ta, .int (nI kt)])), (ta, .inl (cB, 600, .inl ft))]) [3, 4, 5, 6, 7, 8] (by decide) rfl
        have hFc := va_free (wc := [(mn, .inr (1, [.ref w, .ref ma1, .ref ma2, .ref ma3, .ref ma4, .ref ma5, .ref ma6, .ref ma7, .int (nI c), .int cut])), (ma2, .inl (cI, 80, .inl fm2)), (ma3, .inl (cI, 80, .inl fm3)), (w, .inr (7, [.ref tl, .ref wa1, .ref wa2, .ref wa3, .ref wa4, .int vw, .int sc])), (tl, .inr (5, [.ref ta, .int (nI kt)])), (ta, .inl (cB, 600, .inl ft))]) hD hS hA [3, 4, 5, 6, 7, 8] rfl
        refine va_calli (va_runV (As := [.int v_5, .int x]) (rest := []) ⟨hx, hb, hml, hown, hts⟩ (s_X1_sameName l D cB cI cZ E H.size mn v_5 x w ma1 ma2 ma3 ma4 ma5 ma6 ma7 c cut fm2 fm3 tl wa1 wa2 wa3 wa4 vw sc ta kt ft (by first | assumption | omega) (by first | assumption | omega)) (cwV 2 hts (uV (uc19 _ (List.mem_of_getElem? (i := 15) rfl)) (uc19 _ (List.mem_of_getElem? (i := 16) rfl)) (uc19 _ (List.mem_of_getElem? (i := 17) rfl)) (uc2 _ (List.mem_of_getElem? (i := 6) rfl)) (uc19 _ (List.mem_of_getElem? (i := 18) rfl))) rfl rfl rfl (by decide +kernel) ⟨Nat.le_of_ble_eq_true rfl, Nat.le_of_ble_eq_true rfl⟩) (pVE hE hS hFc hK hPc hDc 0 rfl rfl) rfl rfl hl.1 rfl (lv_room (Nat.le_of_ble_eq_true rfl)) dX2_ownerOf_21 ⟨Nat.le_of_ble_eq_true rfl, Nat.le_of_ble_eq_true rfl⟩) hS (fun q _ h => hFc q h) hFc (fun r_6 u t H_7 L_8 ht hvm hw hB hz1 hk1 hS => ?_)
        obtain ⟨hP1, -, hD1⟩ := hB
        rw [ht] at hP1
        obtain ⟨hP, hD⟩ := va_join (wr := [(h0, .inr (2, [.ref mn, .ref na1, .ref na2, .int (nI e0)])), (na1, .inl (cI, 80, .inl fn1)), (na2, .inl (cI, 80, .inl fn2))]) (w1 := [(mn, .inr (1, [.ref w, .ref ma1, .ref ma2, .ref ma3, .ref ma4, .ref ma5, .ref ma6, .ref ma7, .int (nI c), .int cut])), (ma2, .inl (cI, 80, .inl fm2)), (ma3, .inl (cI, 80, .inl fm3)), (w, .inr (7, [.ref tl, .ref wa1, .ref wa2, .ref wa3, .ref wa4, .int vw, .int sc])), (tl, .inr (5, [.ref ta, .int (nI kt)])), (ta, .inl (cB, 600, .inl ft))]) hP hD [3, 4, 5, 6, 7, 8] [0, 1, 2] rfl rfl (by decide) (by decide) hk1 hFc hP1 hD1
        have hP : va_P D vwCl [(h0, .inr (2, [.ref mn, .ref na1, .ref na2, .int (nI e0)])), (na1, .inl (cI, 80, .inl fn1)), (na2, .inl (cI, 80, .inl fn2)), (mn, .inr (1, [.ref w, .ref ma1, .ref ma2, .ref ma3, .ref ma4, .ref ma5, .ref ma6, .ref ma7, .int (nI c), .int cut])), (ma2, .inl (cI, 80, .inl fm2)), (ma3, .inl (cI, 80, .inl fm3)), (w, .inr (7, [.ref tl, .ref wa1, .ref wa2, .ref wa3, .ref wa4, .int vw, .int sc])), (tl, .inr (5, [.ref ta, .int (nI kt)])), (ta, .inl (cB, 600, .inl ft))] H_7 := hP.sub [0, 1, 2, 3, 4, 5, 6, 7, 8] rfl
        have hD : va_D A [(h0, .inr (2, [.ref mn, .ref na1, .ref na2, .int (nI e0)])), (na1, .inl (cI, 80, .inl fn1)), (na2, .inl (cI, 80, .inl fn2)), (mn, .inr (1, [.ref w, .ref ma1, .ref ma2, .ref ma3, .ref ma4, .ref ma5, .ref ma6, .ref ma7, .int (nI c), .int cut])), (ma2, .inl (cI, 80, .inl fm2)), (ma3, .inl (cI, 80, .inl fm3)), (w, .inr (7, [.ref tl, .ref wa1, .ref wa2, .ref wa3, .ref wa4, .int vw, .int sc])), (tl, .inr (5, [.ref ta, .int (nI kt)])), (ta, .inl (cB, 600, .inl ft))] := hD.sub [0, 1, 2, 3, 4, 5, 6, 7, 8] (by decide) rfl
        try dsimp only at hw
        refine lv_if_eq (tgt := 34) hx hb dX2_ownerOf_24 (by decide) (fun c_9 => ?_) (fun c_9 => ?_)
        · refine lv_iinc (v := nI (i + 1)) (lv' := [(2, .int (nI (i + 1))), (0, .ref h0), (1, .int x)]) hx hb dX2_ownerOf_34 hl (k := 2) rfl (nI_add i 1) (by decide) rfl (fun ls hl => ?_)
          refine lv_goto (tgt := 2) hx hb dX2_ownerOf_37 (by decide) ?_
          exact ih_2 (i + 1) (by first | assumption | exact Or.inl rfl | exact Or.inr rfl | omega) (by omega) H_7 _ ls (hP.sub (ws' := [(h0, .inr (2, [.ref mn, .ref na1, .ref na2, .int (nI e0)])), (na1, .inl (cI, 80, .inl fn1)), (na2, .inl (cI, 80, .inl fn2)), (mn, .inr (1, [.ref w, .ref ma1, .ref ma2, .ref ma3, .ref ma4, .ref ma5, .ref ma6, .ref ma7, .int (nI c), .int cut])), (ma2, .inl (cI, 80, .inl fm2)), (ma3, .inl (cI, 80, .inl fm3)), (w, .inr (7, [.ref tl, .ref wa1, .ref wa2, .ref wa3, .ref wa4, .int vw, .int sc])), (tl, .inr (5, [.ref ta, .int (nI kt)])), (ta, .inl (cB, 600, .inl ft))]) [0, 1, 2, 3, 4, 5, 6, 7, 8] rfl) (hD.sub (ws' := [(h0, .inr (2, [.ref mn, .ref na1, .ref na2, .int (nI e0)])), (na1, .inl (cI, 80, .inl fn1)), (na2, .inl (cI, 80, .inl fn2)), (mn, .inr (1, [.ref w, .ref ma1, .ref ma2, .ref ma3, .ref ma4, .ref ma5, .ref ma6, .ref ma7, .int (nI c), .int cut])), (ma2, .inl (cI, 80, .inl fm2)), (ma3, .inl (cI, 80, .inl fm3)), (w, .inr (7, [.ref tl, .ref wa1, .ref wa2, .ref wa3, .ref wa4, .int vw, .int sc])), (tl, .inr (5, [.ref ta, .int (nI kt)])), (ta, .inl (cB, 600, .inl ft))]) [0, 1, 2, 3, 4, 5, 6, 7, 8] (by decide) rfl) hS (lv_sub hl [1, 2, 0] rfl)
        · refine lv_aload_n hx hb dX2_ownerOf_27 rfl (lv_at hl 0 rfl) ?_
          refine va_get (D := D) (ci := 2) (v := .ref na2) (C := RX2) (T := TX2) (N := 4) hx hb hts hinX2 hown hK hP 0 rfl rfl 2 (by decide) (hts (.fieldLink RX2 19 "TaleReader$Names" "owners" "[I") (uc5 _ (List.mem_of_getElem? (i := 23) rfl))) (fun _ h9 => h9) rfl dX2_ownerOf_28 ?_
          refine lv_iload_n hx hb dX2_ownerOf_31 rfl (lv_at hl 2 rfl) ?_
          refine va_iald (D := D) hx hb hK hP 2 1 rfl rfl (vp_in_nI (by omega) (by omega)) dX2_ownerOf_32 ?_
          refine lv_topi (fun v_10 ev_10 => ?_)
          have hP9 := hP.sub (ws' := [(h0, .inr (2, [.ref mn, .ref na1, .ref na2, .int (nI e0)])), (na1, .inl (cI, 80, .inl fn1)), (na2, .inl (cI, 80, .inl fn2)), (mn, .inr (1, [.ref w, .ref ma1, .ref ma2, .ref ma3, .ref ma4, .ref ma5, .ref ma6, .ref ma7, .int (nI c), .int cut])), (ma2, .inl (cI, 80, .inl fm2)), (ma3, .inl (cI, 80, .inl fm3)), (w, .inr (7, [.ref tl, .ref wa1, .ref wa2, .ref wa3, .ref wa4, .int vw, .int sc])), (tl, .inr (5, [.ref ta, .int (nI kt)])), (ta, .inl (cB, 600, .inl ft))]) [0, 1, 2, 3, 4, 5, 6, 7, 8] rfl
          have hD9 := hD.sub (ws' := [(h0, .inr (2, [.ref mn, .ref na1, .ref na2, .int (nI e0)])), (na1, .inl (cI, 80, .inl fn1)), (na2, .inl (cI, 80, .inl fn2)), (mn, .inr (1, [.ref w, .ref ma1, .ref ma2, .ref ma3, .ref ma4, .ref ma5, .ref ma6, .ref ma7, .int (nI c), .int cut])), (ma2, .inl (cI, 80, .inl fm2)), (ma3, .inl (cI, 80, .inl fm3)), (w, .inr (7, [.ref tl, .ref wa1, .ref wa2, .ref wa3, .ref wa4, .int vw, .int sc])), (tl, .inr (5, [.ref ta, .int (nI kt)])), (ta, .inl (cB, 600, .inl ft))]) [0, 1, 2, 3, 4, 5, 6, 7, 8] (by decide) rfl
          rw [← hQ]
          exact W.iret (v := v_10) hx hb hr (fun t ht hW => ⟨⟨v_10, (), rfl, trivial, ⟨by rw [ht]; exact hP9, va_K.moved hW.alike hK, hD9⟩⟩, hS.F ht⟩) hS.2.2 dX2_ownerOf_33
  exact loop_1 _ 0 (by first | assumption | exact Or.inl rfl | exact Or.inr rfl | omega) (Nat.lt_succ_self _) s.heap _ ls (hP.sub (ws' := [(h0, .inr (2, [.ref mn, .ref na1, .ref na2, .int (nI e0)])), (na1, .inl (cI, 80, .inl fn1)), (na2, .inl (cI, 80, .inl fn2)), (mn, .inr (1, [.ref w, .ref ma1, .ref ma2, .ref ma3, .ref ma4, .ref ma5, .ref ma6, .ref ma7, .int (nI c), .int cut])), (ma2, .inl (cI, 80, .inl fm2)), (ma3, .inl (cI, 80, .inl fm3)), (w, .inr (7, [.ref tl, .ref wa1, .ref wa2, .ref wa3, .ref wa4, .int vw, .int sc])), (tl, .inr (5, [.ref ta, .int (nI kt)])), (ta, .inl (cB, 600, .inl ft))]) [0, 1, 2, 3, 4, 5, 6, 7, 8] rfl) (hD.sub (ws' := [(h0, .inr (2, [.ref mn, .ref na1, .ref na2, .int (nI e0)])), (na1, .inl (cI, 80, .inl fn1)), (na2, .inl (cI, 80, .inl fn2)), (mn, .inr (1, [.ref w, .ref ma1, .ref ma2, .ref ma3, .ref ma4, .ref ma5, .ref ma6, .ref ma7, .int (nI c), .int cut])), (ma2, .inl (cI, 80, .inl fm2)), (ma3, .inl (cI, 80, .inl fm3)), (w, .inr (7, [.ref tl, .ref wa1, .ref wa2, .ref wa3, .ref wa4, .int vw, .int sc])), (tl, .inr (5, [.ref ta, .int (nI kt)])), (ta, .inl (cB, 600, .inl ft))]) [0, 1, 2, 3, 4, 5, 6, 7, 8] (by decide) rfl) hS (lv_sub hl [1, 2, 0] rfl)
set_option maxHeartbeats 4000000 in
set_option maxRecDepth 100000 in
theorem s_X2_ownerOfLonger (l : Launch) (D : va_G) (cB cI cZ : ClassId) (E : pEt) (sz : Nat) (h0 : Nat) (x : Int32) (mn : Nat) (na1 : Nat) (na2 : Nat) (e0 : Nat) (fn1 : Nat → Int32) (fn2 : Nat → Int32) (w : Nat) (ma1 : Nat) (ma2 : Nat) (ma3 : Nat) (ma4 : Nat) (ma5 : Nat) (ma6 : Nat) (ma7 : Nat) (c : Nat) (cut : Int32) (fm2 : Nat → Int32) (fm3 : Nat → Int32) (tl : Nat) (wa1 : Nat) (wa2 : Nat) (wa3 : Nat) (wa4 : Nat) (vw : Int32) (sc : Int32) (ta : Nat) (kt : Nat) (ft : Nat → Int32) (he : e0 ≤ 80) (hc : c ≤ 80) (hkt : kt ≤ 600) : Met l yX2_ownerOfLonger (.code yX2_ownerOfLonger cX2_ownerOfLonger 4 (some .int) :: wsL_law) ({ frames := 2, cells := 0, slots := 0, locals := 47 } : Room) (va_Pc [.ref h0, .int x] (pInE E D (pT cB cI cZ) sz [(h0, .inr (2, [.ref mn, .ref na1, .ref na2, .int (nI e0)])), (na1, .inl (cI, 80, .inl fn1)), (na2, .inl (cI, 80, .inl fn2)), (mn, .inr (1, [.ref w, .ref ma1, .ref ma2, .ref ma3, .ref ma4, .ref ma5, .ref ma6, .ref ma7, .int (nI c), .int cut])), (ma2, .inl (cI, 80, .inl fm2)), (ma3, .inl (cI, 80, .inl fm3)), (w, .inr (7, [.ref tl, .ref wa1, .ref wa2, .ref wa3, .ref wa4, .int vw, .int sc])), (tl, .inr (5, [.ref ta, .int (nI kt)])), (ta, .inl (cB, 600, .inl ft))])) (va_Qi (fun (r : Int32) (u : Unit) => True) (fun (u : Unit) (t : State) => pAt D (pT cB cI cZ) (va_A [(h0, .inr (2, [.ref mn, .ref na1, .ref na2, .int (nI e0)])), (na1, .inl (cI, 80, .inl fn1)), (na2, .inl (cI, 80, .inl fn2)), (mn, .inr (1, [.ref w, .ref ma1, .ref ma2, .ref ma3, .ref ma4, .ref ma5, .ref ma6, .ref ma7, .int (nI c), .int cut])), (ma2, .inl (cI, 80, .inl fm2)), (ma3, .inl (cI, 80, .inl fm3)), (w, .inr (7, [.ref tl, .ref wa1, .ref wa2, .ref wa3, .ref wa4, .int vw, .int sc])), (tl, .inr (5, [.ref ta, .int (nI kt)])), (ta, .inl (cB, 600, .inl ft))] sz) [(h0, .inr (2, [.ref mn, .ref na1, .ref na2, .int (nI e0)])), (na1, .inl (cI, 80, .inl fn1)), (na2, .inl (cI, 80, .inl fn2)), (mn, .inr (1, [.ref w, .ref ma1, .ref ma2, .ref ma3, .ref ma4, .ref ma5, .ref ma6, .ref ma7, .int (nI c), .int cut])), (ma2, .inl (cI, 80, .inl fm2)), (ma3, .inl (cI, 80, .inl fm3)), (w, .inr (7, [.ref tl, .ref wa1, .ref wa2, .ref wa3, .ref wa4, .int vw, .int sc])), (tl, .inr (5, [.ref ta, .int (nI kt)])), (ta, .inl (cB, 600, .inl ft))] t) (va_A [(h0, .inr (2, [.ref mn, .ref na1, .ref na2, .int (nI e0)])), (na1, .inl (cI, 80, .inl fn1)), (na2, .inl (cI, 80, .inl fn2)), (mn, .inr (1, [.ref w, .ref ma1, .ref ma2, .ref ma3, .ref ma4, .ref ma5, .ref ma6, .ref ma7, .int (nI c), .int cut])), (ma2, .inl (cI, 80, .inl fm2)), (ma3, .inl (cI, 80, .inl fm3)), (w, .inr (7, [.ref tl, .ref wa1, .ref wa2, .ref wa3, .ref wa4, .int vw, .int sc])), (tl, .inr (5, [.ref ta, .int (nI kt)])), (ta, .inl (cB, 600, .inl ft))] sz)) 0 0 (va_A [(h0, .inr (2, [.ref mn, .ref na1, .ref na2, .int (nI e0)])), (na1, .inl (cI, 80, .inl fn1)), (na2, .inl (cI, 80, .inl fn2)), (mn, .inr (1, [.ref w, .ref ma1, .ref ma2, .ref ma3, .ref ma4, .ref ma5, .ref ma6, .ref ma7, .int (nI c), .int cut])), (ma2, .inl (cI, 80, .inl fm2)), (ma3, .inl (cI, 80, .inl fm3)), (w, .inr (7, [.ref tl, .ref wa1, .ref wa2, .ref wa3, .ref wa4, .int vw, .int sc])), (tl, .inr (5, [.ref ta, .int (nI kt)])), (ta, .inl (cB, 600, .inl ft))] sz) := by
  refine Met.ofW (cc := cX2_ownerOfLonger) (maxL := 4) (ret := (some .int)) (by decide) rfl ?_
  intro p e s m args below meth cd s₁ B hml hv
  obtain ⟨rfl, hsz, hP, hK, hD0, hE⟩ := hv
  have hx := B.exec
  have hb := B.bytes
  have hr := B.returns
  have hts0 := atoms_spec (ws := .code yX2_ownerOfLonger cX2_ownerOfLonger 4 (some .int) :: wsL_law) B.pre
  have hts := fun (w : Cond) (h : w ∈ wsL_law) => hts0 w (List.mem_cons_of_mem _ h)
  have hown : s.vm.findClass RX2 = some m.cls := findClass_of_methodNamed B.named
  have hlocks := B.notSynchronized
  have hinX2 := inlX2
  subst hsz
  have hD := hD0.self (sz := s.heap.size)
  generalize hAe : va_A [(h0, .inr (2, [.ref mn, .ref na1, .ref na2, .int (nI e0)])), (na1, .inl (cI, 80, .inl fn1)), (na2, .inl (cI, 80, .inl fn2)), (mn, .inr (1, [.ref w, .ref ma1, .ref ma2, .ref ma3, .ref ma4, .ref ma5, .ref ma6, .ref ma7, .int (nI c), .int cut])), (ma2, .inl (cI, 80, .inl fm2)), (ma3, .inl (cI, 80, .inl fm3)), (w, .inr (7, [.ref tl, .ref wa1, .ref wa2, .ref wa3, .ref wa4, .int vw, .int sc])), (tl, .inr (5, [.ref ta, .int (nI kt)])), (ta, .inl (cB, 600, .inl ft))] s.heap.size = A at hD hE ⊢
  have hA : ∀ q : Nat, s.heap.size ≤ q → A q := fun q h => by rw [← hAe]; exact Or.inr h
  have hS : va_S A s.heap s.heap [] := va_S.rf
  have hP : va_P D vwCl [(h0, .inr (2, [.ref mn, .ref na1, .ref na2, .int (nI e0)])), (na1, .inl (cI, 80, .inl fn1)), (na2, .inl (cI, 80, .inl fn2)), (mn, .inr (1, [.ref w, .ref ma1, .ref ma2, .ref ma3, .ref ma4, .ref ma5, .ref ma6, .ref ma7, .int (nI c), .int cut])), (ma2, .inl (cI, 80, .inl fm2)), (ma3, .inl (cI, 80, .inl fm3)), (w, .inr (7, [.ref tl, .ref wa1, .ref wa2, .ref wa3, .ref wa4, .int vw, .int sc])), (tl, .inr (5, [.ref ta, .int (nI kt)])), (ta, .inl (cB, 600, .inl ft))] s.heap := hP
  have hl := lv_entry ([.ref h0, .int x]) (n := 4) (Nat.le_of_ble_eq_true rfl)
  rw [lg_entry_eq]
  generalize (lg_sl ([.ref h0, .int x]) ++ List.replicate (4 - (lg_sl ([.ref h0, .int x])).length) Slot.unset).toArray = ls at hl ⊢
  have hl : lv_has ls 4 [(0, .ref h0), (1, .int x)] := hl
  generalize hQ : MQ below _ _ _ _ _ _ = Q
  refine lv_aload_n hx hb dX2_ownerOfLonger_0 rfl (lv_at hl 0 rfl) ?_
  refine va_get (D := D) (ci := 2) (v := .ref mn) (C := RX2) (T := TX2) (N := 4) hx hb hts hinX2 hown hK hP 0 rfl rfl 0 (by decide) (hts (.fieldLink RX2 9 "TaleReader$Names" "mentions" "LTaleReader$Mentions;") (uc5 _ (List.mem_of_getElem? (i := 21) rfl))) (fun _ h9 => h9) rfl dX2_ownerOfLonger_1 ?_
  refine lv_iload_n hx hb dX2_ownerOfLonger_4 rfl (lv_at hl 1 rfl) ?_
  have hPc := hP.sub (ws' := [(mn, .inr (1, [.ref w, .ref ma1, .ref ma2, .ref ma3, .ref ma4, .ref ma5, .ref ma6, .ref ma7, .int (nI c), .int cut])), (ma3, .inl (cI, 80, .inl fm3))]) [3, 5] rfl
  have hDc := hD.sub (ws' := [(mn, .inr (1, [.ref w, .ref ma1, .ref ma2, .ref ma3, .ref ma4, .ref ma5, .ref ma6, .ref ma7, .int (nI c), .int cut])), (ma3, .inl (cI, 80, .inl fm3))]) [3, 5] (by decide) rfl
  have hFc := va_free (wc := [(mn, .inr (1, [.ref w, .ref ma1, .ref ma2, .ref ma3, .ref ma4, .ref ma5, .ref ma6, .ref ma7, .int (nI c), .int cut])), (ma3, .inl (cI, 80, .inl fm3))]) hD hS hA [3, 5] rfl
  refine va_calli (va_runV (As := [.int x]) (rest := []) ⟨hx, hb, hml, hown, hts⟩ (s_X1_lengthOf l D cB cI cZ E s.heap.size mn x w ma1 ma2 ma3 ma4 ma5 ma6 ma7 c cut fm3 (by first | assumption | omega)) (cwV 1 hts (uV (uc20 _ (List.mem_of_getElem? (i := 12) rfl)) (uc20 _ (List.mem_of_getElem? (i := 13) rfl)) (uc20 _ (List.mem_of_getElem? (i := 14) rfl)) (uc2 _ (List.mem_of_getElem? (i := 6) rfl)) (uc20 _ (List.mem_of_getElem? (i := 15) rfl))) rfl rfl rfl (by decide +kernel) ⟨Nat.le_of_ble_eq_true rfl, Nat.le_of_ble_eq_true rfl⟩) (pVE hE hS hFc hK hPc hDc 0 rfl rfl) rfl rfl hl.1 rfl (lv_room (Nat.le_of_ble_eq_true rfl)) dX2_ownerOfLonger_5 ⟨Nat.le_of_ble_eq_true rfl, Nat.le_of_ble_eq_true rfl⟩) hS (fun q _ h => hFc q h) hFc (fun r_1 u t H_2 L_3 ht hvm hw hB hz1 hk1 hS => ?_)
  obtain ⟨hP1, -, hD1⟩ := hB
  rw [ht] at hP1
  obtain ⟨hP, hD⟩ := va_join (wr := [(h0, .inr (2, [.ref mn, .ref na1, .ref na2, .int (nI e0)])), (na1, .inl (cI, 80, .inl fn1)), (na2, .inl (cI, 80, .inl fn2)), (ma2, .inl (cI, 80, .inl fm2)), (w, .inr (7, [.ref tl, .ref wa1, .ref wa2, .ref wa3, .ref wa4, .int vw, .int sc])), (tl, .inr (5, [.ref ta, .int (nI kt)])), (ta, .inl (cB, 600, .inl ft))]) (w1 := [(mn, .inr (1, [.ref w, .ref ma1, .ref ma2, .ref ma3, .ref ma4, .ref ma5, .ref ma6, .ref ma7, .int (nI c), .int cut])), (ma3, .inl (cI, 80, .inl fm3))]) hP hD [3, 5] [0, 1, 2, 4, 6, 7, 8] rfl rfl (by decide) (by decide) hk1 hFc hP1 hD1
  have hP : va_P D vwCl [(h0, .inr (2, [.ref mn, .ref na1, .ref na2, .int (nI e0)])), (na1, .inl (cI, 80, .inl fn1)), (na2, .inl (cI, 80, .inl fn2)), (mn, .inr (1, [.ref w, .ref ma1, .ref ma2, .ref ma3, .ref ma4, .ref ma5, .ref ma6, .ref ma7, .int (nI c), .int cut])), (ma2, .inl (cI, 80, .inl fm2)), (ma3, .inl (cI, 80, .inl fm3)), (w, .inr (7, [.ref tl, .ref wa1, .ref wa2, .ref wa3, .ref wa4, .int vw, .int sc])), (tl, .inr (5, [.ref ta, .int (nI kt)])), (ta, .inl (cB, 600, .inl ft))] H_2 := hP.sub [0, 1, 2, 7, 3, 8, 4, 5, 6] rfl
  have hD : va_D A [(h0, .inr (2, [.ref mn, .ref na1, .ref na2, .int (nI e0)])), (na1, .inl (cI, 80, .inl fn1)), (na2, .inl (cI, 80, .inl fn2)), (mn, .inr (1, [.ref w, .ref ma1, .ref ma2, .ref ma3, .ref ma4, .ref ma5, .ref ma6, .ref ma7, .int (nI c), .int cut])), (ma2, .inl (cI, 80, .inl fm2)), (ma3, .inl (cI, 80, .inl fm3)), (w, .inr (7, [.ref tl, .ref wa1, .ref wa2, .ref wa3, .ref wa4, .int vw, .int sc])), (tl, .inr (5, [.ref ta, .int (nI kt)])), (ta, .inl (cB, 600, .inl ft))] := hD.sub [0, 1, 2, 7, 3, 8, 4, 5, 6] (by decide) rfl
  try dsimp only at hw
  refine lv_iconst (v := 3) hx hb dX2_ownerOfLonger_8 (by decide) ?_
  refine lv_icmp_ge (tgt := 14) hx hb dX2_ownerOfLonger_9 (by decide) (fun c_4 => ?_) (fun c_4 => ?_)
  · refine lv_iconst (v := (-1)) hx hb dX2_ownerOfLonger_14 (by decide) ?_
    refine lv_istore_n (lv' := [(2, .int (-1)), (0, .ref h0), (1, .int x)]) hx hb dX2_ownerOfLonger_15 rfl hl (by decide) rfl (fun ls hl => ?_)
    refine lv_iconst (v := 0) hx hb dX2_ownerOfLonger_16 (by decide) ?_
    refine lv_istore_n (lv' := [(3, .int 0), (2, .int (-1)), (0, .ref h0), (1, .int x)]) hx hb dX2_ownerOfLonger_17 rfl hl (by decide) rfl (fun ls hl => ?_)
    have loop_5 : ∀ (nn_7 : Nat) (i : Nat) (y : Int32), (i ≤ 600) → (e0 - i < nn_7) → ∀ (H : Heap) (locs : List Loc) (ls : Array Slot), va_P D vwCl [(h0, .inr (2, [.ref mn, .ref na1, .ref na2, .int (nI e0)])), (na1, .inl (cI, 80, .inl fn1)), (na2, .inl (cI, 80, .inl fn2)), (mn, .inr (1, [.ref w, .ref ma1, .ref ma2, .ref ma3, .ref ma4, .ref ma5, .ref ma6, .ref ma7, .int (nI c), .int cut])), (ma2, .inl (cI, 80, .inl fm2)), (ma3, .inl (cI, 80, .inl fm3)), (w, .inr (7, [.ref tl, .ref wa1, .ref wa2, .ref wa3, .ref wa4, .int vw, .int sc])), (tl, .inr (5, [.ref ta, .int (nI kt)])), (ta, .inl (cB, 600, .inl ft))] H → va_D A [(h0, .inr (2, [.ref mn, .ref na1, .ref na2, .int (nI e0)])), (na1, .inl (cI, 80, .inl fn1)), (na2, .inl (cI, 80, .inl fn2)), (mn, .inr (1, [.ref w, .ref ma1, .ref ma2, .ref ma3, .ref ma4, .ref ma5, .ref ma6, .ref ma7, .int (nI c), .int cut])), (ma2, .inl (cI, 80, .inl fm2)), (ma3, .inl (cI, 80, .inl fm3)), (w, .inr (7, [.ref tl, .ref wa1, .ref wa2, .ref wa3, .ref wa4, .int vw, .int sc])), (tl, .inr (5, [.ref ta, .int (nI kt)])), (ta, .inl (cB, 600, .inl ft))] → va_S A s.heap H locs → lv_has ls 4 [(0, .ref h0), (1, .int x), (2, .int y), (3, .int (nI i))] → W p l e ({ frames := 2, cells := 0, slots := 0, locals := 47 } : Room) s m ([.ref h0, .int x] : List Value).toArray below meth cd H locs 0 0 Q (F0 m 18 ls []) := by
      intro nn_7
      induction nn_7 with
      | zero => intros; exact absurd ‹_ < 0› (Nat.not_lt_zero _)
      | succ nn_7 ih_6 =>
        intro i y hi600 hmu H locs ls hP hD hS hl
        refine lv_iload_n hx hb dX2_ownerOfLonger_18 rfl (lv_at hl 3 rfl) ?_
        refine lv_aload_n hx hb dX2_ownerOfLonger_19 rfl (lv_at hl 0 rfl) ?_
        refine va_get (D := D) (ci := 2) (v := .int (nI e0)) (C := RX2) (T := TX2) (N := 4) hx hb hts hinX2 hown hK hP 0 rfl rfl 3 (by decide) (hts (.fieldLink RX2 22 "TaleReader$Names" "count" "I") (uc6 _ (List.mem_of_getElem? (i := 0) rfl))) (fun _ h9 => h9) rfl dX2_ownerOfLonger_20 ?_
        refine lv_icmp_ge (tgt := 73) hx hb dX2_ownerOfLonger_23 (by decide) (fun c_8 => ?_) (fun c_8 => ?_)
        · refine lv_iload_n hx hb dX2_ownerOfLonger_73 rfl (lv_at hl 2 rfl) ?_
          have hP9 := hP.sub (ws' := [(h0, .inr (2, [.ref mn, .ref na1, .ref na2, .int (nI e0)])), (na1, .inl (cI, 80, .inl fn1)), (na2, .inl (cI, 80, .inl fn2)), (mn, .inr (1, [.ref w, .ref ma1, .ref ma2, .ref ma3, .ref ma4, .ref ma5, .ref ma6, .ref ma7, .int (nI c), .int cut])), (ma2, .inl (cI, 80, .inl fm2)), (ma3, .inl (cI, 80, .inl fm3)), (w, .inr (7, [.ref tl, .ref wa1, .ref wa2, .ref wa3, .ref wa4, .int vw, .int sc])), (tl, .inr (5, [.ref ta, .int (nI kt)])), (ta, .inl (cB, 600, .inl ft))]) [0, 1, 2, 3, 4, 5, 6, 7, 8] rfl
          have hD9 := hD.sub (ws' := [(h0, .inr (2, [.ref mn, .ref na1, .ref na2, .int (nI e0)])), (na1, .inl (cI, 80, .inl fn1)), (na2, .inl (cI, 80, .inl fn2)), (mn, .inr (1, [.ref w, .ref ma1, .ref ma2, .ref ma3, .ref ma4, .ref ma5, .ref ma6, .ref ma7, .int (nI c), .int cut])), (ma2, .inl (cI, 80, .inl fm2)), (ma3, .inl (cI, 80, .inl fm3)), (w, .inr (7, [.ref tl, .ref wa1, .ref wa2, .ref wa3, .ref wa4, .int vw, .int sc])), (tl, .inr (5, [.ref ta, .int (nI kt)])), (ta, .inl (cB, 600, .inl ft))]) [0, 1, 2, 3, 4, 5, 6, 7, 8] (by decide) rfl
          rw [← hQ]
          exact W.iret (v := y) hx hb hr (fun t ht hW => ⟨⟨y, (), rfl, trivial, ⟨by rw [ht]; exact hP9, va_K.moved hW.alike hK, hD9⟩⟩, hS.F ht⟩) hS.2.2 dX2_ownerOfLonger_74
        · have hlt_i : i < e0 := Nat.lt_of_not_le (fun q => c_8 (nI_le q (by omega)))
          refine lv_aload_n hx hb dX2_ownerOfLonger_26 rfl (lv_at hl 0 rfl) ?_
          refine va_get (D := D) (ci := 2) (v := .ref mn) (C := RX2) (T := TX2) (N := 4) hx hb hts hinX2 hown hK hP 0 rfl rfl 0 (by decide) (hts (.fieldLink RX2 9 "TaleReader$Names" "mentions" "LTaleReader$Mentions;") (uc5 _ (List.mem_of_getElem? (i := 21) rfl))) (fun _ h9 => h9) rfl dX2_ownerOfLonger_27 ?_
          refine lv_aload_n hx hb dX2_ownerOfLonger_30 rfl (lv_at hl 0 rfl) ?_
          refine va_get (D := D) (ci := 2) (v := .ref na1) (C := RX2) (T := TX2) (N := 4) hx hb hts hinX2 hown hK hP 0 rfl rfl 1 (by decide) (hts (.fieldLink RX2 15 "TaleReader$Names" "firstMentions" "[I") (uc5 _ (List.mem_of_getElem? (i := 22) rfl))) (fun _ h9 => h9) rfl dX2_ownerOfLonger_31 ?_
          refine lv_iload_n hx hb dX2_ownerOfLonger_34 rfl (lv_at hl 3 rfl) ?_
          refine va_iald (D := D) hx hb hK hP 1 1 rfl rfl (vp_in_nI (by omega) (by omega)) dX2_ownerOfLonger_35 ?_
          refine lv_topi (fun v_9 ev_9 => ?_)
          refine lv_iload_n hx hb dX2_ownerOfLonger_36 rfl (lv_at hl 1 rfl) ?_
          have hPc := hP.sub (ws' := [(mn, .inr (1, [.ref w, .ref ma1, .ref ma2, .ref ma3, .ref ma4, .ref ma5, .ref ma6, .ref ma7, .int (nI c), .int cut])), (ma2, .inl (cI, 80, .inl fm2)), (ma3, .inl (cI, 80, .inl fm3)), (w, .inr (7, [.ref tl, .ref wa1, .ref wa2, .ref wa3, .ref wa4, .int vw, .int sc])), (tl, .inr (5, [.ref ta, .int (nI kt)])), (ta, .inl (cB, 600, .inl ft))]) [3, 4, 5, 6, 7, 8] rfl
          have hDc := hD.sub (ws' := [(mn, .inr (1, [.ref w, .ref ma1, .ref ma2, .ref ma3, .ref ma4, .ref ma5, .ref ma6, .ref ma7, .int (nI c), .int cut])), (ma2, .inl (cI, 80, .inl fm2)), (ma3, .inl (cI, 80, .inl fm3)), (w, .inr (7, [.ref tl, .ref wa1, .ref wa2, .ref wa3, .ref wa4, .int vw, .int sc])), (tl, .inr (5, [.ref ta, .int (nI kt)])), (ta, .inl (cB, 600, .inl ft))]) [3, 4, 5, 6, 7, 8] (by decide) rfl
          have hFc := va_free (wc := [(mn, .inr (1, [.ref w, .ref ma1, .ref ma2, .ref ma3, .ref ma4, .ref ma5, .ref ma6, .ref ma7, .int (nI c), .int cut])), (ma2, .inl (cI, 80, .inl fm2)), (ma3, .inl (cI, 80, .inl fm3)), (w, .inr (7, [.ref tl, .ref wa1, .ref wa2, .ref wa3, .ref wa4, .int vw, .int sc])), (tl, .inr (5, [.ref ta, .int (nI kt)])), (ta, .inl (cB, 600, .inl ft))]) hD hS hA [3, 4, 5, 6, 7, 8] rfl
          refine va_calli (va_runV (As := [.int v_9, .int x]) (rest := []) ⟨hx, hb, hml, hown, hts⟩ (s_X1_beginsWith l D cB cI cZ E H.size mn v_9 x w ma1 ma2 ma3 ma4 ma5 ma6 ma7 c cut fm2 fm3 tl wa1 wa2 wa3 wa4 vw sc ta kt ft (by first | assumption | omega) (by first | assumption | omega)) (cwV 2 hts (uV (uc20 _ (List.mem_of_getElem? (i := 16) rfl)) (uc20 _ (List.mem_of_getElem? (i := 17) rfl)) (uc20 _ (List.mem_of_getElem? (i := 18) rfl)) (uc2 _ (List.mem_of_getElem? (i := 6) rfl)) (uc20 _ (List.mem_of_getElem? (i := 19) rfl))) rfl rfl rfl (by decide +kernel) ⟨Nat.le_of_ble_eq_true rfl, Nat.le_of_ble_eq_true rfl⟩) (pVE hE hS hFc hK hPc hDc 0 rfl rfl) rfl rfl hl.1 rfl (lv_room (Nat.le_of_ble_eq_true rfl)) dX2_ownerOfLonger_37 ⟨Nat.le_of_ble_eq_true rfl, Nat.le_of_ble_eq_true rfl⟩) hS (fun q _ h => hFc q h) hFc (fun r_10 u t H_11 L_12 ht hvm hw hB hz1 hk1 hS => ?_)
          obtain ⟨hP1, -, hD1⟩ := hB
          rw [ht] at hP1
          obtain ⟨hP, hD⟩ := va_join (wr := [(h0, .inr (2, [.ref mn, .ref na1, .ref na2, .int (nI e0)])), (na1, .inl (cI, 80, .inl fn1)), (na2, .inl (cI, 80, .inl fn2))]) (w1 := [(mn, .inr (1, [.ref w, .ref ma1, .ref ma2, .ref ma3, .ref ma4, .ref ma5, .ref ma6, .ref ma7, .int (nI c), .int cut])), (ma2, .inl (cI, 80, .inl fm2)), (ma3, .inl (cI, 80, .inl fm3)), (w, .inr (7, [.ref tl, .ref wa1, .ref wa2, .ref wa3, .ref wa4, .int vw, .int sc])), (tl, .inr (5, [.ref ta, .int (nI kt)])), (ta, .inl (cB, 600, .inl ft))]) hP hD [3, 4, 5, 6, 7, 8] [0, 1, 2] rfl rfl (by decide) (by decide) hk1 hFc hP1 hD1
          have hP : va_P D vwCl [(h0, .inr (2, [.ref mn, .ref na1, .ref na2, .int (nI e0)])), (na1, .inl (cI, 80, .inl fn1)), (na2, .inl (cI, 80, .inl fn2)), (mn, .inr (1, [.ref w, .ref ma1, .ref ma2, .ref ma3, .ref ma4, .ref ma5, .ref ma6, .ref ma7, .int (nI c), .int cut])), (ma2, .inl (cI, 80, .inl fm2)), (ma3, .inl (cI, 80, .inl fm3)), (w, .inr (7, [.ref tl, .ref wa1, .ref wa2, .ref wa3, .ref wa4, .int vw, .int sc])), (tl, .inr (5, [.ref ta, .int (nI kt)])), (ta, .inl (cB, 600, .inl ft))] H_11 := hP.sub [0, 1, 2, 3, 4, 5, 6, 7, 8] rfl
          have hD : va_D A [(h0, .inr (2, [.ref mn, .ref na1, .ref na2, .int (nI e0)])), (na1, .inl (cI, 80, .inl fn1)), (na2, .inl (cI, 80, .inl fn2)), (mn, .inr (1, [.ref w, .ref ma1, .ref ma2, .ref ma3, .ref ma4, .ref ma5, .ref ma6, .ref ma7, .int (nI c), .int cut])), (ma2, .inl (cI, 80, .inl fm2)), (ma3, .inl (cI, 80, .inl fm3)), (w, .inr (7, [.ref tl, .ref wa1, .ref wa2, .ref wa3, .ref wa4, .int vw, .int sc])), (tl, .inr (5, [.ref ta, .int (nI kt)])), (ta, .inl (cB, 600, .inl ft))] := hD.sub [0, 1, 2, 3, 4, 5, 6, 7, 8] (by decide) rfl
          try dsimp only at hw
          refine lv_if_eq (tgt := 67) hx hb dX2_ownerOfLonger_40 (by decide) (fun c_13 => ?_) (fun c_13 => ?_)
          · refine lv_iinc (v := nI (i + 1)) (lv' := [(3, .int (nI (i + 1))), (0, .ref h0), (1, .int x), (2, .int y)]) hx hb dX2_ownerOfLonger_67 hl (k := 3) rfl (nI_add i 1) (by decide) rfl (fun ls hl => ?_)
            refine lv_goto (tgt := 18) hx hb dX2_ownerOfLonger_70 (by decide) ?_
            exact ih_6 (i + 1) y (by first | assumption | exact Or.inl rfl | exact Or.inr rfl | omega) (by omega) H_11 _ ls (hP.sub (ws' := [(h0, .inr (2, [.ref mn, .ref na1, .ref na2, .int (nI e0)])), (na1, .inl (cI, 80, .inl fn1)), (na2, .inl (cI, 80, .inl fn2)), (mn, .inr (1, [.ref w, .ref ma1, .ref ma2, .ref ma3, .ref ma4, .ref ma5, .ref ma6, .ref ma7, .int (nI c), .int cut])), (ma2, .inl (cI, 80, .inl fm2)), (ma3, .inl (cI, 80, .inl fm3)), (w, .inr (7, [.ref tl, .ref wa1, .ref wa2, .ref wa3, .ref wa4, .int vw, .int sc])), (tl, .inr (5, [.ref ta, .int (nI kt)])), (ta, .inl (cB, 600, .inl ft))]) [0, 1, 2, 3, 4, 5, 6, 7, 8] rfl) (hD.sub (ws' := [(h0, .inr (2, [.ref mn, .ref na1, .ref na2, .int (nI e0)])), (na1, .inl (cI, 80, .inl fn1)), (na2, .inl (cI, 80, .inl fn2)), (mn, .inr (1, [.ref w, .ref ma1, .ref ma2, .ref ma3, .ref ma4, .ref ma5, .ref ma6, .ref ma7, .int (nI c), .int cut])), (ma2, .inl (cI, 80, .inl fm2)), (ma3, .inl (cI, 80, .inl fm3)), (w, .inr (7, [.ref tl, .ref wa1, .ref wa2, .ref wa3, .ref wa4, .int vw, .int sc])), (tl, .inr (5, [.ref ta, .int (nI kt)])), (ta, .inl (cB, 600, .inl ft))]) [0, 1, 2, 3, 4, 5, 6, 7, 8] (by decide) rfl) hS (lv_sub hl [1, 2, 3, 0] rfl)
          · refine lv_iload_n hx hb dX2_ownerOfLonger_43 rfl (lv_at hl 2 rfl) ?_
            refine lv_iconst (v := (-1)) hx hb dX2_ownerOfLonger_44 (by decide) ?_
            refine lv_icmp_eq (tgt := 60) hx hb dX2_ownerOfLonger_45 (by decide) (fun c_14 => ?_) (fun c_14 => ?_)
            · refine lv_aload_n hx hb dX2_ownerOfLonger_60 rfl (lv_at hl 0 rfl) ?_
              refine va_get (D := D) (ci := 2) (v := .ref na2) (C := RX2) (T := TX2) (N := 4) hx hb hts hinX2 hown hK hP 0 rfl rfl 2 (by decide) (hts (.fieldLink RX2 19 "TaleReader$Names" "owners" "[I") (uc5 _ (List.mem_of_getElem? (i := 23) rfl))) (fun _ h9 => h9) rfl dX2_ownerOfLonger_61 ?_
              refine lv_iload_n hx hb dX2_ownerOfLonger_64 rfl (lv_at hl 3 rfl) ?_
              refine va_iald (D := D) hx hb hK hP 2 1 rfl rfl (vp_in_nI (by omega) (by omega)) dX2_ownerOfLonger_65 ?_
              refine lv_topi (fun v_15 ev_15 => ?_)
              refine lv_istore_n (lv' := [(2, .int v_15), (0, .ref h0), (1, .int x), (3, .int (nI i))]) hx hb dX2_ownerOfLonger_66 rfl hl (by decide) rfl (fun ls hl => ?_)
              refine lv_iinc (v := nI (i + 1)) (lv' := [(3, .int (nI (i + 1))), (2, .int v_15), (0, .ref h0), (1, .int x)]) hx hb dX2_ownerOfLonger_67 hl (k := 3) rfl (nI_add i 1) (by decide) rfl (fun ls hl => ?_)
              refine lv_goto (tgt := 18) hx hb dX2_ownerOfLonger_70 (by decide) ?_
              exact ih_6 (i + 1) v_15 (by first | assumption | exact Or.inl rfl | exact Or.inr rfl | omega) (by omega) H_11 _ ls (hP.sub (ws' := [(h0, .inr (2, [.ref mn, .ref na1, .ref na2, .int (nI e0)])), (na1, .inl (cI, 80, .inl fn1)), (na2, .inl (cI, 80, .inl fn2)), (mn, .inr (1, [.ref w, .ref ma1, .ref ma2, .ref ma3, .ref ma4, .ref ma5, .ref ma6, .ref ma7, .int (nI c), .int cut])), (ma2, .inl (cI, 80, .inl fm2)), (ma3, .inl (cI, 80, .inl fm3)), (w, .inr (7, [.ref tl, .ref wa1, .ref wa2, .ref wa3, .ref wa4, .int vw, .int sc])), (tl, .inr (5, [.ref ta, .int (nI kt)])), (ta, .inl (cB, 600, .inl ft))]) [0, 1, 2, 3, 4, 5, 6, 7, 8] rfl) (hD.sub (ws' := [(h0, .inr (2, [.ref mn, .ref na1, .ref na2, .int (nI e0)])), (na1, .inl (cI, 80, .inl fn1)), (na2, .inl (cI, 80, .inl fn2)), (mn, .inr (1, [.ref w, .ref ma1, .ref ma2, .ref ma3, .ref ma4, .ref ma5, .ref ma6, .ref ma7, .int (nI c), .int cut])), (ma2, .inl (cI, 80, .inl fm2)), (ma3, .inl (cI, 80, .inl fm3)), (w, .inr (7, [.ref tl, .ref wa1, .ref wa2, .ref wa3, .ref wa4, .int vw, .int sc])), (tl, .inr (5, [.ref ta, .int (nI kt)])), (ta, .inl (cB, 600, .inl ft))]) [0, 1, 2, 3, 4, 5, 6, 7, 8] (by decide) rfl) hS (lv_sub hl [2, 3, 1, 0] rfl)
            · refine lv_iload_n hx hb dX2_ownerOfLonger_48 rfl (lv_at hl 2 rfl) ?_
              refine lv_aload_n hx hb dX2_ownerOfLonger_49 rfl (lv_at hl 0 rfl) ?_
              refine va_get (D := D) (ci := 2) (v := .ref na2) (C := RX2) (T := TX2) (N := 4) hx hb hts hinX2 hown hK hP 0 rfl rfl 2 (by decide) (hts (.fieldLink RX2 19 "TaleReader$Names" "owners" "[I") (uc5 _ (List.mem_of_getElem? (i := 23) rfl))) (fun _ h9 => h9) rfl dX2_ownerOfLonger_50 ?_
              refine lv_iload_n hx hb dX2_ownerOfLonger_53 rfl (lv_at hl 3 rfl) ?_
              refine va_iald (D := D) hx hb hK hP 2 1 rfl rfl (vp_in_nI (by omega) (by omega)) dX2_ownerOfLonger_54 ?_
              refine lv_topi (fun v_16 ev_16 => ?_)
              refine lv_icmp_eq (tgt := 60) hx hb dX2_ownerOfLonger_55 (by decide) (fun c_17 => ?_) (fun c_17 => ?_)
              · refine lv_aload_n hx hb dX2_ownerOfLonger_60 rfl (lv_at hl 0 rfl) ?_
                refine va_get (D := D) (ci := 2) (v := .ref na2) (C := RX2) (T := TX2) (N := 4) hx hb hts hinX2 hown hK hP 0 rfl rfl 2 (by decide) (hts (.fieldLink RX2 19 "TaleReader$Names" "owners" "[I") (uc5 _ (List.mem_of_getElem? (i := 23) rfl))) (fun _ h9 => h9) rfl dX2_ownerOfLonger_61 ?_
                refine lv_iload_n hx hb dX2_ownerOfLonger_64 rfl (lv_at hl 3 rfl) ?_
                refine va_iald (D := D) hx hb hK hP 2 1 rfl rfl (vp_in_nI (by omega) (by omega)) dX2_ownerOfLonger_65 ?_
                refine lv_topi (fun v_18 ev_18 => ?_)
                refine lv_istore_n (lv' := [(2, .int v_18), (0, .ref h0), (1, .int x), (3, .int (nI i))]) hx hb dX2_ownerOfLonger_66 rfl hl (by decide) rfl (fun ls hl => ?_)
                refine lv_iinc (v := nI (i + 1)) (lv' := [(3, .int (nI (i + 1))), (2, .int v_18), (0, .ref h0), (1, .int x)]) hx hb dX2_ownerOfLonger_67 hl (k := 3) rfl (nI_add i 1) (by decide) rfl (fun ls hl => ?_)
                refine lv_goto (tgt := 18) hx hb dX2_ownerOfLonger_70 (by decide) ?_
                exact ih_6 (i + 1) v_18 (by first | assumption | exact Or.inl rfl | exact Or.inr rfl | omega) (by omega) H_11 _ ls (hP.sub (ws' := [(h0, .inr (2, [.ref mn, .ref na1, .ref na2, .int (nI e0)])), (na1, .inl (cI, 80, .inl fn1)), (na2, .inl (cI, 80, .inl fn2)), (mn, .inr (1, [.ref w, .ref ma1, .ref ma2, .ref ma3, .ref ma4, .ref ma5, .ref ma6, .ref ma7, .int (nI c), .int cut])), (ma2, .inl (cI, 80, .inl fm2)), (ma3, .inl (cI, 80, .inl fm3)), (w, .inr (7, [.ref tl, .ref wa1, .ref wa2, .ref wa3, .ref wa4, .int vw, .int sc])), (tl, .inr (5, [.ref ta, .int (nI kt)])), (ta, .inl (cB, 600, .inl ft))]) [0, 1, 2, 3, 4, 5, 6, 7, 8] rfl) (hD.sub (ws' := [(h0, .inr (2, [.ref mn, .ref na1, .ref na2, .int (nI e0)])), (na1, .inl (cI, 80, .inl fn1)), (na2, .inl (cI, 80, .inl fn2)), (mn, .inr (1, [.ref w, .ref ma1, .ref ma2, .ref ma3, .ref ma4, .ref ma5, .ref ma6, .ref ma7, .int (nI c), .int cut])), (ma2, .inl (cI, 80, .inl fm2)), (ma3, .inl (cI, 80, .inl fm3)), (w, .inr (7, [.ref tl, .ref wa1, .ref wa2, .ref wa3, .ref wa4, .int vw, .int sc])), (tl, .inr (5, [.ref ta, .int (nI kt)])), (ta, .inl (cB, 600, .inl ft))]) [0, 1, 2, 3, 4, 5, 6, 7, 8] (by decide) rfl) hS (lv_sub hl [2, 3, 1, 0] rfl)
              · refine lv_iconst (v := (-1)) hx hb dX2_ownerOfLonger_58 (by decide) ?_
                have hP9 := hP.sub (ws' := [(h0, .inr (2, [.ref mn, .ref na1, .ref na2, .int (nI e0)])), (na1, .inl (cI, 80, .inl fn1)), (na2, .inl (cI, 80, .inl fn2)), (mn, .inr (1, [.ref w, .ref ma1, .ref ma2, .ref ma3, .ref ma4, .ref ma5, .ref ma6, .ref ma7, .int (nI c), .int cut])), (ma2, .inl (cI, 80, .inl fm2)), (ma3, .inl (cI, 80, .inl fm3)), (w, .inr (7, [.ref tl, .ref wa1, .ref wa2, .ref wa3, .ref wa4, .int vw, .int sc])), (tl, .inr (5, [.ref ta, .int (nI kt)])), (ta, .inl (cB, 600, .inl ft))]) [0, 1, 2, 3, 4, 5, 6, 7, 8] rfl
                have hD9 := hD.sub (ws' := [(h0, .inr (2, [.ref mn, .ref na1, .ref na2, .int (nI e0)])), (na1, .inl (cI, 80, .inl fn1)), (na2, .inl (cI, 80, .inl fn2)), (mn, .inr (1, [.ref w, .ref ma1, .ref ma2, .ref ma3, .ref ma4, .ref ma5, .ref ma6, .ref ma7, .int (nI c), .int cut])), (ma2, .inl (cI, 80, .inl fm2)), (ma3, .inl (cI, 80, .inl fm3)), (w, .inr (7, [.ref tl, .ref wa1, .ref wa2, .ref wa3, .ref wa4, .int vw, .int sc])), (tl, .inr (5, [.ref ta, .int (nI kt)])), (ta, .inl (cB, 600, .inl ft))]) [0, 1, 2, 3, 4, 5, 6, 7, 8] (by decide) rfl
                rw [← hQ]
                exact W.iret (v := (-1)) hx hb hr (fun t ht hW => ⟨⟨(-1), (), rfl, trivial, ⟨by rw [ht]; exact hP9, va_K.moved hW.alike hK, hD9⟩⟩, hS.F ht⟩) hS.2.2 dX2_ownerOfLonger_59
    exact loop_5 _ 0 (-1) (by first | assumption | exact Or.inl rfl | exact Or.inr rfl | omega) (Nat.lt_succ_self _) H_2 _ ls (hP.sub (ws' := [(h0, .inr (2, [.ref mn, .ref na1, .ref na2, .int (nI e0)])), (na1, .inl (cI, 80, .inl fn1)), (na2, .inl (cI, 80, .inl fn2)), (mn, .inr (1, [.ref w, .ref ma1, .ref ma2, .ref ma3, .ref ma4, .ref ma5, .ref ma6, .ref ma7, .int (nI c), .int cut])), (ma2, .inl (cI, 80, .inl fm2)), (ma3, .inl (cI, 80, .inl fm3)), (w, .inr (7, [.ref tl, .ref wa1, .ref wa2, .ref wa3, .ref wa4, .int vw, .int sc])), (tl, .inr (5, [.ref ta, .int (nI kt)])), (ta, .inl (cB, 600, .inl ft))]) [0, 1, 2, 3, 4, 5, 6, 7, 8] rfl) (hD.sub (ws' := [(h0, .inr (2, [.ref mn, .ref na1, .ref na2, .int (nI e0)])), (na1, .inl (cI, 80, .inl fn1)), (na2, .inl (cI, 80, .inl fn2)), (mn, .inr (1, [.ref w, .ref ma1, .ref ma2, .ref ma3, .ref ma4, .ref ma5, .ref ma6, .ref ma7, .int (nI c), .int cut])), (ma2, .inl (cI, 80, .inl fm2)), (ma3, .inl (cI, 80, .inl fm3)), (w, .inr (7, [.ref tl, .ref wa1, .ref wa2, .ref wa3, .ref wa4, .int vw, .int sc])), (tl, .inr (5, [.ref ta, .int (nI kt)])), (ta, .inl (cB, 600, .inl ft))]) [0, 1, 2, 3, 4, 5, 6, 7, 8] (by decide) rfl) hS (lv_sub hl [2, 3, 1, 0] rfl)
  · refine lv_iconst (v := (-1)) hx hb dX2_ownerOfLonger_12 (by decide) ?_
    have hP9 := hP.sub (ws' := [(h0, .inr (2, [.ref mn, .ref na1, .ref na2, .int (nI e0)])), (na1, .inl (cI, 80, .inl fn1)), (na2, .inl (cI, 80, .inl fn2)), (mn, .inr (1, [.ref w, .ref ma1, .ref ma2, .ref ma3, .ref ma4, .ref ma5, .ref ma6, .ref ma7, .int (nI c), .int cut])), (ma2, .inl (cI, 80, .inl fm2)), (ma3, .inl (cI, 80, .inl fm3)), (w, .inr (7, [.ref tl, .ref wa1, .ref wa2, .ref wa3, .ref wa4, .int vw, .int sc])), (tl, .inr (5, [.ref ta, .int (nI kt)])), (ta, .inl (cB, 600, .inl ft))]) [0, 1, 2, 3, 4, 5, 6, 7, 8] rfl
    have hD9 := hD.sub (ws' := [(h0, .inr (2, [.ref mn, .ref na1, .ref na2, .int (nI e0)])), (na1, .inl (cI, 80, .inl fn1)), (na2, .inl (cI, 80, .inl fn2)), (mn, .inr (1, [.ref w, .ref ma1, .ref ma2, .ref ma3, .ref ma4, .ref ma5, .ref ma6, .ref ma7, .int (nI c), .int cut])), (ma2, .inl (cI, 80, .inl fm2)), (ma3, .inl (cI, 80, .inl fm3)), (w, .inr (7, [.ref tl, .ref wa1, .ref wa2, .ref wa3, .ref wa4, .int vw, .int sc])), (tl, .inr (5, [.ref ta, .int (nI kt)])), (ta, .inl (cB, 600, .inl ft))]) [0, 1, 2, 3, 4, 5, 6, 7, 8] (by decide) rfl
    rw [← hQ]
    exact W.iret (v := (-1)) hx hb hr (fun t ht hW => ⟨⟨(-1), (), rfl, trivial, ⟨by rw [ht]; exact hP9, va_K.moved hW.alike hK, hD9⟩⟩, hS.F ht⟩) hS.2.2 dX2_ownerOfLonger_13
set_option maxHeartbeats 4000000 in
set_option maxRecDepth 100000 in
theorem s_X2_ownerOfShorter (l : Launch) (D : va_G) (cB cI cZ : ClassId) (E : pEt) (sz : Nat) (h0 : Nat) (x : Int32) (mn : Nat) (na1 : Nat) (na2 : Nat) (e0 : Nat) (fn1 : Nat → Int32) (fn2 : Nat → Int32) (w : Nat) (ma1 : Nat) (ma2 : Nat) (ma3 : Nat) (ma4 : Nat) (ma5 : Nat) (ma6 : Nat) (ma7 : Nat) (c : Nat) (cut : Int32) (fm2 : Nat → Int32) (fm3 : Nat → Int32) (tl : Nat) (wa1 : Nat) (wa2 : Nat) (wa3 : Nat) (wa4 : Nat) (vw : Int32) (sc : Int32) (ta : Nat) (kt : Nat) (ft : Nat → Int32) (he : e0 ≤ 80) (hc : c ≤ 80) (hkt : kt ≤ 600) : Met l yX2_ownerOfShorter (.code yX2_ownerOfShorter cX2_ownerOfShorter 5 (some .int) :: wsL_law) ({ frames := 2, cells := 0, slots := 0, locals := 47 } : Room) (va_Pc [.ref h0, .int x] (pInE E D (pT cB cI cZ) sz [(h0, .inr (2, [.ref mn, .ref na1, .ref na2, .int (nI e0)])), (na1, .inl (cI, 80, .inl fn1)), (na2, .inl (cI, 80, .inl fn2)), (mn, .inr (1, [.ref w, .ref ma1, .ref ma2, .ref ma3, .ref ma4, .ref ma5, .ref ma6, .ref ma7, .int (nI c), .int cut])), (ma2, .inl (cI, 80, .inl fm2)), (ma3, .inl (cI, 80, .inl fm3)), (w, .inr (7, [.ref tl, .ref wa1, .ref wa2, .ref wa3, .ref wa4, .int vw, .int sc])), (tl, .inr (5, [.ref ta, .int (nI kt)])), (ta, .inl (cB, 600, .inl ft))])) (va_Qi (fun (r : Int32) (u : Unit) => True) (fun (u : Unit) (t : State) => pAt D (pT cB cI cZ) (va_A [(h0, .inr (2, [.ref mn, .ref na1, .ref na2, .int (nI e0)])), (na1, .inl (cI, 80, .inl fn1)), (na2, .inl (cI, 80, .inl fn2)), (mn, .inr (1, [.ref w, .ref ma1, .ref ma2, .ref ma3, .ref ma4, .ref ma5, .ref ma6, .ref ma7, .int (nI c), .int cut])), (ma2, .inl (cI, 80, .inl fm2)), (ma3, .inl (cI, 80, .inl fm3)), (w, .inr (7, [.ref tl, .ref wa1, .ref wa2, .ref wa3, .ref wa4, .int vw, .int sc])), (tl, .inr (5, [.ref ta, .int (nI kt)])), (ta, .inl (cB, 600, .inl ft))] sz) [(h0, .inr (2, [.ref mn, .ref na1, .ref na2, .int (nI e0)])), (na1, .inl (cI, 80, .inl fn1)), (na2, .inl (cI, 80, .inl fn2)), (mn, .inr (1, [.ref w, .ref ma1, .ref ma2, .ref ma3, .ref ma4, .ref ma5, .ref ma6, .ref ma7, .int (nI c), .int cut])), (ma2, .inl (cI, 80, .inl fm2)), (ma3, .inl (cI, 80, .inl fm3)), (w, .inr (7, [.ref tl, .ref wa1, .ref wa2, .ref wa3, .ref wa4, .int vw, .int sc])), (tl, .inr (5, [.ref ta, .int (nI kt)])), (ta, .inl (cB, 600, .inl ft))] t) (va_A [(h0, .inr (2, [.ref mn, .ref na1, .ref na2, .int (nI e0)])), (na1, .inl (cI, 80, .inl fn1)), (na2, .inl (cI, 80, .inl fn2)), (mn, .inr (1, [.ref w, .ref ma1, .ref ma2, .ref ma3, .ref ma4, .ref ma5, .ref ma6, .ref ma7, .int (nI c), .int cut])), (ma2, .inl (cI, 80, .inl fm2)), (ma3, .inl (cI, 80, .inl fm3)), (w, .inr (7, [.ref tl, .ref wa1, .ref wa2, .ref wa3, .ref wa4, .int vw, .int sc])), (tl, .inr (5, [.ref ta, .int (nI kt)])), (ta, .inl (cB, 600, .inl ft))] sz)) 0 0 (va_A [(h0, .inr (2, [.ref mn, .ref na1, .ref na2, .int (nI e0)])), (na1, .inl (cI, 80, .inl fn1)), (na2, .inl (cI, 80, .inl fn2)), (mn, .inr (1, [.ref w, .ref ma1, .ref ma2, .ref ma3, .ref ma4, .ref ma5, .ref ma6, .ref ma7, .int (nI c), .int cut])), (ma2, .inl (cI, 80, .inl fm2)), (ma3, .inl (cI, 80, .inl fm3)), (w, .inr (7, [.ref tl, .ref wa1, .ref wa2, .ref wa3, .ref wa4, .int vw, .int sc])), (tl, .inr (5, [.ref ta, .int (nI kt)])), (ta, .inl (cB, 600, .inl ft))] sz) := by
  refine Met.ofW (cc := cX2_ownerOfShorter) (maxL := 5) (ret := (some .int)) (by decide) rfl ?_
  intro p e s m args below meth cd s₁ B hml hv
  obtain ⟨rfl, hsz, hP, hK, hD0, hE⟩ := hv
  have hx := B.exec
  have hb := B.bytes
  have hr := B.returns
  have hts0 := atoms_spec (ws := .code yX2_ownerOfShorter cX2_ownerOfShorter 5 (some .int) :: wsL_law) B.pre
  have hts := fun (w : Cond) (h : w ∈ wsL_law) => hts0 w (List.mem_cons_of_mem _ h)
  have hown : s.vm.findClass RX2 = some m.cls := findClass_of_methodNamed B.named
  have hlocks := B.notSynchronized
  have hinX2 := inlX2
  subst hsz
  have hD := hD0.self (sz := s.heap.size)
  generalize hAe : va_A [(h0, .inr (2, [.ref mn, .ref na1, .ref na2, .int (nI e0)])), (na1, .inl (cI, 80, .inl fn1)), (na2, .inl (cI, 80, .inl fn2)), (mn, .inr (1, [.ref w, .ref ma1, .ref ma2, .ref ma3, .ref ma4, .ref ma5, .ref ma6, .ref ma7, .int (nI c), .int cut])), (ma2, .inl (cI, 80, .inl fm2)), (ma3, .inl (cI, 80, .inl fm3)), (w, .inr (7, [.ref tl, .ref wa1, .ref wa2, .ref wa3, .ref wa4, .int vw, .int sc])), (tl, .inr (5, [.ref ta, .int (nI kt)])), (ta, .inl (cB, 600, .inl ft))] s.heap.size = A at hD hE ⊢
  have hA : ∀ q : Nat, s.heap.size ≤ q → A q := fun q h => by rw [← hAe]; exact Or.inr h
  have hS : va_S A s.heap s.heap [] := va_S.rf
  have hP : va_P D vwCl [(h0, .inr (2, [.ref mn, .ref na1, .ref na2, .int (nI e0)])), (na1, .inl (cI, 80, .inl fn1)), (na2, .inl (cI, 80, .inl fn2)), (mn, .inr (1, [.ref w, .ref ma1, .ref ma2, .ref ma3, .ref ma4, .ref ma5, .ref ma6, .ref ma7, .int (nI c), .int cut])), (ma2, .inl (cI, 80, .inl fm2)), (ma3, .inl (cI, 80, .inl fm3)), (w, .inr (7, [.ref tl, .ref wa1, .ref wa2, .ref wa3, .ref wa4, .int vw, .int sc])), (tl, .inr (5, [.ref ta, .int (nI kt)])), (ta, .inl (cB, 600, .inl ft))] s.heap := hP
  have hl := lv_entry ([.ref h0, .int x]) (n := 5) (Nat.le_of_ble_eq_true rfl)
  rw [lg_entry_eq]
  generalize (lg_sl ([.ref h0, .int x]) ++ List.replicate (5 - (lg_sl ([.ref h0, .int x])).length) Slot.unset).toArray = ls at hl ⊢
  have hl : lv_has ls 5 [(0, .ref h0), (1, .int x)] := hl
  generalize hQ : MQ below _ _ _ _ _ _ = Q
  refine lv_iconst (v := (-1)) hx hb dX2_ownerOfShorter_0 (by decide) ?_
  refine lv_istore_n (lv' := [(2, .int (-1)), (0, .ref h0), (1, .int x)]) hx hb dX2_ownerOfShorter_1 rfl hl (by decide) rfl (fun ls hl => ?_)
  refine lv_iconst (v := 0) hx hb dX2_ownerOfShorter_2 (by decide) ?_
  refine lv_istore_n (lv' := [(3, .int 0), (2, .int (-1)), (0, .ref h0), (1, .int x)]) hx hb dX2_ownerOfShorter_3 rfl hl (by decide) rfl (fun ls hl => ?_)
  have loop_1 : ∀ (nn_3 : Nat) (i : Nat) (y : Int32), (i ≤ 600) → (e0 - i < nn_3) → ∀ (H : Heap) (locs : List Loc) (ls : Array Slot), va_P D vwCl [(h0, .inr (2, [.ref mn, .ref na1, .ref na2, .int (nI e0)])), (na1, .inl (cI, 80, .inl fn1)), (na2, .inl (cI, 80, .inl fn2)), (mn, .inr (1, [.ref w, .ref ma1, .ref ma2, .ref ma3, .ref ma4, .ref ma5, .ref ma6, .ref ma7, .int (nI c), .int cut])), (ma2, .inl (cI, 80, .inl fm2)), (ma3, .inl (cI, 80, .inl fm3)), (w, .inr (7, [.ref tl, .ref wa1, .ref wa2, .ref wa3, .ref wa4, .int vw, .int sc])), (tl, .inr (5, [.ref ta, .int (nI kt)])), (ta, .inl (cB, 600, .inl ft))] H → va_D A [(h0, .inr (2, [.ref mn, .ref na1, .ref na2, .int (nI e0)])), (na1, .inl (cI, 80, .inl fn1)), (na2, .inl (cI, 80, .inl fn2)), (mn, .inr (1, [.ref w, .ref ma1, .ref ma2, .ref ma3, .ref ma4, .ref ma5, .ref ma6, .ref ma7, .int (nI c), .int cut])), (ma2, .inl (cI, 80, .inl fm2)), (ma3, .inl (cI, 80, .inl fm3)), (w, .inr (7, [.ref tl, .ref wa1, .ref wa2, .ref wa3, .ref wa4, .int vw, .int sc])), (tl, .inr (5, [.ref ta, .int (nI kt)])), (ta, .inl (cB, 600, .inl ft))] → va_S A s.heap H locs → lv_has ls 5 [(0, .ref h0), (1, .int x), (2, .int y), (3, .int (nI i))] → W p l e ({ frames := 2, cells := 0, slots := 0, locals := 47 } : Room) s m ([.ref h0, .int x] : List Value).toArray below meth cd H locs 0 0 Q (F0 m 4 ls []) := by
    intro nn_3
    induction nn_3 with
    | zero => intros; exact absurd ‹_ < 0› (Nat.not_lt_zero _)
    | succ nn_3 ih_2 =>
      intro i y hi600 hmu H locs ls hP hD hS hl
      refine lv_iload_n hx hb dX2_ownerOfShorter_4 rfl (lv_at hl 3 rfl) ?_
      refine lv_aload_n hx hb dX2_ownerOfShorter_5 rfl (lv_at hl 0 rfl) ?_
      refine va_get (D := D) (ci := 2) (v := .int (nI e0)) (C := RX2) (T := TX2) (N := 4) hx hb hts hinX2 hown hK hP 0 rfl rfl 3 (by decide) (hts (.fieldLink RX2 22 "TaleReader$Names" "count" "I") (uc6 _ (List.mem_of_getElem? (i := 0) rfl))) (fun _ h9 => h9) rfl dX2_ownerOfShorter_6 ?_
      refine lv_icmp_ge (tgt := 88) hx hb dX2_ownerOfShorter_9 (by decide) (fun c_4 => ?_) (fun c_4 => ?_)
      · refine lv_iload_n hx hb dX2_ownerOfShorter_88 rfl (lv_at hl 2 rfl) ?_
        have hP9 := hP.sub (ws' := [(h0, .inr (2, [.ref mn, .ref na1, .ref na2, .int (nI e0)])), (na1, .inl (cI, 80, .inl fn1)), (na2, .inl (cI, 80, .inl fn2)), (mn, .inr (1, [.ref w, .ref ma1, .ref ma2, .ref ma3, .ref ma4, .ref ma5, .ref ma6, .ref ma7, .int (nI c), .int cut])), (ma2, .inl (cI, 80, .inl fm2)), (ma3, .inl (cI, 80, .inl fm3)), (w, .inr (7, [.ref tl, .ref wa1, .ref wa2, .ref wa3, .ref wa4, .int vw, .int sc])), (tl, .inr (5, [.ref ta, .int (nI kt)])), (ta, .inl (cB, 600, .inl ft))]) [0, 1, 2, 3, 4, 5, 6, 7, 8] rfl
        have hD9 := hD.sub (ws' := [(h0, .inr (2, [.ref mn, .ref na1, .ref na2, .int (nI e0)])), (na1, .inl (cI, 80, .inl fn1)), (na2, .inl (cI, 80, .inl fn2)), (mn, .inr (1, [.ref w, .ref ma1, .ref ma2, .ref ma3, .ref ma4, .ref ma5, .ref ma6, .ref ma7, .int (nI c), .int cut])), (ma2, .inl (cI, 80, .inl fm2)), (ma3, .inl (cI, 80, .inl fm3)), (w, .inr (7, [.ref tl, .ref wa1, .ref wa2, .ref wa3, .ref wa4, .int vw, .int sc])), (tl, .inr (5, [.ref ta, .int (nI kt)])), (ta, .inl (cB, 600, .inl ft))]) [0, 1, 2, 3, 4, 5, 6, 7, 8] (by decide) rfl
        rw [← hQ]
        exact W.iret (v := y) hx hb hr (fun t ht hW => ⟨⟨y, (), rfl, trivial, ⟨by rw [ht]; exact hP9, va_K.moved hW.alike hK, hD9⟩⟩, hS.F ht⟩) hS.2.2 dX2_ownerOfShorter_89
      · have hlt_i : i < e0 := Nat.lt_of_not_le (fun q => c_4 (nI_le q (by omega)))
        refine lv_aload_n hx hb dX2_ownerOfShorter_12 rfl (lv_at hl 0 rfl) ?_
        refine va_get (D := D) (ci := 2) (v := .ref mn) (C := RX2) (T := TX2) (N := 4) hx hb hts hinX2 hown hK hP 0 rfl rfl 0 (by decide) (hts (.fieldLink RX2 9 "TaleReader$Names" "mentions" "LTaleReader$Mentions;") (uc5 _ (List.mem_of_getElem? (i := 21) rfl))) (fun _ h9 => h9) rfl dX2_ownerOfShorter_13 ?_
        refine lv_aload_n hx hb dX2_ownerOfShorter_16 rfl (lv_at hl 0 rfl) ?_
        refine va_get (D := D) (ci := 2) (v := .ref na1) (C := RX2) (T := TX2) (N := 4) hx hb hts hinX2 hown hK hP 0 rfl rfl 1 (by decide) (hts (.fieldLink RX2 15 "TaleReader$Names" "firstMentions" "[I") (uc5 _ (List.mem_of_getElem? (i := 22) rfl))) (fun _ h9 => h9) rfl dX2_ownerOfShorter_17 ?_
        refine lv_iload_n hx hb dX2_ownerOfShorter_20 rfl (lv_at hl 3 rfl) ?_
        refine va_iald (D := D) hx hb hK hP 1 1 rfl rfl (vp_in_nI (by omega) (by omega)) dX2_ownerOfShorter_21 ?_
        refine lv_topi (fun v_5 ev_5 => ?_)
        have hPc := hP.sub (ws' := [(mn, .inr (1, [.ref w, .ref ma1, .ref ma2, .ref ma3, .ref ma4, .ref ma5, .ref ma6, .ref ma7, .int (nI c), .int cut])), (ma3, .inl (cI, 80, .inl fm3))]) [3, 5] rfl
        have hDc := hD.sub (ws' := [(mn, .inr (1, [.ref w, .ref ma1, .ref ma2, .ref ma3, .ref ma4, .ref ma5, .ref ma6, .ref ma7, .int (nI c), .int cut])), (ma3, .inl (cI, 80, .inl fm3))]) [3, 5] (by decide) rfl
        have hFc := va_free (wc := [(mn, .inr (1, [.ref w, .ref ma1, .ref ma2, .ref ma3, .ref ma4, .ref ma5, .ref ma6, .ref ma7, .int (nI c), .int cut])), (ma3, .inl (cI, 80, .inl fm3))]) hD hS hA [3, 5] rfl
        refine va_calli (va_runV (As := [.int v_5]) (rest := []) ⟨hx, hb, hml, hown, hts⟩ (s_X1_lengthOf l D cB cI cZ E H.size mn v_5 w ma1 ma2 ma3 ma4 ma5 ma6 ma7 c cut fm3 (by first | assumption | omega)) (cwV 1 hts (uV (uc20 _ (List.mem_of_getElem? (i := 12) rfl)) (uc20 _ (List.mem_of_getElem? (i := 13) rfl)) (uc20 _ (List.mem_of_getElem? (i := 14) rfl)) (uc2 _ (List.mem_of_getElem? (i := 6) rfl)) (uc20 _ (List.mem_of_getElem? (i := 15) rfl))) rfl rfl rfl (by decide +kernel) ⟨Nat.le_of_ble_eq_true rfl, Nat.le_of_ble_eq_true rfl⟩) (pVE hE hS hFc hK hPc hDc 0 rfl rfl) rfl rfl hl.1 rfl (lv_room (Nat.le_of_ble_eq_true rfl)) dX2_ownerOfShorter_22 ⟨Nat.le_of_ble_eq_true rfl, Nat.le_of_ble_eq_true rfl⟩) hS (fun q _ h => hFc q h) hFc (fun r_6 u t H_7 L_8 ht hvm hw hB hz1 hk1 hS => ?_)
        obtain ⟨hP1, -, hD1⟩ := hB
        rw [ht] at hP1
        obtain ⟨hP, hD⟩ := va_join (wr := [(h0, .inr (2, [.ref mn, .ref na1, .ref na2, .int (nI e0)])), (na1, .inl (cI, 80, .inl fn1)), (na2, .inl (cI, 80, .inl fn2)), (ma2, .inl (cI, 80, .inl fm2)), (w, .inr (7, [.ref tl, .ref wa1, .ref wa2, .ref wa3, .ref wa4, .int vw, .int sc])), (tl, .inr (5, [.ref ta, .int (nI kt)])), (ta, .inl (cB, 600, .inl ft))]) (w1 := [(mn, .inr (1, [.ref w, .ref ma1, .ref ma2, .ref ma3, .ref ma4, .ref ma5, .ref ma6, .ref ma7, .int (nI c), .int cut])), (ma3, .inl (cI, 80, .inl fm3))]) hP hD [3, 5] [0, 1, 2, 4, 6, 7, 8] rfl rfl (by decide) (by decide) hk1 hFc hP1 hD1
        have hP : va_P D vwCl [(h0, .inr (2, [.ref mn, .ref na1, .ref na2, .int (nI e0)])), (na1, .inl (cI, 80, .inl fn1)), (na2, .inl (cI, 80, .inl fn2)), (mn, .inr (1, [.ref w, .ref ma1, .ref ma2, .ref ma3, .ref ma4, .ref ma5, .ref ma6, .ref ma7, .int (nI c), .int cut])), (ma2, .inl (cI, 80, .inl fm2)), (ma3, .inl (cI, 80, .inl fm3)), (w, .inr (7, [.ref tl, .ref wa1, .ref wa2, .ref wa3, .ref wa4, .int vw, .int sc])), (tl, .inr (5, [.ref ta, .int (nI kt)])), (ta, .inl (cB, 600, .inl ft))] H_7 := hP.sub [0, 1, 2, 7, 3, 8, 4, 5, 6] rfl
        have hD : va_D A [(h0, .inr (2, [.ref mn, .ref na1, .ref na2, .int (nI e0)])), (na1, .inl (cI, 80, .inl fn1)), (na2, .inl (cI, 80, .inl fn2)), (mn, .inr (1, [.ref w, .ref ma1, .ref ma2, .ref ma3, .ref ma4, .ref ma5, .ref ma6, .ref ma7, .int (nI c), .int cut])), (ma2, .inl (cI, 80, .inl fm2)), (ma3, .inl (cI, 80, .inl fm3)), (w, .inr (7, [.ref tl, .ref wa1, .ref wa2, .ref wa3, .ref wa4, .int vw, .int sc])), (tl, .inr (5, [.ref ta, .int (nI kt)])), (ta, .inl (cB, 600, .inl ft))] := hD.sub [0, 1, 2, 7, 3, 8, 4, 5, 6] (by decide) rfl
        try dsimp only at hw
        refine lv_iconst (v := 3) hx hb dX2_ownerOfShorter_25 (by decide) ?_
        refine lv_icmp_lt (tgt := 33) hx hb dX2_ownerOfShorter_26 (by decide) (fun c_9 => ?_) (fun c_9 => ?_)
        · refine lv_iconst (v := 0) hx hb dX2_ownerOfShorter_33 (by decide) ?_
          refine lv_istore (lv' := [(4, .int 0), (0, .ref h0), (1, .int x), (2, .int y), (3, .int (nI i))]) hx hb dX2_ownerOfShorter_34 hl (by decide) rfl (fun ls hl => ?_)
          refine lv_iload hx hb dX2_ownerOfShorter_36 (lv_at hl 0 rfl) ?_
          refine lv_if_eq (tgt := 82) hx hb dX2_ownerOfShorter_38 (by decide) (fun c_10 => ?_) (fun c_10 => ?_)
          · refine lv_iinc (v := nI (i + 1)) (lv' := [(3, .int (nI (i + 1))), (4, .int 0), (0, .ref h0), (1, .int x), (2, .int y)]) hx hb dX2_ownerOfShorter_82 hl (k := 4) rfl (nI_add i 1) (by decide) rfl (fun ls hl => ?_)
            refine lv_goto (tgt := 4) hx hb dX2_ownerOfShorter_85 (by decide) ?_
            exact ih_2 (i + 1) y (by first | assumption | exact Or.inl rfl | exact Or.inr rfl | omega) (by omega) H_7 _ ls (hP.sub (ws' := [(h0, .inr (2, [.ref mn, .ref na1, .ref na2, .int (nI e0)])), (na1, .inl (cI, 80, .inl fn1)), (na2, .inl (cI, 80, .inl fn2)), (mn, .inr (1, [.ref w, .ref ma1, .ref ma2, .ref ma3, .ref ma4, .ref ma5, .ref ma6, .ref ma7, .int (nI c), .int cut])), (ma2, .inl (cI, 80, .inl fm2)), (ma3, .inl (cI, 80, .inl fm3)), (w, .inr (7, [.ref tl, .ref wa1, .ref wa2, .ref wa3, .ref wa4, .int vw, .int sc])), (tl, .inr (5, [.ref ta, .int (nI kt)])), (ta, .inl (cB, 600, .inl ft))]) [0, 1, 2, 3, 4, 5, 6, 7, 8] rfl) (hD.sub (ws' := [(h0, .inr (2, [.ref mn, .ref na1, .ref na2, .int (nI e0)])), (na1, .inl (cI, 80, .inl fn1)), (na2, .inl (cI, 80, .inl fn2)), (mn, .inr (1, [.ref w, .ref ma1, .ref ma2, .ref ma3, .ref ma4, .ref ma5, .ref ma6, .ref ma7, .int (nI c), .int cut])), (ma2, .inl (cI, 80, .inl fm2)), (ma3, .inl (cI, 80, .inl fm3)), (w, .inr (7, [.ref tl, .ref wa1, .ref wa2, .ref wa3, .ref wa4, .int vw, .int sc])), (tl, .inr (5, [.ref ta, .int (nI kt)])), (ta, .inl (cB, 600, .inl ft))]) [0, 1, 2, 3, 4, 5, 6, 7, 8] (by decide) rfl) hS (lv_sub hl [2, 3, 4, 0] rfl)
          · exact False.elim (by revert c_10; decide)
        · refine lv_iconst (v := 1) hx hb dX2_ownerOfShorter_29 (by decide) ?_
          refine lv_goto (tgt := 34) hx hb dX2_ownerOfShorter_30 (by decide) ?_
          refine lv_istore (lv' := [(4, .int 1), (0, .ref h0), (1, .int x), (2, .int y), (3, .int (nI i))]) hx hb dX2_ownerOfShorter_34 hl (by decide) rfl (fun ls hl => ?_)
          refine lv_iload hx hb dX2_ownerOfShorter_36 (lv_at hl 0 rfl) ?_
          refine lv_if_eq (tgt := 82) hx hb dX2_ownerOfShorter_38 (by decide) (fun c_11 => ?_) (fun c_11 => ?_)
          · exact False.elim (by revert c_11; decide)
          · refine lv_aload_n hx hb dX2_ownerOfShorter_41 rfl (lv_at hl 1 rfl) ?_
            refine va_get (D := D) (ci := 2) (v := .ref mn) (C := RX2) (T := TX2) (N := 4) hx hb hts hinX2 hown hK hP 0 rfl rfl 0 (by decide) (hts (.fieldLink RX2 9 "TaleReader$Names" "mentions" "LTaleReader$Mentions;") (uc5 _ (List.mem_of_getElem? (i := 21) rfl))) (fun _ h9 => h9) rfl dX2_ownerOfShorter_42 ?_
            refine lv_iload_n hx hb dX2_ownerOfShorter_45 rfl (lv_at hl 2 rfl) ?_
            refine lv_aload_n hx hb dX2_ownerOfShorter_46 rfl (lv_at hl 1 rfl) ?_
            refine va_get (D := D) (ci := 2) (v := .ref na1) (C := RX2) (T := TX2) (N := 4) hx hb hts hinX2 hown hK hP 0 rfl rfl 1 (by decide) (hts (.fieldLink RX2 15 "TaleReader$Names" "firstMentions" "[I") (uc5 _ (List.mem_of_getElem? (i := 22) rfl))) (fun _ h9 => h9) rfl dX2_ownerOfShorter_47 ?_
            refine lv_iload_n hx hb dX2_ownerOfShorter_50 rfl (lv_at hl 4 rfl) ?_
            refine va_iald (D := D) hx hb hK hP 1 1 rfl rfl (vp_in_nI (by omega) (by omega)) dX2_ownerOfShorter_51 ?_
            refine lv_topi (fun v_12 ev_12 => ?_)
            have hPc := hP.sub (ws' := [(mn, .inr (1, [.ref w, .ref ma1, .ref ma2, .ref ma3, .ref ma4, .ref ma5, .ref ma6, .ref ma7, .int (nI c), .int cut])), (ma2, .inl (cI, 80, .inl fm2)), (ma3, .inl (cI, 80, .inl fm3)), (w, .inr (7, [.ref tl, .ref wa1, .ref wa2, .ref wa3, .ref wa4, .int vw, .int sc])), (tl, .inr (5, [.ref ta, .int (nI kt)])), (ta, .inl (cB, 600, .inl ft))]) [3, 4, 5, 6, 7, 8] rfl
            have hDc := hD.sub (ws' := [(mn, .inr (1, [.ref w, .ref ma1, .ref ma2, .ref ma3, .ref ma4, .ref ma5, .ref ma6, .ref ma7, .int (nI c), .int cut])), (ma2, .inl (cI, 80, .inl fm2)), (ma3, .inl (cI, 80, .inl fm3)), (w, .inr (7, [.ref tl, .ref wa1, .ref wa2, .ref wa3, .ref wa4, .int vw, .int sc])), (tl, .inr (5, [.ref ta, .int (nI kt)])), (ta, .inl (cB, 600, .inl ft))]) [3, 4, 5, 6, 7, 8] (by decide) rfl
            have hFc := va_free (wc := [(mn, .inr (1, [.ref w, .ref ma1, .ref ma2, .ref ma3, .ref ma4, .ref ma5, .ref ma6, .ref ma7, .int (nI c), .int cut])), (ma2, .inl (cI, 80, .inl fm2)), (ma3, .inl (cI, 80, .inl fm3)), (w, .inr (7, [.ref tl, .ref wa1, .ref wa2, .ref wa3, .ref wa4, .int vw, .int sc])), (tl, .inr (5, [.ref ta, .int (nI kt)])), (ta, .inl (cB, 600, .inl ft))]) hD hS hA [3, 4, 5, 6, 7, 8] rfl
            refine va_calli (va_runV (As := [.int x, .int v_12]) (rest := []) ⟨hx, hb, hml, hown, hts⟩ (s_X1_beginsWith l D cB cI cZ E H_7.size mn x v_12 w ma1 ma2 ma3 ma4 ma5 ma6 ma7 c cut fm2 fm3 tl wa1 wa2 wa3 wa4 vw sc ta kt ft (by first | assumption | omega) (by first | assumption | omega)) (cwV 2 hts (uV (uc20 _ (List.mem_of_getElem? (i := 16) rfl)) (uc20 _ (List.mem_of_getElem? (i := 17) rfl)) (uc20 _ (List.mem_of_getElem? (i := 18) rfl)) (uc2 _ (List.mem_of_getElem? (i := 6) rfl)) (uc20 _ (List.mem_of_getElem? (i := 19) rfl))) rfl rfl rfl (by decide +kernel) ⟨Nat.le_of_ble_eq_true rfl, Nat.le_of_ble_eq_true rfl⟩) (pVE hE hS hFc hK hPc hDc 0 rfl rfl) rfl rfl hl.1 rfl (lv_room (Nat.le_of_ble_eq_true rfl)) dX2_ownerOfShorter_52 ⟨Nat.le_of_ble_eq_true rfl, Nat.le_of_ble_eq_true rfl⟩) hS (fun q _ h => hFc q h) hFc (fun r_13 u t H_14 L_15 ht hvm hw hB hz1 hk1 hS => ?_)
            obtain ⟨hP1, -, hD1⟩ := hB
            rw [ht] at hP1
            obtain ⟨hP, hD⟩ := va_join (wr := [(h0, .inr (2, [.ref mn, .ref na1, .ref na2, .int (nI e0)])), (na1, .inl (cI, 80, .inl fn1)), (na2, .inl (cI, 80, .inl fn2))]) (w1 := [(mn, .inr (1, [.ref w, .ref ma1, .ref ma2, .ref ma3, .ref ma4, .ref ma5, .ref ma6, .ref ma7, .int (nI c), .int cut])), (ma2, .inl (cI, 80, .inl fm2)), (ma3, .inl (cI, 80, .inl fm3)), (w, .inr (7, [.ref tl, .ref wa1, .ref wa2, .ref wa3, .ref wa4, .int vw, .int sc])), (tl, .inr (5, [.ref ta, .int (nI kt)])), (ta, .inl (cB, 600, .inl ft))]) hP hD [3, 4, 5, 6, 7, 8] [0, 1, 2] rfl rfl (by decide) (by decide) hk1 hFc hP1 hD1
            have hP : va_P D vwCl [(h0, .inr (2, [.ref mn, .ref na1, .ref na2, .int (nI e0)])), (na1, .inl (cI, 80, .inl fn1)), (na2, .inl (cI, 80, .inl fn2)), (mn, .inr (1, [.ref w, .ref ma1, .ref ma2, .ref ma3, .ref ma4, .ref ma5, .ref ma6, .ref ma7, .int (nI c), .int cut])), (ma2, .inl (cI, 80, .inl fm2)), (ma3, .inl (cI, 80, .inl fm3)), (w, .inr (7, [.ref tl, .ref wa1, .ref wa2, .ref wa3, .ref wa4, .int vw, .int sc])), (tl, .inr (5, [.ref ta, .int (nI kt)])), (ta, .inl (cB, 600, .inl ft))] H_14 := hP.sub [0, 1, 2, 3, 4, 5, 6, 7, 8] rfl
            have hD : va_D A [(h0, .inr (2, [.ref mn, .ref na1, .ref na2, .int (nI e0)])), (na1, .inl (cI, 80, .inl fn1)), (na2, .inl (cI, 80, .inl fn2)), (mn, .inr (1, [.ref w, .ref ma1, .ref ma2, .ref ma3, .ref ma4, .ref ma5, .ref ma6, .ref ma7, .int (nI c), .int cut])), (ma2, .inl (cI, 80, .inl fm2)), (ma3, .inl (cI, 80, .inl fm3)), (w, .inr (7, [.ref tl, .ref wa1, .ref wa2, .ref wa3, .ref wa4, .int vw, .int sc])), (tl, .inr (5, [.ref ta, .int (nI kt)])), (ta, .inl (cB, 600, .inl ft))] := hD.sub [0, 1, 2, 3, 4, 5, 6, 7, 8] (by decide) rfl
            try dsimp only at hw
            refine lv_if_eq (tgt := 82) hx hb dX2_ownerOfShorter_55 (by decide) (fun c_16 => ?_) (fun c_16 => ?_)
            · refine lv_iinc (v := nI (i + 1)) (lv' := [(3, .int (nI (i + 1))), (4, .int 1), (0, .ref h0), (1, .int x), (2, .int y)]) hx hb dX2_ownerOfShorter_82 hl (k := 4) rfl (nI_add i 1) (by decide) rfl (fun ls hl => ?_)
              refine lv_goto (tgt := 4) hx hb dX2_ownerOfShorter_85 (by decide) ?_
              exact ih_2 (i + 1) y (by first | assumption | exact Or.inl rfl | exact Or.inr rfl | omega) (by omega) H_14 _ ls (hP.sub (ws' := [(h0, .inr (2, [.ref mn, .ref na1, .ref na2, .int (nI e0)])), (na1, .inl (cI, 80, .inl fn1)), (na2, .inl (cI, 80, .inl fn2)), (mn, .inr (1, [.ref w, .ref ma1, .ref ma2, .ref ma3, .ref ma4, .ref ma5, .ref ma6, .ref ma7, .int (nI c), .int cut])), (ma2, .inl (cI, 80, .inl fm2)), (ma3, .inl (cI, 80, .inl fm3)), (w, .inr (7, [.ref tl, .ref wa1, .ref wa2, .ref wa3, .ref wa4, .int vw, .int sc])), (tl, .inr (5, [.ref ta, .int (nI kt)])), (ta, .inl (cB, 600, .inl ft))]) [0, 1, 2, 3, 4, 5, 6, 7, 8] rfl) (hD.sub (ws' := [(h0, .inr (2, [.ref mn, .ref na1, .ref na2, .int (nI e0)])), (na1, .inl (cI, 80, .inl fn1)), (na2, .inl (cI, 80, .inl fn2)), (mn, .inr (1, [.ref w, .ref ma1, .ref ma2, .ref ma3, .ref ma4, .ref ma5, .ref ma6, .ref ma7, .int (nI c), .int cut])), (ma2, .inl (cI, 80, .inl fm2)), (ma3, .inl (cI, 80, .inl fm3)), (w, .inr (7, [.ref tl, .ref wa1, .ref wa2, .ref wa3, .ref wa4, .int vw, .int sc])), (tl, .inr (5, [.ref ta, .int (nI kt)])), (ta, .inl (cB, 600, .inl ft))]) [0, 1, 2, 3, 4, 5, 6, 7, 8] (by decide) rfl) hS (lv_sub hl [2, 3, 4, 0] rfl)
            · refine lv_iload_n hx hb dX2_ownerOfShorter_58 rfl (lv_at hl 3 rfl) ?_
              refine lv_iconst (v := (-1)) hx hb dX2_ownerOfShorter_59 (by decide) ?_
              refine lv_icmp_eq (tgt := 75) hx hb dX2_ownerOfShorter_60 (by decide) (fun c_17 => ?_) (fun c_17 => ?_)
              · refine lv_aload_n hx hb dX2_ownerOfShorter_75 rfl (lv_at hl 1 rfl) ?_
                refine va_get (D := D) (ci := 2) (v := .ref na2) (C := RX2) (T := TX2) (N := 4) hx hb hts hinX2 hown hK hP 0 rfl rfl 2 (by decide) (hts (.fieldLink RX2 19 "TaleReader$Names" "owners" "[I") (uc5 _ (List.mem_of_getElem? (i := 23) rfl))) (fun _ h9 => h9) rfl dX2_ownerOfShorter_76 ?_
                refine lv_iload_n hx hb dX2_ownerOfShorter_79 rfl (lv_at hl 4 rfl) ?_
                refine va_iald (D := D) hx hb hK hP 2 1 rfl rfl (vp_in_nI (by omega) (by omega)) dX2_ownerOfShorter_80 ?_
                refine lv_topi (fun v_18 ev_18 => ?_)
                refine lv_istore_n (lv' := [(2, .int v_18), (4, .int 1), (0, .ref h0), (1, .int x), (3, .int (nI i))]) hx hb dX2_ownerOfShorter_81 rfl hl (by decide) rfl (fun ls hl => ?_)
                refine lv_iinc (v := nI (i + 1)) (lv' := [(3, .int (nI (i + 1))), (2, .int v_18), (4, .int 1), (0, .ref h0), (1, .int x)]) hx hb dX2_ownerOfShorter_82 hl (k := 4) rfl (nI_add i 1) (by decide) rfl (fun ls hl => ?_)
                refine lv_goto (tgt := 4) hx hb dX2_ownerOfShorter_85 (by decide) ?_
                exact ih_2 (i + 1) v_18 (by first | assumption | exact Or.inl rfl | exact Or.inr rfl | omega) (by omega) H_14 _ ls (hP.sub (ws' := [(h0, .inr (2, [.ref mn, .ref na1, .ref na2, .int (nI e0)])), (na1, .inl (cI, 80, .inl fn1)), (na2, .inl (cI, 80, .inl fn2)), (mn, .inr (1, [.ref w, .ref ma1, .ref ma2, .ref ma3, .ref ma4, .ref ma5, .ref ma6, .ref ma7, .int (nI c), .int cut])), (ma2, .inl (cI, 80, .inl fm2)), (ma3, .inl (cI, 80, .inl fm3)), (w, .inr (7, [.ref tl, .ref wa1, .ref wa2, .ref wa3, .ref wa4, .int vw, .int sc])), (tl, .inr (5, [.ref ta, .int (nI kt)])), (ta, .inl (cB, 600, .inl ft))]) [0, 1, 2, 3, 4, 5, 6, 7, 8] rfl) (hD.sub (ws' := [(h0, .inr (2, [.ref mn, .ref na1, .ref na2, .int (nI e0)])), (na1, .inl (cI, 80, .inl fn1)), (na2, .inl (cI, 80, .inl fn2)), (mn, .inr (1, [.ref w, .ref ma1, .ref ma2, .ref ma3, .ref ma4, .ref ma5, .ref ma6, .ref ma7, .int (nI c), .int cut])), (ma2, .inl (cI, 80, .inl fm2)), (ma3, .inl (cI, 80, .inl fm3)), (w, .inr (7, [.ref tl, .ref wa1, .ref wa2, .ref wa3, .ref wa4, .int vw, .int sc])), (tl, .inr (5, [.ref ta, .int (nI kt)])), (ta, .inl (cB, 600, .inl ft))]) [0, 1, 2, 3, 4, 5, 6, 7, 8] (by decide) rfl) hS (lv_sub hl [3, 4, 1, 0] rfl)
              · refine lv_iload_n hx hb dX2_ownerOfShorter_63 rfl (lv_at hl 3 rfl) ?_
                refine lv_aload_n hx hb dX2_ownerOfShorter_64 rfl (lv_at hl 1 rfl) ?_
                refine va_get (D := D) (ci := 2) (v := .ref na2) (C := RX2) (T := TX2) (N := 4) hx hb hts hinX2 hown hK hP 0 rfl rfl 2 (by decide) (hts (.fieldLink RX2 19 "TaleReader$Names" "owners" "[I") (uc5 _ (List.mem_of_getElem? (i := 23) rfl))) (fun _ h9 => h9) rfl dX2_ownerOfShorter_65 ?_
                refine lv_iload_n hx hb dX2_ownerOfShorter_68 rfl (lv_at hl 4 rfl) ?_
                refine va_iald (D := D) hx hb hK hP 2 1 rfl rfl (vp_in_nI (by omega) (by omega)) dX2_ownerOfShorter_69 ?_
                refine lv_topi (fun v_19 ev_19 => ?_)
                refine lv_icmp_eq (tgt := 75) hx hb dX2_ownerOfShorter_70 (by decide) (fun c_20 => ?_) (fun c_20 => ?_)
                · refine lv_aload_n hx hb dX2_ownerOfShorter_75 rfl (lv_at hl 1 rfl) ?_
                  refine va_get (D := D) (ci := 2) (v := .ref na2) (C := RX2) (T := TX2) (N := 4) hx hb hts hinX2 hown hK hP 0 rfl rfl 2 (by decide) (hts (.fieldLink RX2 19 "TaleReader$Names" "owners" "[I") (uc5 _ (List.mem_of_getElem? (i := 23) rfl))) (fun _ h9 => h9) rfl dX2_ownerOfShorter_76 ?_
                  refine lv_iload_n hx hb dX2_ownerOfShorter_79 rfl (lv_at hl 4 rfl) ?_
                  refine va_iald (D := D) hx hb hK hP 2 1 rfl rfl (vp_in_nI (by omega) (by omega)) dX2_ownerOfShorter_80 ?_
                  refine lv_topi (fun v_21 ev_21 => ?_)
                  refine lv_istore_n (lv' := [(2, .int v_21), (4, .int 1), (0, .ref h0), (1, .int x), (3, .int (nI i))]) hx hb dX2_ownerOfShorter_81 rfl hl (by decide) rfl (fun ls hl => ?_)
                  refine lv_iinc (v := nI (i + 1)) (lv' := [(3, .int (nI (i + 1))), (2, .int v_21), (4, .int 1), (0, .ref h0), (1, .int x)]) hx hb dX2_ownerOfShorter_82 hl (k := 4) rfl (nI_add i 1) (by decide) rfl (fun ls hl => ?_)
                  refine lv_goto (tgt := 4) hx hb dX2_ownerOfShorter_85 (by decide) ?_
                  exact ih_2 (i + 1) v_21 (by first | assumption | exact Or.inl rfl | exact Or.inr rfl | omega) (by omega) H_14 _ ls (hP.sub (ws' := [(h0, .inr (2, [.ref mn, .ref na1, .ref na2, .int (nI e0)])), (na1, .inl (cI, 80, .inl fn1)), (na2, .inl (cI, 80, .inl fn2)), (mn, .inr (1, [.ref w, .ref ma1, .ref ma2, .ref ma3, .ref ma4, .ref ma5, .ref ma6, .ref ma7, .int (nI c), .int cut])), (ma2, .inl (cI, 80, .inl fm2)), (ma3, .inl (cI, 80, .inl fm3)), (w, .inr (7, [.ref tl, .ref wa1, .ref wa2, .ref wa3, .ref wa4, .int vw, .int sc])), (tl, .inr (5, [.ref ta, .int (nI kt)])), (ta, .inl (cB, 600, .inl ft))]) [0, 1, 2, 3, 4, 5, 6, 7, 8] rfl) (hD.sub (ws' := [(h0, .inr (2, [.ref mn, .ref na1, .ref na2, .int (nI e0)])), (na1, .inl (cI, 80, .inl fn1)), (na2, .inl (cI, 80, .inl fn2)), (mn, .inr (1, [.ref w, .ref ma1, .ref ma2, .ref ma3, .ref ma4, .ref ma5, .ref ma6, .ref ma7, .int (nI c), .int cut])), (ma2, .inl (cI, 80, .inl fm2)), (ma3, .inl (cI, 80, .inl fm3)), (w, .inr (7, [.ref tl, .ref wa1, .ref wa2, .ref wa3, .ref wa4, .int vw, .int sc])), (tl, .inr (5, [.ref ta, .int (nI kt)])), (ta, .inl (cB, 600, .inl ft))]) [0, 1, 2, 3, 4, 5, 6, 7, 8] (by decide) rfl) hS (lv_sub hl [3, 4, 1, 0] rfl)
                · refine lv_iconst (v := (-1)) hx hb dX2_ownerOfShorter_73 (by decide) ?_
                  have hP9 := hP.sub (ws' := [(h0, .inr (2, [.ref mn, .ref na1, .ref na2, .int (nI e0)])), (na1, .inl (cI, 80, .inl fn1)), (na2, .inl (cI, 80, .inl fn2)), (mn, .inr (1, [.ref w, .ref ma1, .ref ma2, .ref ma3, .ref ma4, .ref ma5, .ref ma6, .ref ma7, .int (nI c), .int cut])), (ma2, .inl (cI, 80, .inl fm2)), (ma3, .inl (cI, 80, .inl fm3)), (w, .inr (7, [.ref tl, .ref wa1, .ref wa2, .ref wa3, .ref wa4, .int vw, .int sc])), (tl, .inr (5, [.ref ta, .int (nI kt)])), (ta, .inl (cB, 600, .inl ft))]) [0, 1, 2, 3, 4, 5, 6, 7, 8] rfl
                  have hD9 := hD.sub (ws' := [(h0, .inr (2, [.ref mn, .ref na1, .ref na2, .int (nI e0)])), (na1, .inl (cI, 80, .inl fn1)), (na2, .inl (cI, 80, .inl fn2)), (mn, .inr (1, [.ref w, .ref ma1, .ref ma2, .ref ma3, .ref ma4, .ref ma5, .ref ma6, .ref ma7, .int (nI c), .int cut])), (ma2, .inl (cI, 80, .inl fm2)), (ma3, .inl (cI, 80, .inl fm3)), (w, .inr (7, [.ref tl, .ref wa1, .ref wa2, .ref wa3, .ref wa4, .int vw, .int sc])), (tl, .inr (5, [.ref ta, .int (nI kt)])), (ta, .inl (cB, 600, .inl ft))]) [0, 1, 2, 3, 4, 5, 6, 7, 8] (by decide) rfl
                  rw [← hQ]
                  exact W.iret (v := (-1)) hx hb hr (fun t ht hW => ⟨⟨(-1), (), rfl, trivial, ⟨by rw [ht]; exact hP9, va_K.moved hW.alike hK, hD9⟩⟩, hS.F ht⟩) hS.2.2 dX2_ownerOfShorter_74
  exact loop_1 _ 0 (-1) (by first | assumption | exact Or.inl rfl | exact Or.inr rfl | omega) (Nat.lt_succ_self _) s.heap _ ls (hP.sub (ws' := [(h0, .inr (2, [.ref mn, .ref na1, .ref na2, .int (nI e0)])), (na1, .inl (cI, 80, .inl fn1)), (na2, .inl (cI, 80, .inl fn2)), (mn, .inr (1, [.ref w, .ref ma1, .ref ma2, .ref ma3, .ref ma4, .ref ma5, .ref ma6, .ref ma7, .int (nI c), .int cut])), (ma2, .inl (cI, 80, .inl fm2)), (ma3, .inl (cI, 80, .inl fm3)), (w, .inr (7, [.ref tl, .ref wa1, .ref wa2, .ref wa3, .ref wa4, .int vw, .int sc])), (tl, .inr (5, [.ref ta, .int (nI kt)])), (ta, .inl (cB, 600, .inl ft))]) [0, 1, 2, 3, 4, 5, 6, 7, 8] rfl) (hD.sub (ws' := [(h0, .inr (2, [.ref mn, .ref na1, .ref na2, .int (nI e0)])), (na1, .inl (cI, 80, .inl fn1)), (na2, .inl (cI, 80, .inl fn2)), (mn, .inr (1, [.ref w, .ref ma1, .ref ma2, .ref ma3, .ref ma4, .ref ma5, .ref ma6, .ref ma7, .int (nI c), .int cut])), (ma2, .inl (cI, 80, .inl fm2)), (ma3, .inl (cI, 80, .inl fm3)), (w, .inr (7, [.ref tl, .ref wa1, .ref wa2, .ref wa3, .ref wa4, .int vw, .int sc])), (tl, .inr (5, [.ref ta, .int (nI kt)])), (ta, .inl (cB, 600, .inl ft))]) [0, 1, 2, 3, 4, 5, 6, 7, 8] (by decide) rfl) hS (lv_sub hl [2, 3, 1, 0] rfl)
set_option maxHeartbeats 4000000 in
set_option maxRecDepth 100000 in
theorem s_X2_moveToEnd (l : Launch) (D : va_G) (cB cI cZ : ClassId) (E : pEt) (sz : Nat) (h0 : Nat) (x : Int32) (mn : Nat) (na1 : Nat) (na2 : Nat) (e0 : Nat) (fn1 : Nat → Int32) (fn2 : Nat → Int32) (he : e0 ≤ 80) : Met l yX2_moveToEnd (.code yX2_moveToEnd cX2_moveToEnd 3 none :: wsL_law) ({ frames := 1, cells := 0, slots := 0, locals := 60 } : Room) (va_Pc [.ref h0, .int x] (pInE E D (pT cB cI cZ) sz [(h0, .inr (2, [.ref mn, .ref na1, .ref na2, .int (nI e0)])), (na1, .inl (cI, 80, .inl fn1)), (na2, .inl (cI, 80, .inl fn2))])) (va_Qv (fun (u : (Nat → Int32) × (Nat → Int32)) => True) (fun (u : (Nat → Int32) × (Nat → Int32)) (t : State) => pAt D (pT cB cI cZ) (va_A [(h0, .inr (2, [.ref mn, .ref na1, .ref na2, .int (nI e0)])), (na1, .inl (cI, 80, .inl fn1)), (na2, .inl (cI, 80, .inl fn2))] sz) [(h0, .inr (2, [.ref mn, .ref na1, .ref na2, .int (nI e0)])), (na1, .inl (cI, 80, .inl u.1)), (na2, .inl (cI, 80, .inl u.2))] t) (va_A [(h0, .inr (2, [.ref mn, .ref na1, .ref na2, .int (nI e0)])), (na1, .inl (cI, 80, .inl fn1)), (na2, .inl (cI, 80, .inl fn2))] sz)) 0 0 (va_A [(h0, .inr (2, [.ref mn, .ref na1, .ref na2, .int (nI e0)])), (na1, .inl (cI, 80, .inl fn1)), (na2, .inl (cI, 80, .inl fn2))] sz) := by
  refine Met.ofW (cc := cX2_moveToEnd) (maxL := 3) (ret := none) (by decide) rfl ?_
  intro p e s m args below meth cd s₁ B hml hv
  obtain ⟨rfl, hsz, hP, hK, hD0, hE⟩ := hv
  have hx := B.exec
  have hb := B.bytes
  have hr := B.returns
  have hts0 := atoms_spec (ws := .code yX2_moveToEnd cX2_moveToEnd 3 none :: wsL_law) B.pre
  have hts := fun (w : Cond) (h : w ∈ wsL_law) => hts0 w (List.mem_cons_of_mem _ h)
  have hown : s.vm.findClass RX2 = some m.cls := findClass_of_methodNamed B.named
  have hlocks := B.notSynchronized
  have hinX2 := inlX2
  subst hsz
  have hD := hD0.self (sz := s.heap.size)
  generalize hAe : va_A [(h0, .inr (2, [.ref mn, .ref na1, .ref na2, .int (nI e0)])), (na1, .inl (cI, 80, .inl fn1)), (na2, .inl (cI, 80, .inl fn2))] s.heap.size = A at hD hE ⊢
  have hA : ∀ q : Nat, s.heap.size ≤ q → A q := fun q h => by rw [← hAe]; exact Or.inr h
  have hS : va_S A s.heap s.heap [] := va_S.rf
  have hP : va_P D vwCl [(h0, .inr (2, [.ref mn, .ref na1, .ref na2, .int (nI e0)])), (na1, .inl (cI, 80, .inl fn1)), (na2, .inl (cI, 80, .inl fn2))] s.heap := hP
  have hl := lv_entry ([.ref h0, .int x]) (n := 3) (Nat.le_of_ble_eq_true rfl)
  rw [lg_entry_eq]
  generalize (lg_sl ([.ref h0, .int x]) ++ List.replicate (3 - (lg_sl ([.ref h0, .int x])).length) Slot.unset).toArray = ls at hl ⊢
  have hl : lv_has ls 3 [(0, .ref h0), (1, .int x)] := hl
  refine lv_iload_n hx hb dX2_moveToEnd_0 rfl (lv_at hl 1 rfl) ?_
  refine lv_if_lt (tgt := 12) hx hb dX2_moveToEnd_1 (by decide) (fun c_1 => ?_) (fun c_1 => ?_)
  · have hP9 := hP.sub (ws' := [(h0, .inr (2, [.ref mn, .ref na1, .ref na2, .int (nI e0)])), (na1, .inl (cI, 80, .inl fn1)), (na2, .inl (cI, 80, .inl fn2))]) [0, 1, 2] rfl
    have hD9 := hD.sub (ws' := [(h0, .inr (2, [.ref mn, .ref na1, .ref na2, .int (nI e0)])), (na1, .inl (cI, 80, .inl fn1)), (na2, .inl (cI, 80, .inl fn2))]) [0, 1, 2] (by decide) rfl
    exact W.vret hx hb hr (fun t ht hW => ⟨⟨(fn1, fn2), rfl, trivial, ⟨by rw [ht]; exact hP9, va_K.moved hW.alike hK, hD9⟩⟩, hS.F ht⟩) hS.2.2 dX2_moveToEnd_12
  · obtain ⟨X, hX, rfl⟩ := nI_of c_1
    refine lv_iload_n hx hb dX2_moveToEnd_4 rfl (lv_at hl 1 rfl) ?_
    refine lv_aload_n hx hb dX2_moveToEnd_5 rfl (lv_at hl 0 rfl) ?_
    refine va_get (D := D) (ci := 2) (v := .int (nI e0)) (C := RX2) (T := TX2) (N := 4) hx hb hts hinX2 hown hK hP 0 rfl rfl 3 (by decide) (hts (.fieldLink RX2 22 "TaleReader$Names" "count" "I") (uc6 _ (List.mem_of_getElem? (i := 0) rfl))) (fun _ h9 => h9) rfl dX2_moveToEnd_6 ?_
    refine lv_icmp_lt (tgt := 13) hx hb dX2_moveToEnd_9 (by decide) (fun c_2 => ?_) (fun c_2 => ?_)
    · have hXe : X < e0 := Nat.lt_of_not_le (fun q => nI_nlt q (by omega) c_2)
      refine lv_aload_n hx hb dX2_moveToEnd_13 rfl (lv_at hl 0 rfl) ?_
      refine va_get (D := D) (ci := 2) (v := .ref na1) (C := RX2) (T := TX2) (N := 4) hx hb hts hinX2 hown hK hP 0 rfl rfl 1 (by decide) (hts (.fieldLink RX2 15 "TaleReader$Names" "firstMentions" "[I") (uc5 _ (List.mem_of_getElem? (i := 22) rfl))) (fun _ h9 => h9) rfl dX2_moveToEnd_14 ?_
      refine lv_iload_n hx hb dX2_moveToEnd_17 rfl (lv_at hl 1 rfl) ?_
      refine va_iald (D := D) hx hb hK hP 1 1 rfl rfl (vp_in_nI (by omega) (by omega)) dX2_moveToEnd_18 ?_
      refine lv_topi (fun v_3 ev_3 => ?_)
      refine lv_istore_n (lv' := [(2, .int v_3), (0, .ref h0), (1, .int (nI X))]) hx hb dX2_moveToEnd_19 rfl hl (by decide) rfl (fun ls hl => ?_)
      refine lv_aload_n hx hb dX2_moveToEnd_20 rfl (lv_at hl 1 rfl) ?_
      refine va_get (D := D) (ci := 2) (v := .ref na1) (C := RX2) (T := TX2) (N := 4) hx hb hts hinX2 hown hK hP 0 rfl rfl 1 (by decide) (hts (.fieldLink RX2 15 "TaleReader$Names" "firstMentions" "[I") (uc5 _ (List.mem_of_getElem? (i := 22) rfl))) (fun _ h9 => h9) rfl dX2_moveToEnd_21 ?_
      refine lv_iload_n hx hb dX2_moveToEnd_24 rfl (lv_at hl 2 rfl) ?_
      refine lv_iconst (v := 1) hx hb dX2_moveToEnd_25 (by decide) ?_
      refine lv_iadd hx hb dX2_moveToEnd_26 ?_
      refine lv_topi (fun z_4 ez_4 => ?_)
      obtain rfl : z_4 = nI (X + 1) := ez_4.trans (nI_add X 1)
      refine lv_aload_n hx hb dX2_moveToEnd_27 rfl (lv_at hl 1 rfl) ?_
      refine va_get (D := D) (ci := 2) (v := .ref na1) (C := RX2) (T := TX2) (N := 4) hx hb hts hinX2 hown hK hP 0 rfl rfl 1 (by decide) (hts (.fieldLink RX2 15 "TaleReader$Names" "firstMentions" "[I") (uc5 _ (List.mem_of_getElem? (i := 22) rfl))) (fun _ h9 => h9) rfl dX2_moveToEnd_28 ?_
      refine lv_iload_n hx hb dX2_moveToEnd_31 rfl (lv_at hl 2 rfl) ?_
      refine lv_aload_n hx hb dX2_moveToEnd_32 rfl (lv_at hl 1 rfl) ?_
      refine va_get (D := D) (ci := 2) (v := .int (nI e0)) (C := RX2) (T := TX2) (N := 4) hx hb hts hinX2 hown hK hP 0 rfl rfl 3 (by decide) (hts (.fieldLink RX2 22 "TaleReader$Names" "count" "I") (uc6 _ (List.mem_of_getElem? (i := 0) rfl))) (fun _ h9 => h9) rfl dX2_moveToEnd_33 ?_
      refine lv_iconst (v := 1) hx hb dX2_moveToEnd_36 (by decide) ?_
      refine lv_isub hx hb dX2_moveToEnd_37 ?_
      refine lv_topi (fun z_5 ez_5 => ?_)
      obtain rfl : z_5 = nI (e0 - 1) := ez_5.trans (pk_sub (b := 1) (by omega))
      refine lv_iload_n hx hb dX2_moveToEnd_38 rfl (lv_at hl 2 rfl) ?_
      refine lv_isub hx hb dX2_moveToEnd_39 ?_
      refine lv_topi (fun z_6 ez_6 => ?_)
      obtain rfl : z_6 = nI (e0 - 1 - X) := ez_6.trans (pk_sub (by omega))
      refine va_copyi hx hb (by rw [hml]; exact hl.1.symm) hown (hts (.methodLink RX2 43 arraycopyName) (uc24 _ (List.mem_of_getElem? (i := 6) rfl))) (hts (.native arraycopyName) (uc24 _ (List.mem_of_getElem? (i := 7) rfl))) (hts (.static arraycopyName) (uc24 _ (List.mem_of_getElem? (i := 8) rfl))) (hts (.initialized "java/lang/System") (uc24 _ (List.mem_of_getElem? (i := 9) rfl))) hK hP hD hS 1 1 1 1 rfl rfl rfl rfl rfl (nI_pos (by omega)) (nI_pos (by omega)) (nI_pos (by omega)) (by rw [nI_clamp (by omega), nI_clamp (by omega)]; omega) (by rw [nI_clamp (by omega), nI_clamp (by omega)]; omega) (fun _ _ => rfl) (Nat.le_of_ble_eq_true rfl) (Nat.le_of_ble_eq_true rfl) dX2_moveToEnd_40 (fun H_7 L_8 hP hD hS => ?_)
      obtain ⟨g_9, eg_9⟩ : ∃ gg : Nat → Int32, gg = va_cpy fn1 fn1 ((nI (X + 1))).toNatClampNeg ((nI X)).toNatClampNeg ((nI (e0 - 1 - X))).toNatClampNeg := ⟨_, rfl⟩
      have hP : va_P D vwCl [(h0, .inr (2, [.ref mn, .ref na1, .ref na2, .int (nI e0)])), (na1, .inl (cI, 80, .inl g_9)), (na2, .inl (cI, 80, .inl fn2))] H_7 := by rw [eg_9]; exact hP
      have hD : va_D A [(h0, .inr (2, [.ref mn, .ref na1, .ref na2, .int (nI e0)])), (na1, .inl (cI, 80, .inl g_9)), (na2, .inl (cI, 80, .inl fn2))] := by rw [eg_9]; exact hD
      refine lv_aload_n hx hb dX2_moveToEnd_43 rfl (lv_at hl 1 rfl) ?_
      refine va_get (D := D) (ci := 2) (v := .ref na2) (C := RX2) (T := TX2) (N := 4) hx hb hts hinX2 hown hK hP 0 rfl rfl 2 (by decide) (hts (.fieldLink RX2 19 "TaleReader$Names" "owners" "[I") (uc5 _ (List.mem_of_getElem? (i := 23) rfl))) (fun _ h9 => h9) rfl dX2_moveToEnd_44 ?_
      refine lv_iload_n hx hb dX2_moveToEnd_47 rfl (lv_at hl 2 rfl) ?_
      refine lv_iconst (v := 1) hx hb dX2_moveToEnd_48 (by decide) ?_
      refine lv_iadd hx hb dX2_moveToEnd_49 ?_
      refine lv_topi (fun z_10 ez_10 => ?_)
      obtain rfl : z_10 = nI (X + 1) := ez_10.trans (nI_add X 1)
      refine lv_aload_n hx hb dX2_moveToEnd_50 rfl (lv_at hl 1 rfl) ?_
      refine va_get (D := D) (ci := 2) (v := .ref na2) (C := RX2) (T := TX2) (N := 4) hx hb hts hinX2 hown hK hP 0 rfl rfl 2 (by decide) (hts (.fieldLink RX2 19 "TaleReader$Names" "owners" "[I") (uc5 _ (List.mem_of_getElem? (i := 23) rfl))) (fun _ h9 => h9) rfl dX2_moveToEnd_51 ?_
      refine lv_iload_n hx hb dX2_moveToEnd_54 rfl (lv_at hl 2 rfl) ?_
      refine lv_aload_n hx hb dX2_moveToEnd_55 rfl (lv_at hl 1 rfl) ?_
      refine va_get (D := D) (ci := 2) (v := .int (nI e0)) (C := RX2) (T := TX2) (N := 4) hx hb hts hinX2 hown hK hP 0 rfl rfl 3 (by decide) (hts (.fieldLink RX2 22 "TaleReader$Names" "count" "I") (uc6 _ (List.mem_of_getElem? (i := 0) rfl))) (fun _ h9 => h9) rfl dX2_moveToEnd_56 ?_
      refine lv_iconst (v := 1) hx hb dX2_moveToEnd_59 (by decide) ?_
      refine lv_isub hx hb dX2_moveToEnd_60 ?_
      refine lv_topi (fun z_11 ez_11 => ?_)
      obtain rfl : z_11 = nI (e0 - 1) := ez_11.trans (pk_sub (b := 1) (by omega))
      refine lv_iload_n hx hb dX2_moveToEnd_61 rfl (lv_at hl 2 rfl) ?_
      refine lv_isub hx hb dX2_moveToEnd_62 ?_
      refine lv_topi (fun z_12 ez_12 => ?_)
      obtain rfl : z_12 = nI (e0 - 1 - X) := ez_12.trans (pk_sub (by omega))
      refine va_copyi hx hb (by rw [hml]; exact hl.1.symm) hown (hts (.methodLink RX2 43 arraycopyName) (uc24 _ (List.mem_of_getElem? (i := 6) rfl))) (hts (.native arraycopyName) (uc24 _ (List.mem_of_getElem? (i := 7) rfl))) (hts (.static arraycopyName) (uc24 _ (List.mem_of_getElem? (i := 8) rfl))) (hts (.initialized "java/lang/System") (uc24 _ (List.mem_of_getElem? (i := 9) rfl))) hK hP hD hS 2 2 1 1 rfl rfl rfl rfl rfl (nI_pos (by omega)) (nI_pos (by omega)) (nI_pos (by omega)) (by rw [nI_clamp (by omega), nI_clamp (by omega)]; omega) (by rw [nI_clamp (by omega), nI_clamp (by omega)]; omega) (fun _ _ => rfl) (Nat.le_of_ble_eq_true rfl) (Nat.le_of_ble_eq_true rfl) dX2_moveToEnd_63 (fun H_13 L_14 hP hD hS => ?_)
      obtain ⟨g_15, eg_15⟩ : ∃ gg : Nat → Int32, gg = va_cpy fn2 fn2 ((nI (X + 1))).toNatClampNeg ((nI X)).toNatClampNeg ((nI (e0 - 1 - X))).toNatClampNeg := ⟨_, rfl⟩
      have hP : va_P D vwCl [(h0, .inr (2, [.ref mn, .ref na1, .ref na2, .int (nI e0)])), (na1, .inl (cI, 80, .inl g_9)), (na2, .inl (cI, 80, .inl g_15))] H_13 := by rw [eg_15]; exact hP
      have hD : va_D A [(h0, .inr (2, [.ref mn, .ref na1, .ref na2, .int (nI e0)])), (na1, .inl (cI, 80, .inl g_9)), (na2, .inl (cI, 80, .inl g_15))] := by rw [eg_15]; exact hD
      refine lv_aload_n hx hb dX2_moveToEnd_66 rfl (lv_at hl 1 rfl) ?_
      refine va_get (D := D) (ci := 2) (v := .ref na1) (C := RX2) (T := TX2) (N := 4) hx hb hts hinX2 hown hK hP 0 rfl rfl 1 (by decide) (hts (.fieldLink RX2 15 "TaleReader$Names" "firstMentions" "[I") (uc5 _ (List.mem_of_getElem? (i := 22) rfl))) (fun _ h9 => h9) rfl dX2_moveToEnd_67 ?_
      refine lv_aload_n hx hb dX2_moveToEnd_70 rfl (lv_at hl 1 rfl) ?_
      refine va_get (D := D) (ci := 2) (v := .int (nI e0)) (C := RX2) (T := TX2) (N := 4) hx hb hts hinX2 hown hK hP 0 rfl rfl 3 (by decide) (hts (.fieldLink RX2 22 "TaleReader$Names" "count" "I") (uc6 _ (List.mem_of_getElem? (i := 0) rfl))) (fun _ h9 => h9) rfl dX2_moveToEnd_71 ?_
      refine lv_iconst (v := 1) hx hb dX2_moveToEnd_74 (by decide) ?_
      refine lv_isub hx hb dX2_moveToEnd_75 ?_
      refine lv_topi (fun z_16 ez_16 => ?_)
      obtain rfl : z_16 = nI (e0 - 1) := ez_16.trans (pk_sub (b := 1) (by omega))
      refine lv_iload_n hx hb dX2_moveToEnd_76 rfl (lv_at hl 0 rfl) ?_
      refine va_iast (D := D) hx hb hK hP hD hS 1 1 rfl rfl (vp_in_nI (by omega) (by omega)) dX2_moveToEnd_77 (fun H_17 L_18 hP hD hS => ?_)
      obtain ⟨g_19, eg_19⟩ : ∃ gg : Nat → Int32, gg = upd g_9 ((nI (e0 - 1))).toNatClampNeg v_3 := ⟨_, rfl⟩
      have hP : va_P D vwCl [(h0, .inr (2, [.ref mn, .ref na1, .ref na2, .int (nI e0)])), (na1, .inl (cI, 80, .inl g_19)), (na2, .inl (cI, 80, .inl g_15))] H_17 := by rw [eg_19]; exact hP
      have hD : va_D A [(h0, .inr (2, [.ref mn, .ref na1, .ref na2, .int (nI e0)])), (na1, .inl (cI, 80, .inl g_19)), (na2, .inl (cI, 80, .inl g_15))] := by rw [eg_19]; exact hD
      have hP9 := hP.sub (ws' := [(h0, .inr (2, [.ref mn, .ref na1, .ref na2, .int (nI e0)])), (na1, .inl (cI, 80, .inl g_19)), (na2, .inl (cI, 80, .inl g_15))]) [0, 1, 2] rfl
      have hD9 := hD.sub (ws' := [(h0, .inr (2, [.ref mn, .ref na1, .ref na2, .int (nI e0)])), (na1, .inl (cI, 80, .inl g_19)), (na2, .inl (cI, 80, .inl g_15))]) [0, 1, 2] (by decide) rfl
      exact W.vret hx hb hr (fun t ht hW => ⟨⟨(g_19, g_15), rfl, trivial, ⟨by rw [ht]; exact hP9, va_K.moved hW.alike hK, hD9⟩⟩, hS.F ht⟩) hS.2.2 dX2_moveToEnd_78
    · have hP9 := hP.sub (ws' := [(h0, .inr (2, [.ref mn, .ref na1, .ref na2, .int (nI e0)])), (na1, .inl (cI, 80, .inl fn1)), (na2, .inl (cI, 80, .inl fn2))]) [0, 1, 2] rfl
      have hD9 := hD.sub (ws' := [(h0, .inr (2, [.ref mn, .ref na1, .ref na2, .int (nI e0)])), (na1, .inl (cI, 80, .inl fn1)), (na2, .inl (cI, 80, .inl fn2))]) [0, 1, 2] (by decide) rfl
      exact W.vret hx hb hr (fun t ht hW => ⟨⟨(fn1, fn2), rfl, trivial, ⟨by rw [ht]; exact hP9, va_K.moved hW.alike hK, hD9⟩⟩, hS.F ht⟩) hS.2.2 dX2_moveToEnd_12
set_option maxHeartbeats 4000000 in
set_option maxRecDepth 100000 in
theorem s_X2_handOver (l : Launch) (D : va_G) (cB cI cZ : ClassId) (E : pEt) (sz : Nat) (h0 : Nat) (x : Int32) (y : Int32) (mn : Nat) (na1 : Nat) (na2 : Nat) (e0 : Nat) (fn1 : Nat → Int32) (fn2 : Nat → Int32) (he : e0 ≤ 80) : Met l yX2_handOver (.code yX2_handOver cX2_handOver 5 none :: wsL_law) ({ frames := 2, cells := 0, slots := 0, locals := 82 } : Room) (va_Pc [.ref h0, .int x, .int y] (pInE E D (pT cB cI cZ) sz [(h0, .inr (2, [.ref mn, .ref na1, .ref na2, .int (nI e0)])), (na1, .inl (cI, 80, .inl fn1)), (na2, .inl (cI, 80, .inl fn2))])) (va_Qv (fun (u : (Nat → Int32) × (Nat → Int32)) => True) (fun (u : (Nat → Int32) × (Nat → Int32)) (t : State) => pAt D (pT cB cI cZ) (va_A [(h0, .inr (2, [.ref mn, .ref na1, .ref na2, .int (nI e0)])), (na1, .inl (cI, 80, .inl fn1)), (na2, .inl (cI, 80, .inl fn2))] sz) [(h0, .inr (2, [.ref mn, .ref na1, .ref na2, .int (nI e0)])), (na1, .inl (cI, 80, .inl u.1)), (na2, .inl (cI, 80, .inl u.2))] t) (va_A [(h0, .inr (2, [.ref mn, .ref na1, .ref na2, .int (nI e0)])), (na1, .inl (cI, 80, .inl fn1)), (na2, .inl (cI, 80, .inl fn2))] sz)) 0 0 (va_A [(h0, .inr (2, [.ref mn, .ref na1, .ref na2, .int (nI e0)])), (na1, .inl (cI, 80, .inl fn1)), (na2, .inl (cI, 80, .inl fn2))] sz) := by
  refine Met.ofW (cc := cX2_handOver) (maxL := 5) (ret := none) (by decide) rfl ?_
  intro p e s m args below meth cd s₁ B hml hv
  obtain ⟨rfl, hsz, hP, hK, hD0, hE⟩ := hv
  have hx := B.exec
  have hb := B.bytes
  have hr := B.returns
  have hts0 := atoms_spec (ws := .code yX2_handOver cX2_handOver 5 none :: wsL_law) B.pre
  have hts := fun (w : Cond) (h : w ∈ wsL_law) => hts0 w (List.mem_cons_of_mem _ h)
  have hown : s.vm.findClass RX2 = some m.cls := findClass_of_methodNamed B.named
  have hlocks := B.notSynchronized
  have hinX2 := inlX2
  subst hsz
  have hD := hD0.self (sz := s.heap.size)
  generalize hAe : va_A [(h0, .inr (2, [.ref mn, .ref na1, .ref na2, .int (nI e0)])), (na1, .inl (cI, 80, .inl fn1)), (na2, .inl (cI, 80, .inl fn2))] s.heap.size = A at hD hE ⊢
  have hA : ∀ q : Nat, s.heap.size ≤ q → A q := fun q h => by rw [← hAe]; exact Or.inr h
  have hS : va_S A s.heap s.heap [] := va_S.rf
  have hP : va_P D vwCl [(h0, .inr (2, [.ref mn, .ref na1, .ref na2, .int (nI e0)])), (na1, .inl (cI, 80, .inl fn1)), (na2, .inl (cI, 80, .inl fn2))] s.heap := hP
  have hl := lv_entry ([.ref h0, .int x, .int y]) (n := 5) (Nat.le_of_ble_eq_true rfl)
  rw [lg_entry_eq]
  generalize (lg_sl ([.ref h0, .int x, .int y]) ++ List.replicate (5 - (lg_sl ([.ref h0, .int x, .int y])).length) Slot.unset).toArray = ls at hl ⊢
  have hl : lv_has ls 5 [(0, .ref h0), (1, .int x), (2, .int y)] := hl
  generalize hQ : MQ below _ _ _ _ _ _ = Q
  refine lv_iconst (v := 0) hx hb dX2_handOver_0 (by decide) ?_
  refine lv_istore_n (lv' := [(3, .int 0), (0, .ref h0), (1, .int x), (2, .int y)]) hx hb dX2_handOver_1 rfl hl (by decide) rfl (fun ls hl => ?_)
  refine lv_iconst (v := 0) hx hb dX2_handOver_2 (by decide) ?_
  refine lv_istore (lv' := [(4, .int 0), (3, .int 0), (0, .ref h0), (1, .int x), (2, .int y)]) hx hb dX2_handOver_3 hl (by decide) rfl (fun ls hl => ?_)
  have loop_1 : ∀ (nn_3 : Nat) (i : Nat) (j : Nat) (g1 : Nat → Int32) (g2 : Nat → Int32), (j ≤ i) → (i ≤ 600) → (e0 - i < nn_3) → ∀ (H : Heap) (locs : List Loc) (ls : Array Slot), va_P D vwCl [(h0, .inr (2, [.ref mn, .ref na1, .ref na2, .int (nI e0)])), (na1, .inl (cI, 80, .inl g1)), (na2, .inl (cI, 80, .inl g2))] H → va_D A [(h0, .inr (2, [.ref mn, .ref na1, .ref na2, .int (nI e0)])), (na1, .inl (cI, 80, .inl g1)), (na2, .inl (cI, 80, .inl g2))] → va_S A s.heap H locs → lv_has ls 5 [(0, .ref h0), (1, .int x), (2, .int y), (3, .int (nI j)), (4, .int (nI i))] → W p l e ({ frames := 2, cells := 0, slots := 0, locals := 82 } : Room) s m ([.ref h0, .int x, .int y] : List Value).toArray below meth cd H locs 0 0 Q (F0 m 5 ls []) := by
    intro nn_3
    induction nn_3 with
    | zero => intros; exact absurd ‹_ < 0› (Nat.not_lt_zero _)
    | succ nn_3 ih_2 =>
      intro i j g1 g2 hij hi600 hmu H locs ls hP hD hS hl
      refine lv_iload hx hb dX2_handOver_5 (lv_at hl 4 rfl) ?_
      refine lv_aload_n hx hb dX2_handOver_7 rfl (lv_at hl 0 rfl) ?_
      refine va_get (D := D) (ci := 2) (v := .int (nI e0)) (C := RX2) (T := TX2) (N := 4) hx hb hts hinX2 hown hK hP 0 rfl rfl 3 (by decide) (hts (.fieldLink RX2 22 "TaleReader$Names" "count" "I") (uc6 _ (List.mem_of_getElem? (i := 0) rfl))) (fun _ h9 => h9) rfl dX2_handOver_8 ?_
      refine lv_icmp_ge (tgt := 53) hx hb dX2_handOver_11 (by decide) (fun c_4 => ?_) (fun c_4 => ?_)
      · have hP9 := hP.sub (ws' := [(h0, .inr (2, [.ref mn, .ref na1, .ref na2, .int (nI e0)])), (na1, .inl (cI, 80, .inl g1)), (na2, .inl (cI, 80, .inl g2))]) [0, 1, 2] rfl
        have hD9 := hD.sub (ws' := [(h0, .inr (2, [.ref mn, .ref na1, .ref na2, .int (nI e0)])), (na1, .inl (cI, 80, .inl g1)), (na2, .inl (cI, 80, .inl g2))]) [0, 1, 2] (by decide) rfl
        rw [← hQ]
        exact W.vret hx hb hr (fun t ht hW => ⟨⟨(g1, g2), rfl, trivial, ⟨by rw [ht]; exact hP9, va_K.moved hW.alike hK, hD9⟩⟩, hS.F ht⟩) hS.2.2 dX2_handOver_53
      · have hlt_i : i < e0 := Nat.lt_of_not_le (fun q => c_4 (nI_le q (by omega)))
        refine lv_aload_n hx hb dX2_handOver_14 rfl (lv_at hl 0 rfl) ?_
        refine va_get (D := D) (ci := 2) (v := .ref na2) (C := RX2) (T := TX2) (N := 4) hx hb hts hinX2 hown hK hP 0 rfl rfl 2 (by decide) (hts (.fieldLink RX2 19 "TaleReader$Names" "owners" "[I") (uc5 _ (List.mem_of_getElem? (i := 23) rfl))) (fun _ h9 => h9) rfl dX2_handOver_15 ?_
        refine lv_iload_n hx hb dX2_handOver_18 rfl (lv_at hl 3 rfl) ?_
        refine va_iald (D := D) hx hb hK hP 2 1 rfl rfl (vp_in_nI (by omega) (by omega)) dX2_handOver_19 ?_
        refine lv_topi (fun v_5 ev_5 => ?_)
        refine lv_iload_n hx hb dX2_handOver_20 rfl (lv_at hl 1 rfl) ?_
        refine lv_icmp_ne (tgt := 44) hx hb dX2_handOver_21 (by decide) (fun c_6 => ?_) (fun c_6 => ?_)
        · refine lv_iinc (v := nI (j + 1)) (lv' := [(3, .int (nI (j + 1))), (0, .ref h0), (1, .int x), (2, .int y), (4, .int (nI i))]) hx hb dX2_handOver_44 hl (k := 3) rfl (nI_add j 1) (by decide) rfl (fun ls hl => ?_)
          refine lv_iinc (v := nI (i + 1)) (lv' := [(4, .int (nI (i + 1))), (3, .int (nI (j + 1))), (0, .ref h0), (1, .int x), (2, .int y)]) hx hb dX2_handOver_47 hl (k := 4) rfl (nI_add i 1) (by decide) rfl (fun ls hl => ?_)
          refine lv_goto (tgt := 5) hx hb dX2_handOver_50 (by decide) ?_
          exact ih_2 (i + 1) (j + 1) g1 g2 (by first | assumption | exact Or.inl rfl | exact Or.inr rfl | omega) (by first | assumption | exact Or.inl rfl | exact Or.inr rfl | omega) (by omega) H _ ls (hP.sub (ws' := [(h0, .inr (2, [.ref mn, .ref na1, .ref na2, .int (nI e0)])), (na1, .inl (cI, 80, .inl g1)), (na2, .inl (cI, 80, .inl g2))]) [0, 1, 2] rfl) (hD.sub (ws' := [(h0, .inr (2, [.ref mn, .ref na1, .ref na2, .int (nI e0)])), (na1, .inl (cI, 80, .inl g1)), (na2, .inl (cI, 80, .inl g2))]) [0, 1, 2] (by decide) rfl) hS (lv_sub hl [2, 3, 4, 1, 0] rfl)
        · refine lv_aload_n hx hb dX2_handOver_24 rfl (lv_at hl 0 rfl) ?_
          refine lv_iload_n hx hb dX2_handOver_25 rfl (lv_at hl 3 rfl) ?_
          have hPc := hP.sub (ws' := [(h0, .inr (2, [.ref mn, .ref na1, .ref na2, .int (nI e0)])), (na1, .inl (cI, 80, .inl g1)), (na2, .inl (cI, 80, .inl g2))]) [0, 1, 2] rfl
          have hDc := hD.sub (ws' := [(h0, .inr (2, [.ref mn, .ref na1, .ref na2, .int (nI e0)])), (na1, .inl (cI, 80, .inl g1)), (na2, .inl (cI, 80, .inl g2))]) [0, 1, 2] (by decide) rfl
          have hFc := va_free (wc := [(h0, .inr (2, [.ref mn, .ref na1, .ref na2, .int (nI e0)])), (na1, .inl (cI, 80, .inl g1)), (na2, .inl (cI, 80, .inl g2))]) hD hS hA [0, 1, 2] rfl
          refine va_callv (va_runV (As := [.int (nI j)]) (rest := []) ⟨hx, hb, hml, hown, hts⟩ (s_X2_moveToEnd l D cB cI cZ E H.size h0 (nI j) mn na1 na2 e0 g1 g2 (by first | assumption | omega)) (cwV 1 hts (uV (uc24 _ (List.mem_of_getElem? (i := 2) rfl)) (uc24 _ (List.mem_of_getElem? (i := 3) rfl)) (uc24 _ (List.mem_of_getElem? (i := 4) rfl)) (uc2 _ (List.mem_of_getElem? (i := 14) rfl)) (uc24 _ (List.mem_of_getElem? (i := 5) rfl))) rfl rfl rfl (by decide +kernel) ⟨Nat.le_of_ble_eq_true rfl, Nat.le_of_ble_eq_true rfl⟩) (pVE hE hS hFc hK hPc hDc 0 rfl rfl) rfl rfl hl.1 rfl (lv_room (Nat.le_of_ble_eq_true rfl)) dX2_handOver_26 ⟨Nat.le_of_ble_eq_true rfl, Nat.le_of_ble_eq_true rfl⟩) hS (fun q _ h => hFc q h) hFc (fun u t H_8 L_9 ht hvm hw hB hz1 hk1 hS => ?_)
          obtain ⟨fn1_10, fn2_11⟩ := u
          obtain ⟨hP1, -, hD1⟩ := hB
          rw [ht] at hP1
          obtain ⟨hP, hD⟩ := va_join (wr := []) (w1 := [(h0, .inr (2, [.ref mn, .ref na1, .ref na2, .int (nI e0)])), (na1, .inl (cI, 80, .inl fn1_10)), (na2, .inl (cI, 80, .inl fn2_11))]) hP hD [0, 1, 2] [] rfl rfl (by decide) (by decide) hk1 hFc hP1 hD1
          have hP : va_P D vwCl [(h0, .inr (2, [.ref mn, .ref na1, .ref na2, .int (nI e0)])), (na1, .inl (cI, 80, .inl fn1_10)), (na2, .inl (cI, 80, .inl fn2_11))] H_8 := hP.sub [0, 1, 2] rfl
          have hD : va_D A [(h0, .inr (2, [.ref mn, .ref na1, .ref na2, .int (nI e0)])), (na1, .inl (cI, 80, .inl fn1_10)), (na2, .inl (cI, 80, .inl fn2_11))] := hD.sub [0, 1, 2] (by decide) rfl
          try dsimp only at hw
          refine lv_aload_n hx hb dX2_handOver_29 rfl (lv_at hl 0 rfl) ?_
          refine va_get (D := D) (ci := 2) (v := .ref na2) (C := RX2) (T := TX2) (N := 4) hx hb hts hinX2 hown hK hP 0 rfl rfl 2 (by decide) (hts (.fieldLink RX2 19 "TaleReader$Names" "owners" "[I") (uc5 _ (List.mem_of_getElem? (i := 23) rfl))) (fun _ h9 => h9) rfl dX2_handOver_30 ?_
          refine lv_aload_n hx hb dX2_handOver_33 rfl (lv_at hl 0 rfl) ?_
          refine va_get (D := D) (ci := 2) (v := .int (nI e0)) (C := RX2) (T := TX2) (N := 4) hx hb hts hinX2 hown hK hP 0 rfl rfl 3 (by decide) (hts (.fieldLink RX2 22 "TaleReader$Names" "count" "I") (uc6 _ (List.mem_of_getElem? (i := 0) rfl))) (fun _ h9 => h9) rfl dX2_handOver_34 ?_
          refine lv_iconst (v := 1) hx hb dX2_handOver_37 (by decide) ?_
          refine lv_isub hx hb dX2_handOver_38 ?_
          refine lv_topi (fun z_12 ez_12 => ?_)
          obtain rfl : z_12 = nI (e0 - 1) := ez_12.trans (pk_sub (b := 1) (by omega))
          refine lv_iload_n hx hb dX2_handOver_39 rfl (lv_at hl 2 rfl) ?_
          refine va_iast (D := D) hx hb hK hP hD hS 2 1 rfl rfl (vp_in_nI (by omega) (by omega)) dX2_handOver_40 (fun H_13 L_14 hP hD hS => ?_)
          obtain ⟨g_15, eg_15⟩ : ∃ gg : Nat → Int32, gg = upd fn2_11 ((nI (e0 - 1))).toNatClampNeg y := ⟨_, rfl⟩
          have hP : va_P D vwCl [(h0, .inr (2, [.ref mn, .ref na1, .ref na2, .int (nI e0)])), (na1, .inl (cI, 80, .inl fn1_10)), (na2, .inl (cI, 80, .inl g_15))] H_13 := by rw [eg_15]; exact hP
          have hD : va_D A [(h0, .inr (2, [.ref mn, .ref na1, .ref na2, .int (nI e0)])), (na1, .inl (cI, 80, .inl fn1_10)), (na2, .inl (cI, 80, .inl g_15))] := by rw [eg_15]; exact hD
          refine lv_goto (tgt := 47) hx hb dX2_handOver_41 (by decide) ?_
          refine lv_iinc (v := nI (i + 1)) (lv' := [(4, .int (nI (i + 1))), (0, .ref h0), (1, .int x), (2, .int y), (3, .int (nI j))]) hx hb dX2_handOver_47 hl (k := 4) rfl (nI_add i 1) (by decide) rfl (fun ls hl => ?_)
          refine lv_goto (tgt := 5) hx hb dX2_handOver_50 (by decide) ?_
          exact ih_2 (i + 1) j fn1_10 g_15 (by first | assumption | exact Or.inl rfl | exact Or.inr rfl | omega) (by first | assumption | exact Or.inl rfl | exact Or.inr rfl | omega) (by omega) H_13 _ ls (hP.sub (ws' := [(h0, .inr (2, [.ref mn, .ref na1, .ref na2, .int (nI e0)])), (na1, .inl (cI, 80, .inl fn1_10)), (na2, .inl (cI, 80, .inl g_15))]) [0, 1, 2] rfl) (hD.sub (ws' := [(h0, .inr (2, [.ref mn, .ref na1, .ref na2, .int (nI e0)])), (na1, .inl (cI, 80, .inl fn1_10)), (na2, .inl (cI, 80, .inl g_15))]) [0, 1, 2] (by decide) rfl) hS (lv_sub hl [1, 2, 3, 4, 0] rfl)
  exact loop_1 _ 0 0 fn1 fn2 (by first | assumption | exact Or.inl rfl | exact Or.inr rfl | omega) (by first | assumption | exact Or.inl rfl | exact Or.inr rfl | omega) (Nat.lt_succ_self _) s.heap _ ls (hP.sub (ws' := [(h0, .inr (2, [.ref mn, .ref na1, .ref na2, .int (nI e0)])), (na1, .inl (cI, 80, .inl fn1)), (na2, .inl (cI, 80, .inl fn2))]) [0, 1, 2] rfl) (hD.sub (ws' := [(h0, .inr (2, [.ref mn, .ref na1, .ref na2, .int (nI e0)])), (na1, .inl (cI, 80, .inl fn1)), (na2, .inl (cI, 80, .inl fn2))]) [0, 1, 2] (by decide) rfl) hS (lv_sub hl [2, 3, 4, 1, 0] rfl)
set_option maxHeartbeats 4000000 in
set_option maxRecDepth 100000 in
theorem s_X2_countOf (l : Launch) (D : va_G) (cB cI cZ : ClassId) (E : pEt) (sz : Nat) (h0 : Nat) (x : Int32) (mn : Nat) (na1 : Nat) (na2 : Nat) (e0 : Nat) (fn2 : Nat → Int32) (he : e0 ≤ 80) : Met l yX2_countOf (.code yX2_countOf cX2_countOf 4 (some .int) :: wsL_law) ({ frames := 0, cells := 0, slots := 0, locals := 0 } : Room) (va_Pc [.ref h0, .int x] (pInE E D (pT cB cI cZ) sz [(h0, .inr (2, [.ref mn, .ref na1, .ref na2, .int (nI e0)])), (na2, .inl (cI, 80, .inl fn2))])) (va_Qi (fun (r : Int32) (u : Unit) => True) (fun (u : Unit) (t : State) => pAt D (pT cB cI cZ) (va_A [(h0, .inr (2, [.ref mn, .ref na1, .ref na2, .int (nI e0)])), (na2, .inl (cI, 80, .inl fn2))] sz) [(h0, .inr (2, [.ref mn, .ref na1, .ref na2, .int (nI e0)])), (na2, .inl (cI, 80, .inl fn2))] t) (va_A [(h0, .inr (2, [.ref mn, .ref na1, .ref na2, .int (nI e0)])), (na2, .inl (cI, 80, .inl fn2))] sz)) 0 0 (va_A [(h0, .inr (2, [.ref mn, .ref na1, .ref na2, .int (nI e0)])), (na2, .inl (cI, 80, .inl fn2))] sz) := by
  refine Met.ofW (cc := cX2_countOf) (maxL := 4) (ret := (some .int)) (by decide) rfl ?_
  intro p e s m args below meth cd s₁ B hml hv
  obtain ⟨rfl, hsz, hP, hK, hD0, hE⟩ := hv
  have hx := B.exec
  have hb := B.bytes
  have hr := B.returns
  have hts0 := atoms_spec (ws := .code yX2_countOf cX2_countOf 4 (some .int) :: wsL_law) B.pre
  have hts := fun (w : Cond) (h : w ∈ wsL_law) => hts0 w (List.mem_cons_of_mem _ h)
  have hown : s.vm.findClass RX2 = some m.cls := findClass_of_methodNamed B.named
  have hlocks := B.notSynchronized
  have hinX2 := inlX2
  subst hsz
  have hD := hD0.self (sz := s.heap.size)
  generalize hAe : va_A [(h0, .inr (2, [.ref mn, .ref na1, .ref na2, .int (nI e0)])), (na2, .inl (cI, 80, .inl fn2))] s.heap.size = A at hD hE ⊢
  have hA : ∀ q : Nat, s.heap.size ≤ q → A q := fun q h => by rw [← hAe]; exact Or.inr h
  have hS : va_S A s.heap s.heap [] := va_S.rf
  have hP : va_P D vwCl [(h0, .inr (2, [.ref mn, .ref na1, .ref na2, .int (nI e0)])), (na2, .inl (cI, 80, .inl fn2))] s.heap := hP
  have hl := lv_entry ([.ref h0, .int x]) (n := 4) (Nat.le_of_ble_eq_true rfl)
  rw [lg_entry_eq]
  generalize (lg_sl ([.ref h0, .int x]) ++ List.replicate (4 - (lg_sl ([.ref h0, .int x])).length) Slot.unset).toArray = ls at hl ⊢
  have hl : lv_has ls 4 [(0, .ref h0), (1, .int x)] := hl
  generalize hQ : MQ below _ _ _ _ _ _ = Q
  refine lv_iconst (v := 0) hx hb dX2_countOf_0 (by decide) ?_
  refine lv_istore_n (lv' := [(2, .int 0), (0, .ref h0), (1, .int x)]) hx hb dX2_countOf_1 rfl hl (by decide) rfl (fun ls hl => ?_)
  refine lv_iconst (v := 0) hx hb dX2_countOf_2 (by decide) ?_
  refine lv_istore_n (lv' := [(3, .int 0), (2, .int 0), (0, .ref h0), (1, .int x)]) hx hb dX2_countOf_3 rfl hl (by decide) rfl (fun ls hl => ?_)
  have loop_1 : ∀ (nn_3 : Nat) (i : Nat) (y : Int32), (i ≤ 600) → (e0 - i < nn_3) → ∀ (H : Heap) (locs : List Loc) (ls : Array Slot), va_P D vwCl [(h0, .inr (2, [.ref mn, .ref na1, .ref na2, .int (nI e0)])), (na2, .inl (cI, 80, .inl fn2))] H → va_D A [(h0, .inr (2, [.ref mn, .ref na1, .ref na2, .int (nI e0)])), (na2, .inl (cI, 80, .inl fn2))] → va_S A s.heap H locs → lv_has ls 4 [(0, .ref h0), (1, .int x), (2, .int y), (3, .int (nI i))] → W p l e ({ frames := 0, cells := 0, slots := 0, locals := 0 } : Room) s m ([.ref h0, .int x] : List Value).toArray below meth cd H locs 0 0 Q (F0 m 4 ls []) := by
    intro nn_3
    induction nn_3 with
    | zero => intros; exact absurd ‹_ < 0› (Nat.not_lt_zero _)
    | succ nn_3 ih_2 =>
      intro i y hi600 hmu H locs ls hP hD hS hl
      refine lv_iload_n hx hb dX2_countOf_4 rfl (lv_at hl 3 rfl) ?_
      refine lv_aload_n hx hb dX2_countOf_5 rfl (lv_at hl 0 rfl) ?_
      refine va_get (D := D) (ci := 2) (v := .int (nI e0)) (C := RX2) (T := TX2) (N := 4) hx hb hts hinX2 hown hK hP 0 rfl rfl 3 (by decide) (hts (.fieldLink RX2 22 "TaleReader$Names" "count" "I") (uc6 _ (List.mem_of_getElem? (i := 0) rfl))) (fun _ h9 => h9) rfl dX2_countOf_6 ?_
      refine lv_icmp_ge (tgt := 31) hx hb dX2_countOf_9 (by decide) (fun c_4 => ?_) (fun c_4 => ?_)
      · refine lv_iload_n hx hb dX2_countOf_31 rfl (lv_at hl 2 rfl) ?_
        have hP9 := hP.sub (ws' := [(h0, .inr (2, [.ref mn, .ref na1, .ref na2, .int (nI e0)])), (na2, .inl (cI, 80, .inl fn2))]) [0, 1] rfl
        have hD9 := hD.sub (ws' := [(h0, .inr (2, [.ref mn, .ref na1, .ref na2, .int (nI e0)])), (na2, .inl (cI, 80, .inl fn2))]) [0, 1] (by decide) rfl
        rw [← hQ]
        exact W.iret (v := y) hx hb hr (fun t ht hW => ⟨⟨y, (), rfl, trivial, ⟨by rw [ht]; exact hP9, va_K.moved hW.alike hK, hD9⟩⟩, hS.F ht⟩) hS.2.2 dX2_countOf_32
      · have hlt_i : i < e0 := Nat.lt_of_not_le (fun q => c_4 (nI_le q (by omega)))
        refine lv_aload_n hx hb dX2_countOf_12 rfl (lv_at hl 0 rfl) ?_
        refine va_get (D := D) (ci := 2) (v := .ref na2) (C := RX2) (T := TX2) (N := 4) hx hb hts hinX2 hown hK hP 0 rfl rfl 2 (by decide) (hts (.fieldLink RX2 19 "TaleReader$Names" "owners" "[I") (uc5 _ (List.mem_of_getElem? (i := 23) rfl))) (fun _ h9 => h9) rfl dX2_countOf_13 ?_
        refine lv_iload_n hx hb dX2_countOf_16 rfl (lv_at hl 3 rfl) ?_
        refine va_iald (D := D) hx hb hK hP 1 1 rfl rfl (vp_in_nI (by omega) (by omega)) dX2_countOf_17 ?_
        refine lv_topi (fun v_5 ev_5 => ?_)
        refine lv_iload_n hx hb dX2_countOf_18 rfl (lv_at hl 1 rfl) ?_
        refine lv_icmp_ne (tgt := 25) hx hb dX2_countOf_19 (by decide) (fun c_6 => ?_) (fun c_6 => ?_)
        · refine lv_iinc (v := nI (i + 1)) (lv' := [(3, .int (nI (i + 1))), (0, .ref h0), (1, .int x), (2, .int y)]) hx hb dX2_countOf_25 hl (k := 3) rfl (nI_add i 1) (by decide) rfl (fun ls hl => ?_)
          refine lv_goto (tgt := 4) hx hb dX2_countOf_28 (by decide) ?_
          exact ih_2 (i + 1) y (by first | assumption | exact Or.inl rfl | exact Or.inr rfl | omega) (by omega) H _ ls (hP.sub (ws' := [(h0, .inr (2, [.ref mn, .ref na1, .ref na2, .int (nI e0)])), (na2, .inl (cI, 80, .inl fn2))]) [0, 1] rfl) (hD.sub (ws' := [(h0, .inr (2, [.ref mn, .ref na1, .ref na2, .int (nI e0)])), (na2, .inl (cI, 80, .inl fn2))]) [0, 1] (by decide) rfl) hS (lv_sub hl [1, 2, 3, 0] rfl)
        · refine lv_iinc (v := y + 1) (lv' := [(2, .int (y + 1)), (0, .ref h0), (1, .int x), (3, .int (nI i))]) hx hb dX2_countOf_22 hl (k := 2) rfl (rfl) (by decide) rfl (fun ls hl => ?_)
          refine lv_iinc (v := nI (i + 1)) (lv' := [(3, .int (nI (i + 1))), (2, .int (y + 1)), (0, .ref h0), (1, .int x)]) hx hb dX2_countOf_25 hl (k := 3) rfl (nI_add i 1) (by decide) rfl (fun ls hl => ?_)
          refine lv_goto (tgt := 4) hx hb dX2_countOf_28 (by decide) ?_
          exact ih_2 (i + 1) (y + 1) (by first | assumption | exact Or.inl rfl | exact Or.inr rfl | omega) (by omega) H _ ls (hP.sub (ws' := [(h0, .inr (2, [.ref mn, .ref na1, .ref na2, .int (nI e0)])), (na2, .inl (cI, 80, .inl fn2))]) [0, 1] rfl) (hD.sub (ws' := [(h0, .inr (2, [.ref mn, .ref na1, .ref na2, .int (nI e0)])), (na2, .inl (cI, 80, .inl fn2))]) [0, 1] (by decide) rfl) hS (lv_sub hl [2, 3, 1, 0] rfl)
  exact loop_1 _ 0 0 (by first | assumption | exact Or.inl rfl | exact Or.inr rfl | omega) (Nat.lt_succ_self _) s.heap _ ls (hP.sub (ws' := [(h0, .inr (2, [.ref mn, .ref na1, .ref na2, .int (nI e0)])), (na2, .inl (cI, 80, .inl fn2))]) [0, 1] rfl) (hD.sub (ws' := [(h0, .inr (2, [.ref mn, .ref na1, .ref na2, .int (nI e0)])), (na2, .inl (cI, 80, .inl fn2))]) [0, 1] (by decide) rfl) hS (lv_sub hl [2, 3, 1, 0] rfl)
set_option maxHeartbeats 4000000 in
set_option maxRecDepth 100000 in
theorem s_X2_firstMentionOf (l : Launch) (D : va_G) (cB cI cZ : ClassId) (E : pEt) (sz : Nat) (h0 : Nat) (x : Int32) (y : Int32) (mn : Nat) (na1 : Nat) (na2 : Nat) (e0 : Nat) (fn1 : Nat → Int32) (fn2 : Nat → Int32) (he : e0 ≤ 80) : Met l yX2_firstMentionOf (.code yX2_firstMentionOf cX2_firstMentionOf 5 (some .int) :: wsL_law) ({ frames := 0, cells := 0, slots := 0, locals := 0 } : Room) (va_Pc [.ref h0, .int x, .int y] (pInE E D (pT cB cI cZ) sz [(h0, .inr (2, [.ref mn, .ref na1, .ref na2, .int (nI e0)])), (na1, .inl (cI, 80, .inl fn1)), (na2, .inl (cI, 80, .inl fn2))])) (va_Qi (fun (r : Int32) (u : Unit) => True) (fun (u : Unit) (t : State) => pAt D (pT cB cI cZ) (va_A [(h0, .inr (2, [.ref mn, .ref na1, .ref na2, .int (nI e0)])), (na1, .inl (cI, 80, .inl fn1)), (na2, .inl (cI, 80, .inl fn2))] sz) [(h0, .inr (2, [.ref mn, .ref na1, .ref na2, .int (nI e0)])), (na1, .inl (cI, 80, .inl fn1)), (na2, .inl (cI, 80, .inl fn2))] t) (va_A [(h0, .inr (2, [.ref mn, .ref na1, .ref na2, .int (nI e0)])), (na1, .inl (cI, 80, .inl fn1)), (na2, .inl (cI, 80, .inl fn2))] sz)) 0 0 (va_A [(h0, .inr (2, [.ref mn, .ref na1, .ref na2, .int (nI e0)])), (na1, .inl (cI, 80, .inl fn1)), (na2, .inl (cI, 80, .inl fn2))] sz) := by
  refine Met.ofW (cc := cX2_firstMentionOf) (maxL := 5) (ret := (some .int)) (by decide) rfl ?_
  intro p e s m args below meth cd s₁ B hml hv
  obtain ⟨rfl, hsz, hP, hK, hD0, hE⟩ := hv
  have hx := B.exec
  have hb := B.bytes
  have hr := B.returns
  have hts0 := atoms_spec (ws := .code yX2_firstMentionOf cX2_firstMentionOf 5 (some .int) :: wsL_law) B.pre
  have hts := fun (w : Cond) (h : w ∈ wsL_law) => hts0 w (List.mem_cons_of_mem _ h)
  have hown : s.vm.findClass RX2 = some m.cls := findClass_of_methodNamed B.named
  have hlocks := B.notSynchronized
  have hinX2 := inlX2
  subst hsz
  have hD := hD0.self (sz := s.heap.size)
  generalize hAe : va_A [(h0, .inr (2, [.ref mn, .ref na1, .ref na2, .int (nI e0)])), (na1, .inl (cI, 80, .inl fn1)), (na2, .inl (cI, 80, .inl fn2))] s.heap.size = A at hD hE ⊢
  have hA : ∀ q : Nat, s.heap.size ≤ q → A q := fun q h => by rw [← hAe]; exact Or.inr h
  have hS : va_S A s.heap s.heap [] := va_S.rf
  have hP : va_P D vwCl [(h0, .inr (2, [.ref mn, .ref na1, .ref na2, .int (nI e0)])), (na1, .inl (cI, 80, .inl fn1)), (na2, .inl (cI, 80, .inl fn2))] s.heap := hP
  have hl := lv_entry ([.ref h0, .int x, .int y]) (n := 5) (Nat.le_of_ble_eq_true rfl)
  rw [lg_entry_eq]
  generalize (lg_sl ([.ref h0, .int x, .int y]) ++ List.replicate (5 - (lg_sl ([.ref h0, .int x, .int y])).length) Slot.unset).toArray = ls at hl ⊢
  have hl : lv_has ls 5 [(0, .ref h0), (1, .int x), (2, .int y)] := hl
  generalize hQ : MQ below _ _ _ _ _ _ = Q
  refine lv_iconst (v := 0) hx hb dX2_firstMentionOf_0 (by decide) ?_
  refine lv_istore_n (lv' := [(3, .int 0), (0, .ref h0), (1, .int x), (2, .int y)]) hx hb dX2_firstMentionOf_1 rfl hl (by decide) rfl (fun ls hl => ?_)
  refine lv_iconst (v := 0) hx hb dX2_firstMentionOf_2 (by decide) ?_
  refine lv_istore (lv' := [(4, .int 0), (3, .int 0), (0, .ref h0), (1, .int x), (2, .int y)]) hx hb dX2_firstMentionOf_3 hl (by decide) rfl (fun ls hl => ?_)
  have loop_1 : ∀ (nn_3 : Nat) (i : Nat) (z : Int32), (i ≤ 600) → (e0 - i < nn_3) → ∀ (H : Heap) (locs : List Loc) (ls : Array Slot), va_P D vwCl [(h0, .inr (2, [.ref mn, .ref na1, .ref na2, .int (nI e0)])), (na1, .inl (cI, 80, .inl fn1)), (na2, .inl (cI, 80, .inl fn2))] H → va_D A [(h0, .inr (2, [.ref mn, .ref na1, .ref na2, .int (nI e0)])), (na1, .inl (cI, 80, .inl fn1)), (na2, .inl (cI, 80, .inl fn2))] → va_S A s.heap H locs → lv_has ls 5 [(0, .ref h0), (1, .int x), (2, .int y), (3, .int z), (4, .int (nI i))] → W p l e ({ frames := 0, cells := 0, slots := 0, locals := 0 } : Room) s m ([.ref h0, .int x, .int y] : List Value).toArray below meth cd H locs 0 0 Q (F0 m 5 ls []) := by
    intro nn_3
    induction nn_3 with
    | zero => intros; exact absurd ‹_ < 0› (Nat.not_lt_zero _)
    | succ nn_3 ih_2 =>
      intro i z hi600 hmu H locs ls hP hD hS hl
      refine lv_iload hx hb dX2_firstMentionOf_5 (lv_at hl 4 rfl) ?_
      refine lv_aload_n hx hb dX2_firstMentionOf_7 rfl (lv_at hl 0 rfl) ?_
      refine va_get (D := D) (ci := 2) (v := .int (nI e0)) (C := RX2) (T := TX2) (N := 4) hx hb hts hinX2 hown hK hP 0 rfl rfl 3 (by decide) (hts (.fieldLink RX2 22 "TaleReader$Names" "count" "I") (uc6 _ (List.mem_of_getElem? (i := 0) rfl))) (fun _ h9 => h9) rfl dX2_firstMentionOf_8 ?_
      refine lv_icmp_ge (tgt := 47) hx hb dX2_firstMentionOf_11 (by decide) (fun c_4 => ?_) (fun c_4 => ?_)
      · refine lv_iconst (v := (-1)) hx hb dX2_firstMentionOf_47 (by decide) ?_
        have hP9 := hP.sub (ws' := [(h0, .inr (2, [.ref mn, .ref na1, .ref na2, .int (nI e0)])), (na1, .inl (cI, 80, .inl fn1)), (na2, .inl (cI, 80, .inl fn2))]) [0, 1, 2] rfl
        have hD9 := hD.sub (ws' := [(h0, .inr (2, [.ref mn, .ref na1, .ref na2, .int (nI e0)])), (na1, .inl (cI, 80, .inl fn1)), (na2, .inl (cI, 80, .inl fn2))]) [0, 1, 2] (by decide) rfl
        rw [← hQ]
        exact W.iret (v := (-1)) hx hb hr (fun t ht hW => ⟨⟨(-1), (), rfl, trivial, ⟨by rw [ht]; exact hP9, va_K.moved hW.alike hK, hD9⟩⟩, hS.F ht⟩) hS.2.2 dX2_firstMentionOf_48
      · have hlt_i : i < e0 := Nat.lt_of_not_le (fun q => c_4 (nI_le q (by omega)))
        refine lv_aload_n hx hb dX2_firstMentionOf_14 rfl (lv_at hl 0 rfl) ?_
        refine va_get (D := D) (ci := 2) (v := .ref na2) (C := RX2) (T := TX2) (N := 4) hx hb hts hinX2 hown hK hP 0 rfl rfl 2 (by decide) (hts (.fieldLink RX2 19 "TaleReader$Names" "owners" "[I") (uc5 _ (List.mem_of_getElem? (i := 23) rfl))) (fun _ h9 => h9) rfl dX2_firstMentionOf_15 ?_
        refine lv_iload hx hb dX2_firstMentionOf_18 (lv_at hl 4 rfl) ?_
        refine va_iald (D := D) hx hb hK hP 2 1 rfl rfl (vp_in_nI (by omega) (by omega)) dX2_firstMentionOf_20 ?_
        refine lv_topi (fun v_5 ev_5 => ?_)
        refine lv_iload_n hx hb dX2_firstMentionOf_21 rfl (lv_at hl 1 rfl) ?_
        refine lv_icmp_ne (tgt := 41) hx hb dX2_firstMentionOf_22 (by decide) (fun c_6 => ?_) (fun c_6 => ?_)
        · refine lv_iinc (v := nI (i + 1)) (lv' := [(4, .int (nI (i + 1))), (0, .ref h0), (1, .int x), (2, .int y), (3, .int z)]) hx hb dX2_firstMentionOf_41 hl (k := 4) rfl (nI_add i 1) (by decide) rfl (fun ls hl => ?_)
          refine lv_goto (tgt := 5) hx hb dX2_firstMentionOf_44 (by decide) ?_
          exact ih_2 (i + 1) z (by first | assumption | exact Or.inl rfl | exact Or.inr rfl | omega) (by omega) H _ ls (hP.sub (ws' := [(h0, .inr (2, [.ref mn, .ref na1, .ref na2, .int (nI e0)])), (na1, .inl (cI, 80, .inl fn1)), (na2, .inl (cI, 80, .inl fn2))]) [0, 1, 2] rfl) (hD.sub (ws' := [(h0, .inr (2, [.ref mn, .ref na1, .ref na2, .int (nI e0)])), (na1, .inl (cI, 80, .inl fn1)), (na2, .inl (cI, 80, .inl fn2))]) [0, 1, 2] (by decide) rfl) hS (lv_sub hl [1, 2, 3, 4, 0] rfl)
        · refine lv_iload_n hx hb dX2_firstMentionOf_25 rfl (lv_at hl 3 rfl) ?_
          refine lv_iload_n hx hb dX2_firstMentionOf_26 rfl (lv_at hl 2 rfl) ?_
          refine lv_icmp_ne (tgt := 38) hx hb dX2_firstMentionOf_27 (by decide) (fun c_7 => ?_) (fun c_7 => ?_)
          · refine lv_iinc (v := z + 1) (lv' := [(3, .int (z + 1)), (0, .ref h0), (1, .int x), (2, .int y), (4, .int (nI i))]) hx hb dX2_firstMentionOf_38 hl (k := 3) rfl (rfl) (by decide) rfl (fun ls hl => ?_)
            refine lv_iinc (v := nI (i + 1)) (lv' := [(4, .int (nI (i + 1))), (3, .int (z + 1)), (0, .ref h0), (1, .int x), (2, .int y)]) hx hb dX2_firstMentionOf_41 hl (k := 4) rfl (nI_add i 1) (by decide) rfl (fun ls hl => ?_)
            refine lv_goto (tgt := 5) hx hb dX2_firstMentionOf_44 (by decide) ?_
            exact ih_2 (i + 1) (z + 1) (by first | assumption | exact Or.inl rfl | exact Or.inr rfl | omega) (by omega) H _ ls (hP.sub (ws' := [(h0, .inr (2, [.ref mn, .ref na1, .ref na2, .int (nI e0)])), (na1, .inl (cI, 80, .inl fn1)), (na2, .inl (cI, 80, .inl fn2))]) [0, 1, 2] rfl) (hD.sub (ws' := [(h0, .inr (2, [.ref mn, .ref na1, .ref na2, .int (nI e0)])), (na1, .inl (cI, 80, .inl fn1)), (na2, .inl (cI, 80, .inl fn2))]) [0, 1, 2] (by decide) rfl) hS (lv_sub hl [2, 3, 4, 1, 0] rfl)
          · refine lv_aload_n hx hb dX2_firstMentionOf_30 rfl (lv_at hl 0 rfl) ?_
            refine va_get (D := D) (ci := 2) (v := .ref na1) (C := RX2) (T := TX2) (N := 4) hx hb hts hinX2 hown hK hP 0 rfl rfl 1 (by decide) (hts (.fieldLink RX2 15 "TaleReader$Names" "firstMentions" "[I") (uc5 _ (List.mem_of_getElem? (i := 22) rfl))) (fun _ h9 => h9) rfl dX2_firstMentionOf_31 ?_
            refine lv_iload hx hb dX2_firstMentionOf_34 (lv_at hl 4 rfl) ?_
            refine va_iald (D := D) hx hb hK hP 1 1 rfl rfl (vp_in_nI (by omega) (by omega)) dX2_firstMentionOf_36 ?_
            refine lv_topi (fun v_8 ev_8 => ?_)
            have hP9 := hP.sub (ws' := [(h0, .inr (2, [.ref mn, .ref na1, .ref na2, .int (nI e0)])), (na1, .inl (cI, 80, .inl fn1)), (na2, .inl (cI, 80, .inl fn2))]) [0, 1, 2] rfl
            have hD9 := hD.sub (ws' := [(h0, .inr (2, [.ref mn, .ref na1, .ref na2, .int (nI e0)])), (na1, .inl (cI, 80, .inl fn1)), (na2, .inl (cI, 80, .inl fn2))]) [0, 1, 2] (by decide) rfl
            rw [← hQ]
            exact W.iret (v := v_8) hx hb hr (fun t ht hW => ⟨⟨v_8, (), rfl, trivial, ⟨by rw [ht]; exact hP9, va_K.moved hW.alike hK, hD9⟩⟩, hS.F ht⟩) hS.2.2 dX2_firstMentionOf_37
  exact loop_1 _ 0 0 (by first | assumption | exact Or.inl rfl | exact Or.inr rfl | omega) (Nat.lt_succ_self _) s.heap _ ls (hP.sub (ws' := [(h0, .inr (2, [.ref mn, .ref na1, .ref na2, .int (nI e0)])), (na1, .inl (cI, 80, .inl fn1)), (na2, .inl (cI, 80, .inl fn2))]) [0, 1, 2] rfl) (hD.sub (ws' := [(h0, .inr (2, [.ref mn, .ref na1, .ref na2, .int (nI e0)])), (na1, .inl (cI, 80, .inl fn1)), (na2, .inl (cI, 80, .inl fn2))]) [0, 1, 2] (by decide) rfl) hS (lv_sub hl [2, 3, 4, 1, 0] rfl)
