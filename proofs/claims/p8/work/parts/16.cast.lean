set_option maxHeartbeats 4000000 in
set_option maxRecDepth 100000 in
theorem s_X0_init (l : Launch) (D : va_G) (cB cI cZ : ClassId) (E : pEt) (sz : Nat) (h0 : Nat) : Met l yX0_init (.code yX0_init cX0_init 1 none :: wsL_law) ({ frames := 1, cells := 4, slots := 120, locals := 12 } : Room) (va_Pc [.ref h0] (pInE E D (pT cB cI cZ) sz [(h0, .inr (0, [.null, .null, .null, .null, .int 0]))])) (va_Qv (fun (u : Nat × Nat × Nat × Nat) => True) (fun (u : Nat × Nat × Nat × Nat) (t : State) => pAt D (pT cB cI cZ) (va_A [(h0, .inr (0, [.null, .null, .null, .null, .int 0]))] sz) [(h0, .inr (0, [.ref u.1, .ref u.2.1, .ref u.2.2.1, .ref u.2.2.2, .int 0])), (u.1, .inl (cI, 30, .inl (fun _ => 0))), (u.2.1, .inl (cI, 30, .inl (fun _ => 0))), (u.2.2.1, .inl (cI, 30, .inl (fun _ => 0))), (u.2.2.2, .inl (cI, 30, .inl (fun _ => 0)))] t) (va_A [(h0, .inr (0, [.null, .null, .null, .null, .int 0]))] sz)) 4 120 (va_A [(h0, .inr (0, [.null, .null, .null, .null, .int 0]))] sz) := by
  refine Met.ofW (cc := cX0_init) (maxL := 1) (ret := none) (by decide) rfl ?_
  intro p e s m args below meth cd s₁ B hml hv
  obtain ⟨rfl, hsz, hP, hK, hD0, hE⟩ := hv
  have hx := B.exec
  have hb := B.bytes
  have hr := B.returns
  have hts0 := atoms_spec (ws := .code yX0_init cX0_init 1 none :: wsL_law) B.pre
  have hts := fun (w : Cond) (h : w ∈ wsL_law) => hts0 w (List.mem_cons_of_mem _ h)
  have hown : s.vm.findClass RX0 = some m.cls := findClass_of_methodNamed B.named
  have hlocks := B.notSynchronized
  have hin : meth.name = "<init>" := (name_of_methodNamed B.named B.method).1
  have hinX0 := inlX0
  subst hsz
  have hD := hD0.self (sz := s.heap.size)
  generalize hAe : va_A [(h0, .inr (0, [.null, .null, .null, .null, .int 0]))] s.heap.size = A at hD hE ⊢
  have hA : ∀ q : Nat, s.heap.size ≤ q → A q := fun q h => by rw [← hAe]; exact Or.inr h
  have hS : va_S A s.heap s.heap [] := va_S.rf
  have hP : va_P D vwCl [(h0, .inr (0, [.null, .null, .null, .null, .int 0]))] s.heap := hP
  have hl := lv_entry ([.ref h0]) (n := 1) (Nat.le_of_ble_eq_true rfl)
  rw [lg_entry_eq]
  generalize (lg_sl ([.ref h0]) ++ List.replicate (1 - (lg_sl ([.ref h0])).length) Slot.unset).toArray = ls at hl ⊢
  have hl : lv_has ls 1 [(0, .ref h0)] := hl
  refine lv_aload_n hx hb dX0_init_0 rfl (lv_at hl 0 rfl) ?_
  refine W.objInit hx hb hown (hts (.methodLink RX0 3 objectInit) (uc5 _ (List.mem_of_getElem? (i := 11) rfl))) (hts (.instanceMethod objectInit) (uc1 _ (List.mem_of_getElem? (i := 10) rfl))) (hts (.code objectInit ⟨#[0xb1]⟩ 1 none) (uc1 _ (List.mem_of_getElem? (i := 11) rfl))) rfl (by rw [hml]; exact hl.1) rfl dX0_init_1 (Nat.le_of_ble_eq_true rfl) (Nat.le_of_ble_eq_true rfl) ?_
  refine W.eq (g2 := F0 m 4 ls []) rfl ?_
  refine lv_aload_n hx hb dX0_init_4 rfl (lv_at hl 0 rfl) ?_
  refine lv_bipush (v := 30) hx hb dX0_init_5 (by decide) ?_
  refine pNewa (D := D) (cl := vwCl) (ty := .int) (N' := 30) (a0 := (30, .inl (fun _ => 0))) (cA := cI) hx hb (hts (.arrayClass .int) (uc3 _ (List.mem_of_getElem? (i := 13) rfl))) rfl hK hP hD hS hA (fun _ => rfl) (by decide) (by decide) (by decide) (Nat.le_of_ble_eq_true rfl) (Nat.le_of_ble_eq_true rfl) dX0_init_7 1 rfl (fun q_1 H_2 hP hD hS => ?_)
  have hP : va_P D vwCl [(h0, .inr (0, [.null, .null, .null, .null, .int 0])), (q_1, .inl (cI, 30, .inl (fun _ => 0)))] H_2 := hP
  have hD : va_D A [(h0, .inr (0, [.null, .null, .null, .null, .int 0])), (q_1, .inl (cI, 30, .inl (fun _ => 0)))] := hD
  refine W.widen (k := 1) (n := 30) (by decide) (by decide) ?_
  refine va_putF (D := D) (ci := 0) (v := .ref q_1) (ty := (.array .int)) (C := RX0) (T := TX0) (N := 5) hx hb hts hinX0 tyX0 tyX0_ok nmX0 hown hK hP hD hS 0 rfl rfl 0 (by decide) (hts (.fieldLink RX0 9 "TaleReader$Cast" "sexes" "[I") (uc5 _ (List.mem_of_getElem? (i := 12) rfl))) (fun _ h9 => h9) rfl hin rfl (by decide +kernel) rfl rfl (Nat.le_of_ble_eq_true rfl) dX0_init_9 (fun H_3 L_4 hP hD hS => ?_)
  have hP : va_P D vwCl [(h0, .inr (0, [.ref q_1, .null, .null, .null, .int 0])), (q_1, .inl (cI, 30, .inl (fun _ => 0)))] H_3 := hP
  have hD : va_D A [(h0, .inr (0, [.ref q_1, .null, .null, .null, .int 0])), (q_1, .inl (cI, 30, .inl (fun _ => 0)))] := hD
  refine lv_aload_n hx hb dX0_init_12 rfl (lv_at hl 0 rfl) ?_
  refine lv_bipush (v := 30) hx hb dX0_init_13 (by decide) ?_
  refine pNewa (D := D) (cl := vwCl) (ty := .int) (N' := 30) (a0 := (30, .inl (fun _ => 0))) (cA := cI) hx hb (hts (.arrayClass .int) (uc3 _ (List.mem_of_getElem? (i := 13) rfl))) rfl hK hP hD hS hA (fun _ => rfl) (by decide) (by decide) (by decide) (Nat.le_of_ble_eq_true rfl) (Nat.le_of_ble_eq_true rfl) dX0_init_15 1 rfl (fun q_5 H_6 hP hD hS => ?_)
  have hP : va_P D vwCl [(h0, .inr (0, [.ref q_1, .null, .null, .null, .int 0])), (q_1, .inl (cI, 30, .inl (fun _ => 0))), (q_5, .inl (cI, 30, .inl (fun _ => 0)))] H_6 := hP
  have hD : va_D A [(h0, .inr (0, [.ref q_1, .null, .null, .null, .int 0])), (q_1, .inl (cI, 30, .inl (fun _ => 0))), (q_5, .inl (cI, 30, .inl (fun _ => 0)))] := hD
  refine W.widen (k := 2) (n := 60) (by decide) (by decide) ?_
  refine va_putF (D := D) (ci := 0) (v := .ref q_5) (ty := (.array .int)) (C := RX0) (T := TX0) (N := 5) hx hb hts hinX0 tyX0 tyX0_ok nmX0 hown hK hP hD hS 0 rfl rfl 1 (by decide) (hts (.fieldLink RX0 15 "TaleReader$Cast" "joined" "[I") (uc5 _ (List.mem_of_getElem? (i := 13) rfl))) (fun _ h9 => h9) rfl hin rfl (by decide +kernel) rfl rfl (Nat.le_of_ble_eq_true rfl) dX0_init_17 (fun H_7 L_8 hP hD hS => ?_)
  have hP : va_P D vwCl [(h0, .inr (0, [.ref q_1, .ref q_5, .null, .null, .int 0])), (q_1, .inl (cI, 30, .inl (fun _ => 0))), (q_5, .inl (cI, 30, .inl (fun _ => 0)))] H_7 := hP
  have hD : va_D A [(h0, .inr (0, [.ref q_1, .ref q_5, .null, .null, .int 0])), (q_1, .inl (cI, 30, .inl (fun _ => 0))), (q_5, .inl (cI, 30, .inl (fun _ => 0)))] := hD
  refine lv_aload_n hx hb dX0_init_20 rfl (lv_at hl 0 rfl) ?_
  refine lv_bipush (v := 30) hx hb dX0_init_21 (by decide) ?_
  refine pNewa (D := D) (cl := vwCl) (ty := .int) (N' := 30) (a0 := (30, .inl (fun _ => 0))) (cA := cI) hx hb (hts (.arrayClass .int) (uc3 _ (List.mem_of_getElem? (i := 13) rfl))) rfl hK hP hD hS hA (fun _ => rfl) (by decide) (by decide) (by decide) (Nat.le_of_ble_eq_true rfl) (Nat.le_of_ble_eq_true rfl) dX0_init_23 1 rfl (fun q_9 H_10 hP hD hS => ?_)
  have hP : va_P D vwCl [(h0, .inr (0, [.ref q_1, .ref q_5, .null, .null, .int 0])), (q_1, .inl (cI, 30, .inl (fun _ => 0))), (q_5, .inl (cI, 30, .inl (fun _ => 0))), (q_9, .inl (cI, 30, .inl (fun _ => 0)))] H_10 := hP
  have hD : va_D A [(h0, .inr (0, [.ref q_1, .ref q_5, .null, .null, .int 0])), (q_1, .inl (cI, 30, .inl (fun _ => 0))), (q_5, .inl (cI, 30, .inl (fun _ => 0))), (q_9, .inl (cI, 30, .inl (fun _ => 0)))] := hD
  refine W.widen (k := 3) (n := 90) (by decide) (by decide) ?_
  refine va_putF (D := D) (ci := 0) (v := .ref q_9) (ty := (.array .int)) (C := RX0) (T := TX0) (N := 5) hx hb hts hinX0 tyX0 tyX0_ok nmX0 hown hK hP hD hS 0 rfl rfl 2 (by decide) (hts (.fieldLink RX0 18 "TaleReader$Cast" "members" "[I") (uc5 _ (List.mem_of_getElem? (i := 14) rfl))) (fun _ h9 => h9) rfl hin rfl (by decide +kernel) rfl rfl (Nat.le_of_ble_eq_true rfl) dX0_init_25 (fun H_11 L_12 hP hD hS => ?_)
  have hP : va_P D vwCl [(h0, .inr (0, [.ref q_1, .ref q_5, .ref q_9, .null, .int 0])), (q_1, .inl (cI, 30, .inl (fun _ => 0))), (q_5, .inl (cI, 30, .inl (fun _ => 0))), (q_9, .inl (cI, 30, .inl (fun _ => 0)))] H_11 := hP
  have hD : va_D A [(h0, .inr (0, [.ref q_1, .ref q_5, .ref q_9, .null, .int 0])), (q_1, .inl (cI, 30, .inl (fun _ => 0))), (q_5, .inl (cI, 30, .inl (fun _ => 0))), (q_9, .inl (cI, 30, .inl (fun _ => 0)))] := hD
  refine lv_aload_n hx hb dX0_init_28 rfl (lv_at hl 0 rfl) ?_
  refine lv_bipush (v := 30) hx hb dX0_init_29 (by decide) ?_
  refine pNewa (D := D) (cl := vwCl) (ty := .int) (N' := 30) (a0 := (30, .inl (fun _ => 0))) (cA := cI) hx hb (hts (.arrayClass .int) (uc3 _ (List.mem_of_getElem? (i := 13) rfl))) rfl hK hP hD hS hA (fun _ => rfl) (by decide) (by decide) (by decide) (Nat.le_of_ble_eq_true rfl) (Nat.le_of_ble_eq_true rfl) dX0_init_31 1 rfl (fun q_13 H_14 hP hD hS => ?_)
  have hP : va_P D vwCl [(h0, .inr (0, [.ref q_1, .ref q_5, .ref q_9, .null, .int 0])), (q_1, .inl (cI, 30, .inl (fun _ => 0))), (q_5, .inl (cI, 30, .inl (fun _ => 0))), (q_9, .inl (cI, 30, .inl (fun _ => 0))), (q_13, .inl (cI, 30, .inl (fun _ => 0)))] H_14 := hP
  have hD : va_D A [(h0, .inr (0, [.ref q_1, .ref q_5, .ref q_9, .null, .int 0])), (q_1, .inl (cI, 30, .inl (fun _ => 0))), (q_5, .inl (cI, 30, .inl (fun _ => 0))), (q_9, .inl (cI, 30, .inl (fun _ => 0))), (q_13, .inl (cI, 30, .inl (fun _ => 0)))] := hD
  refine W.widen (k := 4) (n := 120) (by decide) (by decide) ?_
  refine va_putF (D := D) (ci := 0) (v := .ref q_13) (ty := (.array .int)) (C := RX0) (T := TX0) (N := 5) hx hb hts hinX0 tyX0 tyX0_ok nmX0 hown hK hP hD hS 0 rfl rfl 3 (by decide) (hts (.fieldLink RX0 21 "TaleReader$Cast" "lastMentions" "[I") (uc5 _ (List.mem_of_getElem? (i := 15) rfl))) (fun _ h9 => h9) rfl hin rfl (by decide +kernel) rfl rfl (Nat.le_of_ble_eq_true rfl) dX0_init_33 (fun H_15 L_16 hP hD hS => ?_)
  have hP : va_P D vwCl [(h0, .inr (0, [.ref q_1, .ref q_5, .ref q_9, .ref q_13, .int 0])), (q_1, .inl (cI, 30, .inl (fun _ => 0))), (q_5, .inl (cI, 30, .inl (fun _ => 0))), (q_9, .inl (cI, 30, .inl (fun _ => 0))), (q_13, .inl (cI, 30, .inl (fun _ => 0)))] H_15 := hP
  have hD : va_D A [(h0, .inr (0, [.ref q_1, .ref q_5, .ref q_9, .ref q_13, .int 0])), (q_1, .inl (cI, 30, .inl (fun _ => 0))), (q_5, .inl (cI, 30, .inl (fun _ => 0))), (q_9, .inl (cI, 30, .inl (fun _ => 0))), (q_13, .inl (cI, 30, .inl (fun _ => 0)))] := hD
  refine lv_aload_n hx hb dX0_init_36 rfl (lv_at hl 0 rfl) ?_
  refine lv_iconst (v := 0) hx hb dX0_init_37 (by decide) ?_
  refine va_put (D := D) (ci := 0) (v := .int 0) (ty := .int) (C := RX0) (T := TX0) (N := 5) hx hb hts hinX0 tyX0 tyX0_ok nmX0 hown hK hP hD hS 0 rfl rfl 4 (by decide) (hts (.fieldLink RX0 24 "TaleReader$Cast" "count" "I") (uc5 _ (List.mem_of_getElem? (i := 16) rfl))) (fun _ h9 => h9) rfl (by decide +kernel) rfl rfl (Nat.le_of_ble_eq_true rfl) dX0_init_38 (fun H_17 L_18 hP hD hS => ?_)
  have hP : va_P D vwCl [(h0, .inr (0, [.ref q_1, .ref q_5, .ref q_9, .ref q_13, .int 0])), (q_1, .inl (cI, 30, .inl (fun _ => 0))), (q_5, .inl (cI, 30, .inl (fun _ => 0))), (q_9, .inl (cI, 30, .inl (fun _ => 0))), (q_13, .inl (cI, 30, .inl (fun _ => 0)))] H_17 := hP
  have hD : va_D A [(h0, .inr (0, [.ref q_1, .ref q_5, .ref q_9, .ref q_13, .int 0])), (q_1, .inl (cI, 30, .inl (fun _ => 0))), (q_5, .inl (cI, 30, .inl (fun _ => 0))), (q_9, .inl (cI, 30, .inl (fun _ => 0))), (q_13, .inl (cI, 30, .inl (fun _ => 0)))] := hD
  have hP9 := hP.sub (ws' := [(h0, .inr (0, [.ref q_1, .ref q_5, .ref q_9, .ref q_13, .int 0])), (q_1, .inl (cI, 30, .inl (fun _ => 0))), (q_5, .inl (cI, 30, .inl (fun _ => 0))), (q_9, .inl (cI, 30, .inl (fun _ => 0))), (q_13, .inl (cI, 30, .inl (fun _ => 0)))]) [0, 1, 2, 3, 4] rfl
  have hD9 := hD.sub (ws' := [(h0, .inr (0, [.ref q_1, .ref q_5, .ref q_9, .ref q_13, .int 0])), (q_1, .inl (cI, 30, .inl (fun _ => 0))), (q_5, .inl (cI, 30, .inl (fun _ => 0))), (q_9, .inl (cI, 30, .inl (fun _ => 0))), (q_13, .inl (cI, 30, .inl (fun _ => 0)))]) [0, 1, 2, 3, 4] (by decide) rfl
  exact W.vret hx hb hr (fun t ht hW => ⟨⟨(q_1, q_5, q_9, q_13), rfl, trivial, ⟨by rw [ht]; exact hP9, va_K.moved hW.alike hK, hD9⟩⟩, hS.F ht⟩) hS.2.2 dX0_init_41
set_option maxHeartbeats 4000000 in
set_option maxRecDepth 100000 in
theorem s_X0_size (l : Launch) (D : va_G) (cB cI cZ : ClassId) (E : pEt) (sz : Nat) (h0 : Nat) (ca1 : Nat) (ca2 : Nat) (ca3 : Nat) (ca4 : Nat) (v : Int32) : Met l yX0_size (.code yX0_size cX0_size 1 (some .int) :: wsL_law) ({ frames := 0, cells := 0, slots := 0, locals := 0 } : Room) (va_Pc [.ref h0] (pInE E D (pT cB cI cZ) sz [(h0, .inr (0, [.ref ca1, .ref ca2, .ref ca3, .ref ca4, .int v]))])) (va_Qi (fun (r : Int32) (u : Unit) => v = r) (fun (u : Unit) (t : State) => pAt D (pT cB cI cZ) (va_A [(h0, .inr (0, [.ref ca1, .ref ca2, .ref ca3, .ref ca4, .int v]))] sz) [(h0, .inr (0, [.ref ca1, .ref ca2, .ref ca3, .ref ca4, .int v]))] t) (va_A [(h0, .inr (0, [.ref ca1, .ref ca2, .ref ca3, .ref ca4, .int v]))] sz)) 0 0 (va_A [(h0, .inr (0, [.ref ca1, .ref ca2, .ref ca3, .ref ca4, .int v]))] sz) := by
  refine Met.ofW (cc := cX0_size) (maxL := 1) (ret := (some .int)) (by decide) rfl ?_
  intro p e s m args below meth cd s₁ B hml hv
  obtain ⟨rfl, hsz, hP, hK, hD0, hE⟩ := hv
  have hx := B.exec
  have hb := B.bytes
  have hr := B.returns
  have hts0 := atoms_spec (ws := .code yX0_size cX0_size 1 (some .int) :: wsL_law) B.pre
  have hts := fun (w : Cond) (h : w ∈ wsL_law) => hts0 w (List.mem_cons_of_mem _ h)
  have hown : s.vm.findClass RX0 = some m.cls := findClass_of_methodNamed B.named
  have hlocks := B.notSynchronized
  have hinX0 := inlX0
  subst hsz
  have hD := hD0.self (sz := s.heap.size)
  generalize hAe : va_A [(h0, .inr (0, [.ref ca1, .ref ca2, .ref ca3, .ref ca4, .int v]))] s.heap.size = A at hD hE ⊢
  have hA : ∀ q : Nat, s.heap.size ≤ q → A q := fun q h => by rw [← hAe]; exact Or.inr h
  have hS : va_S A s.heap s.heap [] := va_S.rf
  have hP : va_P D vwCl [(h0, .inr (0, [.ref ca1, .ref ca2, .ref ca3, .ref ca4, .int v]))] s.heap := hP
  have hl := lv_entry ([.ref h0]) (n := 1) (Nat.le_of_ble_eq_true rfl)
  rw [lg_entry_eq]
  generalize (lg_sl ([.ref h0]) ++ List.replicate (1 - (lg_sl ([.ref h0])).length) Slot.unset).toArray = ls at hl ⊢
  have hl : lv_has ls 1 [(0, .ref h0)] := hl
  refine lv_aload_n hx hb dX0_size_0 rfl (lv_at hl 0 rfl) ?_
  refine va_get (D := D) (ci := 0) (v := .int v) (C := RX0) (T := TX0) (N := 5) hx hb hts hinX0 hown hK hP 0 rfl rfl 4 (by decide) (hts (.fieldLink RX0 24 "TaleReader$Cast" "count" "I") (uc5 _ (List.mem_of_getElem? (i := 16) rfl))) (fun _ h9 => h9) rfl dX0_size_1 ?_
  have hP9 := hP.sub (ws' := [(h0, .inr (0, [.ref ca1, .ref ca2, .ref ca3, .ref ca4, .int v]))]) [0] rfl
  have hD9 := hD.sub (ws' := [(h0, .inr (0, [.ref ca1, .ref ca2, .ref ca3, .ref ca4, .int v]))]) [0] (by decide) rfl
  exact W.iret (v := v) hx hb hr (fun t ht hW => ⟨⟨v, (), rfl, rfl, ⟨by rw [ht]; exact hP9, va_K.moved hW.alike hK, hD9⟩⟩, hS.F ht⟩) hS.2.2 dX0_size_4
set_option maxHeartbeats 4000000 in
set_option maxRecDepth 100000 in
theorem s_X0_clear (l : Launch) (D : va_G) (cB cI cZ : ClassId) (E : pEt) (sz : Nat) (h0 : Nat) (ca1 : Nat) (ca2 : Nat) (ca3 : Nat) (ca4 : Nat) (v : Int32) : Met l yX0_clear (.code yX0_clear cX0_clear 1 none :: wsL_law) ({ frames := 0, cells := 0, slots := 0, locals := 0 } : Room) (va_Pc [.ref h0] (pInE E D (pT cB cI cZ) sz [(h0, .inr (0, [.ref ca1, .ref ca2, .ref ca3, .ref ca4, .int v]))])) (va_Qv (fun (u : Unit) => True) (fun (u : Unit) (t : State) => pAt D (pT cB cI cZ) (va_A [(h0, .inr (0, [.ref ca1, .ref ca2, .ref ca3, .ref ca4, .int v]))] sz) [(h0, .inr (0, [.ref ca1, .ref ca2, .ref ca3, .ref ca4, .int 0]))] t) (va_A [(h0, .inr (0, [.ref ca1, .ref ca2, .ref ca3, .ref ca4, .int v]))] sz)) 0 0 (va_A [(h0, .inr (0, [.ref ca1, .ref ca2, .ref ca3, .ref ca4, .int v]))] sz) := by
  refine Met.ofW (cc := cX0_clear) (maxL := 1) (ret := none) (by decide) rfl ?_
  intro p e s m args below meth cd s₁ B hml hv
  obtain ⟨rfl, hsz, hP, hK, hD0, hE⟩ := hv
  have hx := B.exec
  have hb := B.bytes
  have hr := B.returns
  have hts0 := atoms_spec (ws := .code yX0_clear cX0_clear 1 none :: wsL_law) B.pre
  have hts := fun (w : Cond) (h : w ∈ wsL_law) => hts0 w (List.mem_cons_of_mem _ h)
  have hown : s.vm.findClass RX0 = some m.cls := findClass_of_methodNamed B.named
  have hlocks := B.notSynchronized
  have hinX0 := inlX0
  subst hsz
  have hD := hD0.self (sz := s.heap.size)
  generalize hAe : va_A [(h0, .inr (0, [.ref ca1, .ref ca2, .ref ca3, .ref ca4, .int v]))] s.heap.size = A at hD hE ⊢
  have hA : ∀ q : Nat, s.heap.size ≤ q → A q := fun q h => by rw [← hAe]; exact Or.inr h
  have hS : va_S A s.heap s.heap [] := va_S.rf
  have hP : va_P D vwCl [(h0, .inr (0, [.ref ca1, .ref ca2, .ref ca3, .ref ca4, .int v]))] s.heap := hP
  have hl := lv_entry ([.ref h0]) (n := 1) (Nat.le_of_ble_eq_true rfl)
  rw [lg_entry_eq]
  generalize (lg_sl ([.ref h0]) ++ List.replicate (1 - (lg_sl ([.ref h0])).length) Slot.unset).toArray = ls at hl ⊢
  have hl : lv_has ls 1 [(0, .ref h0)] := hl
  refine lv_aload_n hx hb dX0_clear_0 rfl (lv_at hl 0 rfl) ?_
  refine lv_iconst (v := 0) hx hb dX0_clear_1 (by decide) ?_
  refine va_put (D := D) (ci := 0) (v := .int 0) (ty := .int) (C := RX0) (T := TX0) (N := 5) hx hb hts hinX0 tyX0 tyX0_ok nmX0 hown hK hP hD hS 0 rfl rfl 4 (by decide) (hts (.fieldLink RX0 24 "TaleReader$Cast" "count" "I") (uc5 _ (List.mem_of_getElem? (i := 16) rfl))) (fun _ h9 => h9) rfl (by decide +kernel) rfl rfl (Nat.le_of_ble_eq_true rfl) dX0_clear_2 (fun H_1 L_2 hP hD hS => ?_)
  have hP : va_P D vwCl [(h0, .inr (0, [.ref ca1, .ref ca2, .ref ca3, .ref ca4, .int 0]))] H_1 := hP
  have hD : va_D A [(h0, .inr (0, [.ref ca1, .ref ca2, .ref ca3, .ref ca4, .int 0]))] := hD
  have hP9 := hP.sub (ws' := [(h0, .inr (0, [.ref ca1, .ref ca2, .ref ca3, .ref ca4, .int 0]))]) [0] rfl
  have hD9 := hD.sub (ws' := [(h0, .inr (0, [.ref ca1, .ref ca2, .ref ca3, .ref ca4, .int 0]))]) [0] (by decide) rfl
  exact W.vret hx hb hr (fun t ht hW => ⟨⟨(), rfl, trivial, ⟨by rw [ht]; exact hP9, va_K.moved hW.alike hK, hD9⟩⟩, hS.F ht⟩) hS.2.2 dX0_clear_5
set_option maxHeartbeats 4000000 in
set_option maxRecDepth 100000 in
theorem s_X0_has (l : Launch) (D : va_G) (cB cI cZ : ClassId) (E : pEt) (sz : Nat) (h0 : Nat) (x : Int32) (ca1 : Nat) (ca2 : Nat) (ca3 : Nat) (ca4 : Nat) (v : Int32) : Met l yX0_has (.code yX0_has cX0_has 2 (some .boolean) :: wsL_law) ({ frames := 0, cells := 0, slots := 0, locals := 0 } : Room) (va_Pc [.ref h0, .int x] (pInE E D (pT cB cI cZ) sz [(h0, .inr (0, [.ref ca1, .ref ca2, .ref ca3, .ref ca4, .int v]))])) (va_Qi (fun (r : Int32) (u : Unit) => ((0 = r) ∧ (x < 0 ∨ v ≤ x)) ∨ ((1 = r) ∧ (¬ x < 0) ∧ (¬ v ≤ x))) (fun (u : Unit) (t : State) => pAt D (pT cB cI cZ) (va_A [(h0, .inr (0, [.ref ca1, .ref ca2, .ref ca3, .ref ca4, .int v]))] sz) [(h0, .inr (0, [.ref ca1, .ref ca2, .ref ca3, .ref ca4, .int v]))] t) (va_A [(h0, .inr (0, [.ref ca1, .ref ca2, .ref ca3, .ref ca4, .int v]))] sz)) 0 0 (va_A [(h0, .inr (0, [.ref ca1, .ref ca2, .ref ca3, .ref ca4, .int v]))] sz) := by
  refine Met.ofW (cc := cX0_has) (maxL := 2) (ret := (some .boolean)) (by decide) rfl ?_
  intro p e s m args below meth cd s₁ B hml hv
  obtain ⟨rfl, hsz, hP, hK, hD0, hE⟩ := hv
  have hx := B.exec
  have hb := B.bytes
  have hr := B.returns
  have hts0 := atoms_spec (ws := .code yX0_has cX0_has 2 (some .boolean) :: wsL_law) B.pre
  have hts := fun (w : Cond) (h : w ∈ wsL_law) => hts0 w (List.mem_cons_of_mem _ h)
  have hown : s.vm.findClass RX0 = some m.cls := findClass_of_methodNamed B.named
  have hlocks := B.notSynchronized
  have hinX0 := inlX0
  subst hsz
  have hD := hD0.self (sz := s.heap.size)
  generalize hAe : va_A [(h0, .inr (0, [.ref ca1, .ref ca2, .ref ca3, .ref ca4, .int v]))] s.heap.size = A at hD hE ⊢
  have hA : ∀ q : Nat, s.heap.size ≤ q → A q := fun q h => by rw [← hAe]; exact Or.inr h
  have hS : va_S A s.heap s.heap [] := va_S.rf
  have hP : va_P D vwCl [(h0, .inr (0, [.ref ca1, .ref ca2, .ref ca3, .ref ca4, .int v]))] s.heap := hP
  have hl := lv_entry ([.ref h0, .int x]) (n := 2) (Nat.le_of_ble_eq_true rfl)
  rw [lg_entry_eq]
  generalize (lg_sl ([.ref h0, .int x]) ++ List.replicate (2 - (lg_sl ([.ref h0, .int x])).length) Slot.unset).toArray = ls at hl ⊢
  have hl : lv_has ls 2 [(0, .ref h0), (1, .int x)] := hl
  refine lv_iload_n hx hb dX0_has_0 rfl (lv_at hl 1 rfl) ?_
  refine lv_if_lt (tgt := 16) hx hb dX0_has_1 (by decide) (fun c_1 => ?_) (fun c_1 => ?_)
  · refine lv_iconst (v := 0) hx hb dX0_has_16 (by decide) ?_
    have hP9 := hP.sub (ws' := [(h0, .inr (0, [.ref ca1, .ref ca2, .ref ca3, .ref ca4, .int v]))]) [0] rfl
    have hD9 := hD.sub (ws' := [(h0, .inr (0, [.ref ca1, .ref ca2, .ref ca3, .ref ca4, .int v]))]) [0] (by decide) rfl
    exact W.zret (v := 0) hx hb hr (rfl) (fun t ht hW => ⟨⟨0, (), rfl, Or.inl (⟨rfl, Or.inl c_1⟩), ⟨by rw [ht]; exact hP9, va_K.moved hW.alike hK, hD9⟩⟩, hS.F ht⟩) hS.2.2 dX0_has_17
  · refine lv_iload_n hx hb dX0_has_4 rfl (lv_at hl 1 rfl) ?_
    refine lv_aload_n hx hb dX0_has_5 rfl (lv_at hl 0 rfl) ?_
    refine va_get (D := D) (ci := 0) (v := .int v) (C := RX0) (T := TX0) (N := 5) hx hb hts hinX0 hown hK hP 0 rfl rfl 4 (by decide) (hts (.fieldLink RX0 24 "TaleReader$Cast" "count" "I") (uc5 _ (List.mem_of_getElem? (i := 16) rfl))) (fun _ h9 => h9) rfl dX0_has_6 ?_
    refine lv_icmp_ge (tgt := 16) hx hb dX0_has_9 (by decide) (fun c_2 => ?_) (fun c_2 => ?_)
    · refine lv_iconst (v := 0) hx hb dX0_has_16 (by decide) ?_
      have hP9 := hP.sub (ws' := [(h0, .inr (0, [.ref ca1, .ref ca2, .ref ca3, .ref ca4, .int v]))]) [0] rfl
      have hD9 := hD.sub (ws' := [(h0, .inr (0, [.ref ca1, .ref ca2, .ref ca3, .ref ca4, .int v]))]) [0] (by decide) rfl
      exact W.zret (v := 0) hx hb hr (rfl) (fun t ht hW => ⟨⟨0, (), rfl, Or.inl (⟨rfl, Or.inr c_2⟩), ⟨by rw [ht]; exact hP9, va_K.moved hW.alike hK, hD9⟩⟩, hS.F ht⟩) hS.2.2 dX0_has_17
    · refine lv_iconst (v := 1) hx hb dX0_has_12 (by decide) ?_
      refine lv_goto (tgt := 17) hx hb dX0_has_13 (by decide) ?_
      have hP9 := hP.sub (ws' := [(h0, .inr (0, [.ref ca1, .ref ca2, .ref ca3, .ref ca4, .int v]))]) [0] rfl
      have hD9 := hD.sub (ws' := [(h0, .inr (0, [.ref ca1, .ref ca2, .ref ca3, .ref ca4, .int v]))]) [0] (by decide) rfl
      exact W.zret (v := 1) hx hb hr (rfl) (fun t ht hW => ⟨⟨1, (), rfl, Or.inr ((⟨rfl, by first | assumption | rfl | omega, by first | assumption | rfl | omega⟩)), ⟨by rw [ht]; exact hP9, va_K.moved hW.alike hK, hD9⟩⟩, hS.F ht⟩) hS.2.2 dX0_has_17
set_option maxHeartbeats 4000000 in
set_option maxRecDepth 100000 in
theorem s_X0_joinedTo (l : Launch) (D : va_G) (cB cI cZ : ClassId) (E : pEt) (sz : Nat) (h0 : Nat) (x : Int32) (ca1 : Nat) (ca2 : Nat) (ca3 : Nat) (ca4 : Nat) (c : Nat) (fc2 : Nat → Int32) (hc : c ≤ 30) : Met l yX0_joinedTo (.code yX0_joinedTo cX0_joinedTo 2 (some .int) :: wsL_law) ({ frames := 1, cells := 0, slots := 0, locals := 21 } : Room) (va_Pc [.ref h0, .int x] (pInE E D (pT cB cI cZ) sz [(h0, .inr (0, [.ref ca1, .ref ca2, .ref ca3, .ref ca4, .int (nI c)])), (ca2, .inl (cI, 30, .inl fc2))])) (va_Qi (fun (r : Int32) (u : Unit) => True) (fun (u : Unit) (t : State) => pAt D (pT cB cI cZ) (va_A [(h0, .inr (0, [.ref ca1, .ref ca2, .ref ca3, .ref ca4, .int (nI c)])), (ca2, .inl (cI, 30, .inl fc2))] sz) [(h0, .inr (0, [.ref ca1, .ref ca2, .ref ca3, .ref ca4, .int (nI c)])), (ca2, .inl (cI, 30, .inl fc2))] t) (va_A [(h0, .inr (0, [.ref ca1, .ref ca2, .ref ca3, .ref ca4, .int (nI c)])), (ca2, .inl (cI, 30, .inl fc2))] sz)) 0 0 (va_A [(h0, .inr (0, [.ref ca1, .ref ca2, .ref ca3, .ref ca4, .int (nI c)])), (ca2, .inl (cI, 30, .inl fc2))] sz) := by
  refine Met.ofW (cc := cX0_joinedTo) (maxL := 2) (ret := (some .int)) (by decide) rfl ?_
  intro p e s m args below meth cd s₁ B hml hv
  obtain ⟨rfl, hsz, hP, hK, hD0, hE⟩ := hv
  have hx := B.exec
  have hb := B.bytes
  have hr := B.returns
  have hts0 := atoms_spec (ws := .code yX0_joinedTo cX0_joinedTo 2 (some .int) :: wsL_law) B.pre
  have hts := fun (w : Cond) (h : w ∈ wsL_law) => hts0 w (List.mem_cons_of_mem _ h)
  have hown : s.vm.findClass RX0 = some m.cls := findClass_of_methodNamed B.named
  have hlocks := B.notSynchronized
  have hinX0 := inlX0
  subst hsz
  have hD := hD0.self (sz := s.heap.size)
  generalize hAe : va_A [(h0, .inr (0, [.ref ca1, .ref ca2, .ref ca3, .ref ca4, .int (nI c)])), (ca2, .inl (cI, 30, .inl fc2))] s.heap.size = A at hD hE ⊢
  have hA : ∀ q : Nat, s.heap.size ≤ q → A q := fun q h => by rw [← hAe]; exact Or.inr h
  have hS : va_S A s.heap s.heap [] := va_S.rf
  have hP : va_P D vwCl [(h0, .inr (0, [.ref ca1, .ref ca2, .ref ca3, .ref ca4, .int (nI c)])), (ca2, .inl (cI, 30, .inl fc2))] s.heap := hP
  have hl := lv_entry ([.ref h0, .int x]) (n := 2) (Nat.le_of_ble_eq_true rfl)
  rw [lg_entry_eq]
  generalize (lg_sl ([.ref h0, .int x]) ++ List.replicate (2 - (lg_sl ([.ref h0, .int x])).length) Slot.unset).toArray = ls at hl ⊢
  have hl : lv_has ls 2 [(0, .ref h0), (1, .int x)] := hl
  refine lv_aload_n hx hb dX0_joinedTo_0 rfl (lv_at hl 0 rfl) ?_
  refine lv_iload_n hx hb dX0_joinedTo_1 rfl (lv_at hl 1 rfl) ?_
  have hPc := hP.sub (ws' := [(h0, .inr (0, [.ref ca1, .ref ca2, .ref ca3, .ref ca4, .int (nI c)]))]) [0] rfl
  have hDc := hD.sub (ws' := [(h0, .inr (0, [.ref ca1, .ref ca2, .ref ca3, .ref ca4, .int (nI c)]))]) [0] (by decide) rfl
  have hFc := va_free (wc := [(h0, .inr (0, [.ref ca1, .ref ca2, .ref ca3, .ref ca4, .int (nI c)]))]) hD hS hA [0] rfl
  refine va_calli (va_runV (As := [.int x]) (rest := []) ⟨hx, hb, hml, hown, hts⟩ (s_X0_has l D cB cI cZ E s.heap.size h0 x ca1 ca2 ca3 ca4 (nI c)) (cwV 1 hts (uV (uc18 _ (List.mem_of_getElem? (i := 23) rfl)) (uc19 _ (List.mem_of_getElem? (i := 0) rfl)) (uc19 _ (List.mem_of_getElem? (i := 1) rfl)) (uc2 _ (List.mem_of_getElem? (i := 10) rfl)) (uc19 _ (List.mem_of_getElem? (i := 2) rfl))) rfl rfl rfl (by decide +kernel) ⟨Nat.le_of_ble_eq_true rfl, Nat.le_of_ble_eq_true rfl⟩) (pVE hE hS hFc hK hPc hDc 0 rfl rfl) rfl rfl hl.1 rfl (lv_room (Nat.le_of_ble_eq_true rfl)) dX0_joinedTo_2 ⟨Nat.le_of_ble_eq_true rfl, Nat.le_of_ble_eq_true rfl⟩) hS (fun q _ h => hFc q h) hFc (fun r_1 u t H_2 L_3 ht hvm hw hB hz1 hk1 hS => ?_)
  obtain ⟨hP1, -, hD1⟩ := hB
  rw [ht] at hP1
  obtain ⟨hP, hD⟩ := va_join (wr := [(ca2, .inl (cI, 30, .inl fc2))]) (w1 := [(h0, .inr (0, [.ref ca1, .ref ca2, .ref ca3, .ref ca4, .int (nI c)]))]) hP hD [0] [1] rfl rfl (by decide) (by decide) hk1 hFc hP1 hD1
  have hP : va_P D vwCl [(h0, .inr (0, [.ref ca1, .ref ca2, .ref ca3, .ref ca4, .int (nI c)])), (ca2, .inl (cI, 30, .inl fc2))] H_2 := hP.sub [1, 0] rfl
  have hD : va_D A [(h0, .inr (0, [.ref ca1, .ref ca2, .ref ca3, .ref ca4, .int (nI c)])), (ca2, .inl (cI, 30, .inl fc2))] := hD.sub [1, 0] (by decide) rfl
  try dsimp only at hw
  rcases hw with ⟨rfl, h_4⟩ | ⟨rfl, h_5, h_6⟩
  · refine lv_if_eq (tgt := 17) hx hb dX0_joinedTo_5 (by decide) (fun c_7 => ?_) (fun c_7 => ?_)
    · refine lv_iconst (v := (-1)) hx hb dX0_joinedTo_17 (by decide) ?_
      have hP9 := hP.sub (ws' := [(h0, .inr (0, [.ref ca1, .ref ca2, .ref ca3, .ref ca4, .int (nI c)])), (ca2, .inl (cI, 30, .inl fc2))]) [0, 1] rfl
      have hD9 := hD.sub (ws' := [(h0, .inr (0, [.ref ca1, .ref ca2, .ref ca3, .ref ca4, .int (nI c)])), (ca2, .inl (cI, 30, .inl fc2))]) [0, 1] (by decide) rfl
      exact W.iret (v := (-1)) hx hb hr (fun t ht hW => ⟨⟨(-1), (), rfl, trivial, ⟨by rw [ht]; exact hP9, va_K.moved hW.alike hK, hD9⟩⟩, hS.F ht⟩) hS.2.2 dX0_joinedTo_18
    · exact False.elim (by revert c_7; decide)
  · refine lv_if_eq (tgt := 17) hx hb dX0_joinedTo_5 (by decide) (fun c_8 => ?_) (fun c_8 => ?_)
    · exact False.elim (by revert c_8; decide)
    · refine lv_aload_n hx hb dX0_joinedTo_8 rfl (lv_at hl 0 rfl) ?_
      refine va_get (D := D) (ci := 0) (v := .ref ca2) (C := RX0) (T := TX0) (N := 5) hx hb hts hinX0 hown hK hP 0 rfl rfl 1 (by decide) (hts (.fieldLink RX0 15 "TaleReader$Cast" "joined" "[I") (uc5 _ (List.mem_of_getElem? (i := 13) rfl))) (fun _ h9 => h9) rfl dX0_joinedTo_9 ?_
      refine lv_iload_n hx hb dX0_joinedTo_12 rfl (lv_at hl 1 rfl) ?_
      refine va_iald (D := D) hx hb hK hP 1 1 rfl rfl (by first | assumption | exact pIxc (by assumption) (by assumption) (by omega) (by omega)) dX0_joinedTo_13 ?_
      refine lv_topi (fun v_9 ev_9 => ?_)
      refine lv_goto (tgt := 18) hx hb dX0_joinedTo_14 (by decide) ?_
      have hP9 := hP.sub (ws' := [(h0, .inr (0, [.ref ca1, .ref ca2, .ref ca3, .ref ca4, .int (nI c)])), (ca2, .inl (cI, 30, .inl fc2))]) [0, 1] rfl
      have hD9 := hD.sub (ws' := [(h0, .inr (0, [.ref ca1, .ref ca2, .ref ca3, .ref ca4, .int (nI c)])), (ca2, .inl (cI, 30, .inl fc2))]) [0, 1] (by decide) rfl
      exact W.iret (v := v_9) hx hb hr (fun t ht hW => ⟨⟨v_9, (), rfl, trivial, ⟨by rw [ht]; exact hP9, va_K.moved hW.alike hK, hD9⟩⟩, hS.F ht⟩) hS.2.2 dX0_joinedTo_18
set_option maxHeartbeats 4000000 in
set_option maxRecDepth 100000 in
theorem s_X0_sexOf (l : Launch) (D : va_G) (cB cI cZ : ClassId) (E : pEt) (sz : Nat) (h0 : Nat) (x : Int32) (ca1 : Nat) (ca2 : Nat) (ca3 : Nat) (ca4 : Nat) (c : Nat) (fc1 : Nat → Int32) (hc : c ≤ 30) : Met l yX0_sexOf (.code yX0_sexOf cX0_sexOf 2 (some .int) :: wsL_law) ({ frames := 1, cells := 0, slots := 0, locals := 21 } : Room) (va_Pc [.ref h0, .int x] (pInE E D (pT cB cI cZ) sz [(h0, .inr (0, [.ref ca1, .ref ca2, .ref ca3, .ref ca4, .int (nI c)])), (ca1, .inl (cI, 30, .inl fc1))])) (va_Qi (fun (r : Int32) (u : Unit) => True) (fun (u : Unit) (t : State) => pAt D (pT cB cI cZ) (va_A [(h0, .inr (0, [.ref ca1, .ref ca2, .ref ca3, .ref ca4, .int (nI c)])), (ca1, .inl (cI, 30, .inl fc1))] sz) [(h0, .inr (0, [.ref ca1, .ref ca2, .ref ca3, .ref ca4, .int (nI c)])), (ca1, .inl (cI, 30, .inl fc1))] t) (va_A [(h0, .inr (0, [.ref ca1, .ref ca2, .ref ca3, .ref ca4, .int (nI c)])), (ca1, .inl (cI, 30, .inl fc1))] sz)) 0 0 (va_A [(h0, .inr (0, [.ref ca1, .ref ca2, .ref ca3, .ref ca4, .int (nI c)])), (ca1, .inl (cI, 30, .inl fc1))] sz) := by
  refine Met.ofW (cc := cX0_sexOf) (maxL := 2) (ret := (some .int)) (by decide) rfl ?_
  intro p e s m args below meth cd s₁ B hml hv
  obtain ⟨rfl, hsz, hP, hK, hD0, hE⟩ := hv
  have hx := B.exec
  have hb := B.bytes
  have hr := B.returns
  have hts0 := atoms_spec (ws := .code yX0_sexOf cX0_sexOf 2 (some .int) :: wsL_law) B.pre
  have hts := fun (w : Cond) (h : w ∈ wsL_law) => hts0 w (List.mem_cons_of_mem _ h)
  have hown : s.vm.findClass RX0 = some m.cls := findClass_of_methodNamed B.named
  have hlocks := B.notSynchronized
  have hinX0 := inlX0
  subst hsz
  have hD := hD0.self (sz := s.heap.size)
  generalize hAe : va_A [(h0, .inr (0, [.ref ca1, .ref ca2, .ref ca3, .ref ca4, .int (nI c)])), (ca1, .inl (cI, 30, .inl fc1))] s.heap.size = A at hD hE ⊢
  have hA : ∀ q : Nat, s.heap.size ≤ q → A q := fun q h => by rw [← hAe]; exact Or.inr h
  have hS : va_S A s.heap s.heap [] := va_S.rf
  have hP : va_P D vwCl [(h0, .inr (0, [.ref ca1, .ref ca2, .ref ca3, .ref ca4, .int (nI c)])), (ca1, .inl (cI, 30, .inl fc1))] s.heap := hP
  have hl := lv_entry ([.ref h0, .int x]) (n := 2) (Nat.le_of_ble_eq_true rfl)
  rw [lg_entry_eq]
  generalize (lg_sl ([.ref h0, .int x]) ++ List.replicate (2 - (lg_sl ([.ref h0, .int x])).length) Slot.unset).toArray = ls at hl ⊢
  have hl : lv_has ls 2 [(0, .ref h0), (1, .int x)] := hl
  refine lv_aload_n hx hb dX0_sexOf_0 rfl (lv_at hl 0 rfl) ?_
  refine lv_iload_n hx hb dX0_sexOf_1 rfl (lv_at hl 1 rfl) ?_
  have hPc := hP.sub (ws' := [(h0, .inr (0, [.ref ca1, .ref ca2, .ref ca3, .ref ca4, .int (nI c)]))]) [0] rfl
  have hDc := hD.sub (ws' := [(h0, .inr (0, [.ref ca1, .ref ca2, .ref ca3, .ref ca4, .int (nI c)]))]) [0] (by decide) rfl
  have hFc := va_free (wc := [(h0, .inr (0, [.ref ca1, .ref ca2, .ref ca3, .ref ca4, .int (nI c)]))]) hD hS hA [0] rfl
  refine va_calli (va_runV (As := [.int x]) (rest := []) ⟨hx, hb, hml, hown, hts⟩ (s_X0_has l D cB cI cZ E s.heap.size h0 x ca1 ca2 ca3 ca4 (nI c)) (cwV 1 hts (uV (uc18 _ (List.mem_of_getElem? (i := 23) rfl)) (uc19 _ (List.mem_of_getElem? (i := 0) rfl)) (uc19 _ (List.mem_of_getElem? (i := 1) rfl)) (uc2 _ (List.mem_of_getElem? (i := 10) rfl)) (uc19 _ (List.mem_of_getElem? (i := 2) rfl))) rfl rfl rfl (by decide +kernel) ⟨Nat.le_of_ble_eq_true rfl, Nat.le_of_ble_eq_true rfl⟩) (pVE hE hS hFc hK hPc hDc 0 rfl rfl) rfl rfl hl.1 rfl (lv_room (Nat.le_of_ble_eq_true rfl)) dX0_sexOf_2 ⟨Nat.le_of_ble_eq_true rfl, Nat.le_of_ble_eq_true rfl⟩) hS (fun q _ h => hFc q h) hFc (fun r_1 u t H_2 L_3 ht hvm hw hB hz1 hk1 hS => ?_)
  obtain ⟨hP1, -, hD1⟩ := hB
  rw [ht] at hP1
  obtain ⟨hP, hD⟩ := va_join (wr := [(ca1, .inl (cI, 30, .inl fc1))]) (w1 := [(h0, .inr (0, [.ref ca1, .ref ca2, .ref ca3, .ref ca4, .int (nI c)]))]) hP hD [0] [1] rfl rfl (by decide) (by decide) hk1 hFc hP1 hD1
  have hP : va_P D vwCl [(h0, .inr (0, [.ref ca1, .ref ca2, .ref ca3, .ref ca4, .int (nI c)])), (ca1, .inl (cI, 30, .inl fc1))] H_2 := hP.sub [1, 0] rfl
  have hD : va_D A [(h0, .inr (0, [.ref ca1, .ref ca2, .ref ca3, .ref ca4, .int (nI c)])), (ca1, .inl (cI, 30, .inl fc1))] := hD.sub [1, 0] (by decide) rfl
  try dsimp only at hw
  rcases hw with ⟨rfl, h_4⟩ | ⟨rfl, h_5, h_6⟩
  · refine lv_if_eq (tgt := 17) hx hb dX0_sexOf_5 (by decide) (fun c_7 => ?_) (fun c_7 => ?_)
    · refine lv_iconst (v := 0) hx hb dX0_sexOf_17 (by decide) ?_
      have hP9 := hP.sub (ws' := [(h0, .inr (0, [.ref ca1, .ref ca2, .ref ca3, .ref ca4, .int (nI c)])), (ca1, .inl (cI, 30, .inl fc1))]) [0, 1] rfl
      have hD9 := hD.sub (ws' := [(h0, .inr (0, [.ref ca1, .ref ca2, .ref ca3, .ref ca4, .int (nI c)])), (ca1, .inl (cI, 30, .inl fc1))]) [0, 1] (by decide) rfl
      exact W.iret (v := 0) hx hb hr (fun t ht hW => ⟨⟨0, (), rfl, trivial, ⟨by rw [ht]; exact hP9, va_K.moved hW.alike hK, hD9⟩⟩, hS.F ht⟩) hS.2.2 dX0_sexOf_18
    · exact False.elim (by revert c_7; decide)
  · refine lv_if_eq (tgt := 17) hx hb dX0_sexOf_5 (by decide) (fun c_8 => ?_) (fun c_8 => ?_)
    · exact False.elim (by revert c_8; decide)
    · refine lv_aload_n hx hb dX0_sexOf_8 rfl (lv_at hl 0 rfl) ?_
      refine va_get (D := D) (ci := 0) (v := .ref ca1) (C := RX0) (T := TX0) (N := 5) hx hb hts hinX0 hown hK hP 0 rfl rfl 0 (by decide) (hts (.fieldLink RX0 9 "TaleReader$Cast" "sexes" "[I") (uc5 _ (List.mem_of_getElem? (i := 12) rfl))) (fun _ h9 => h9) rfl dX0_sexOf_9 ?_
      refine lv_iload_n hx hb dX0_sexOf_12 rfl (lv_at hl 1 rfl) ?_
      refine va_iald (D := D) hx hb hK hP 1 1 rfl rfl (by first | assumption | exact pIxc (by assumption) (by assumption) (by omega) (by omega)) dX0_sexOf_13 ?_
      refine lv_topi (fun v_9 ev_9 => ?_)
      refine lv_goto (tgt := 18) hx hb dX0_sexOf_14 (by decide) ?_
      have hP9 := hP.sub (ws' := [(h0, .inr (0, [.ref ca1, .ref ca2, .ref ca3, .ref ca4, .int (nI c)])), (ca1, .inl (cI, 30, .inl fc1))]) [0, 1] rfl
      have hD9 := hD.sub (ws' := [(h0, .inr (0, [.ref ca1, .ref ca2, .ref ca3, .ref ca4, .int (nI c)])), (ca1, .inl (cI, 30, .inl fc1))]) [0, 1] (by decide) rfl
      exact W.iret (v := v_9) hx hb hr (fun t ht hW => ⟨⟨v_9, (), rfl, trivial, ⟨by rw [ht]; exact hP9, va_K.moved hW.alike hK, hD9⟩⟩, hS.F ht⟩) hS.2.2 dX0_sexOf_18
set_option maxHeartbeats 4000000 in
set_option maxRecDepth 100000 in
theorem s_X0_membersOf (l : Launch) (D : va_G) (cB cI cZ : ClassId) (E : pEt) (sz : Nat) (h0 : Nat) (x : Int32) (ca1 : Nat) (ca2 : Nat) (ca3 : Nat) (ca4 : Nat) (c : Nat) (fc3 : Nat → Int32) (hc : c ≤ 30) : Met l yX0_membersOf (.code yX0_membersOf cX0_membersOf 2 (some .int) :: wsL_law) ({ frames := 1, cells := 0, slots := 0, locals := 21 } : Room) (va_Pc [.ref h0, .int x] (pInE E D (pT cB cI cZ) sz [(h0, .inr (0, [.ref ca1, .ref ca2, .ref ca3, .ref ca4, .int (nI c)])), (ca3, .inl (cI, 30, .inl fc3))])) (va_Qi (fun (r : Int32) (u : Unit) => True) (fun (u : Unit) (t : State) => pAt D (pT cB cI cZ) (va_A [(h0, .inr (0, [.ref ca1, .ref ca2, .ref ca3, .ref ca4, .int (nI c)])), (ca3, .inl (cI, 30, .inl fc3))] sz) [(h0, .inr (0, [.ref ca1, .ref ca2, .ref ca3, .ref ca4, .int (nI c)])), (ca3, .inl (cI, 30, .inl fc3))] t) (va_A [(h0, .inr (0, [.ref ca1, .ref ca2, .ref ca3, .ref ca4, .int (nI c)])), (ca3, .inl (cI, 30, .inl fc3))] sz)) 0 0 (va_A [(h0, .inr (0, [.ref ca1, .ref ca2, .ref ca3, .ref ca4, .int (nI c)])), (ca3, .inl (cI, 30, .inl fc3))] sz) := by
  refine Met.ofW (cc := cX0_membersOf) (maxL := 2) (ret := (some .int)) (by decide) rfl ?_
  intro p e s m args below meth cd s₁ B hml hv
  obtain ⟨rfl, hsz, hP, hK, hD0, hE⟩ := hv
  have hx := B.exec
  have hb := B.bytes
  have hr := B.returns
  have hts0 := atoms_spec (ws := .code yX0_membersOf cX0_membersOf 2 (some .int) :: wsL_law) B.pre
  have hts := fun (w : Cond) (h : w ∈ wsL_law) => hts0 w (List.mem_cons_of_mem _ h)
  have hown : s.vm.findClass RX0 = some m.cls := findClass_of_methodNamed B.named
  have hlocks := B.notSynchronized
  have hinX0 := inlX0
  subst hsz
  have hD := hD0.self (sz := s.heap.size)
  generalize hAe : va_A [(h0, .inr (0, [.ref ca1, .ref ca2, .ref ca3, .ref ca4, .int (nI c)])), (ca3, .inl (cI, 30, .inl fc3))] s.heap.size = A at hD hE ⊢
  have hA : ∀ q : Nat, s.heap.size ≤ q → A q := fun q h => by rw [← hAe]; exact Or.inr h
  have hS : va_S A s.heap s.heap [] := va_S.rf
  have hP : va_P D vwCl [(h0, .inr (0, [.ref ca1, .ref ca2, .ref ca3, .ref ca4, .int (nI c)])), (ca3, .inl (cI, 30, .inl fc3))] s.heap := hP
  have hl := lv_entry ([.ref h0, .int x]) (n := 2) (Nat.le_of_ble_eq_true rfl)
  rw [lg_entry_eq]
  generalize (lg_sl ([.ref h0, .int x]) ++ List.replicate (2 - (lg_sl ([.ref h0, .int x])).length) Slot.unset).toArray = ls at hl ⊢
  have hl : lv_has ls 2 [(0, .ref h0), (1, .int x)] := hl
  refine lv_aload_n hx hb dX0_membersOf_0 rfl (lv_at hl 0 rfl) ?_
  refine lv_iload_n hx hb dX0_membersOf_1 rfl (lv_at hl 1 rfl) ?_
  have hPc := hP.sub (ws' := [(h0, .inr (0, [.ref ca1, .ref ca2, .ref ca3, .ref ca4, .int (nI c)]))]) [0] rfl
  have hDc := hD.sub (ws' := [(h0, .inr (0, [.ref ca1, .ref ca2, .ref ca3, .ref ca4, .int (nI c)]))]) [0] (by decide) rfl
  have hFc := va_free (wc := [(h0, .inr (0, [.ref ca1, .ref ca2, .ref ca3, .ref ca4, .int (nI c)]))]) hD hS hA [0] rfl
  refine va_calli (va_runV (As := [.int x]) (rest := []) ⟨hx, hb, hml, hown, hts⟩ (s_X0_has l D cB cI cZ E s.heap.size h0 x ca1 ca2 ca3 ca4 (nI c)) (cwV 1 hts (uV (uc18 _ (List.mem_of_getElem? (i := 23) rfl)) (uc19 _ (List.mem_of_getElem? (i := 0) rfl)) (uc19 _ (List.mem_of_getElem? (i := 1) rfl)) (uc2 _ (List.mem_of_getElem? (i := 10) rfl)) (uc19 _ (List.mem_of_getElem? (i := 2) rfl))) rfl rfl rfl (by decide +kernel) ⟨Nat.le_of_ble_eq_true rfl, Nat.le_of_ble_eq_true rfl⟩) (pVE hE hS hFc hK hPc hDc 0 rfl rfl) rfl rfl hl.1 rfl (lv_room (Nat.le_of_ble_eq_true rfl)) dX0_membersOf_2 ⟨Nat.le_of_ble_eq_true rfl, Nat.le_of_ble_eq_true rfl⟩) hS (fun q _ h => hFc q h) hFc (fun r_1 u t H_2 L_3 ht hvm hw hB hz1 hk1 hS => ?_)
  obtain ⟨hP1, -, hD1⟩ := hB
  rw [ht] at hP1
  obtain ⟨hP, hD⟩ := va_join (wr := [(ca3, .inl (cI, 30, .inl fc3))]) (w1 := [(h0, .inr (0, [.ref ca1, .ref ca2, .ref ca3, .ref ca4, .int (nI c)]))]) hP hD [0] [1] rfl rfl (by decide) (by decide) hk1 hFc hP1 hD1
  have hP : va_P D vwCl [(h0, .inr (0, [.ref ca1, .ref ca2, .ref ca3, .ref ca4, .int (nI c)])), (ca3, .inl (cI, 30, .inl fc3))] H_2 := hP.sub [1, 0] rfl
  have hD : va_D A [(h0, .inr (0, [.ref ca1, .ref ca2, .ref ca3, .ref ca4, .int (nI c)])), (ca3, .inl (cI, 30, .inl fc3))] := hD.sub [1, 0] (by decide) rfl
  try dsimp only at hw
  rcases hw with ⟨rfl, h_4⟩ | ⟨rfl, h_5, h_6⟩
  · refine lv_if_eq (tgt := 17) hx hb dX0_membersOf_5 (by decide) (fun c_7 => ?_) (fun c_7 => ?_)
    · refine lv_iconst (v := 0) hx hb dX0_membersOf_17 (by decide) ?_
      have hP9 := hP.sub (ws' := [(h0, .inr (0, [.ref ca1, .ref ca2, .ref ca3, .ref ca4, .int (nI c)])), (ca3, .inl (cI, 30, .inl fc3))]) [0, 1] rfl
      have hD9 := hD.sub (ws' := [(h0, .inr (0, [.ref ca1, .ref ca2, .ref ca3, .ref ca4, .int (nI c)])), (ca3, .inl (cI, 30, .inl fc3))]) [0, 1] (by decide) rfl
      exact W.iret (v := 0) hx hb hr (fun t ht hW => ⟨⟨0, (), rfl, trivial, ⟨by rw [ht]; exact hP9, va_K.moved hW.alike hK, hD9⟩⟩, hS.F ht⟩) hS.2.2 dX0_membersOf_18
    · exact False.elim (by revert c_7; decide)
  · refine lv_if_eq (tgt := 17) hx hb dX0_membersOf_5 (by decide) (fun c_8 => ?_) (fun c_8 => ?_)
    · exact False.elim (by revert c_8; decide)
    · refine lv_aload_n hx hb dX0_membersOf_8 rfl (lv_at hl 0 rfl) ?_
      refine va_get (D := D) (ci := 0) (v := .ref ca3) (C := RX0) (T := TX0) (N := 5) hx hb hts hinX0 hown hK hP 0 rfl rfl 2 (by decide) (hts (.fieldLink RX0 18 "TaleReader$Cast" "members" "[I") (uc5 _ (List.mem_of_getElem? (i := 14) rfl))) (fun _ h9 => h9) rfl dX0_membersOf_9 ?_
      refine lv_iload_n hx hb dX0_membersOf_12 rfl (lv_at hl 1 rfl) ?_
      refine va_iald (D := D) hx hb hK hP 1 1 rfl rfl (by first | assumption | exact pIxc (by assumption) (by assumption) (by omega) (by omega)) dX0_membersOf_13 ?_
      refine lv_topi (fun v_9 ev_9 => ?_)
      refine lv_goto (tgt := 18) hx hb dX0_membersOf_14 (by decide) ?_
      have hP9 := hP.sub (ws' := [(h0, .inr (0, [.ref ca1, .ref ca2, .ref ca3, .ref ca4, .int (nI c)])), (ca3, .inl (cI, 30, .inl fc3))]) [0, 1] rfl
      have hD9 := hD.sub (ws' := [(h0, .inr (0, [.ref ca1, .ref ca2, .ref ca3, .ref ca4, .int (nI c)])), (ca3, .inl (cI, 30, .inl fc3))]) [0, 1] (by decide) rfl
      exact W.iret (v := v_9) hx hb hr (fun t ht hW => ⟨⟨v_9, (), rfl, trivial, ⟨by rw [ht]; exact hP9, va_K.moved hW.alike hK, hD9⟩⟩, hS.F ht⟩) hS.2.2 dX0_membersOf_18
set_option maxHeartbeats 4000000 in
set_option maxRecDepth 100000 in
theorem s_X0_lastMentionOf (l : Launch) (D : va_G) (cB cI cZ : ClassId) (E : pEt) (sz : Nat) (h0 : Nat) (x : Int32) (ca1 : Nat) (ca2 : Nat) (ca3 : Nat) (ca4 : Nat) (c : Nat) (fc4 : Nat → Int32) (hc : c ≤ 30) : Met l yX0_lastMentionOf (.code yX0_lastMentionOf cX0_lastMentionOf 2 (some .int) :: wsL_law) ({ frames := 1, cells := 0, slots := 0, locals := 21 } : Room) (va_Pc [.ref h0, .int x] (pInE E D (pT cB cI cZ) sz [(h0, .inr (0, [.ref ca1, .ref ca2, .ref ca3, .ref ca4, .int (nI c)])), (ca4, .inl (cI, 30, .inl fc4))])) (va_Qi (fun (r : Int32) (u : Unit) => True) (fun (u : Unit) (t : State) => pAt D (pT cB cI cZ) (va_A [(h0, .inr (0, [.ref ca1, .ref ca2, .ref ca3, .ref ca4, .int (nI c)])), (ca4, .inl (cI, 30, .inl fc4))] sz) [(h0, .inr (0, [.ref ca1, .ref ca2, .ref ca3, .ref ca4, .int (nI c)])), (ca4, .inl (cI, 30, .inl fc4))] t) (va_A [(h0, .inr (0, [.ref ca1, .ref ca2, .ref ca3, .ref ca4, .int (nI c)])), (ca4, .inl (cI, 30, .inl fc4))] sz)) 0 0 (va_A [(h0, .inr (0, [.ref ca1, .ref ca2, .ref ca3, .ref ca4, .int (nI c)])), (ca4, .inl (cI, 30, .inl fc4))] sz) := by
  refine Met.ofW (cc := cX0_lastMentionOf) (maxL := 2) (ret := (some .int)) (by decide) rfl ?_
  intro p e s m args below meth cd s₁ B hml hv
  obtain ⟨rfl, hsz, hP, hK, hD0, hE⟩ := hv
  have hx := B.exec
  have hb := B.bytes
  have hr := B.returns
  have hts0 := atoms_spec (ws := .code yX0_lastMentionOf cX0_lastMentionOf 2 (some .int) :: wsL_law) B.pre
  have hts := fun (w : Cond) (h : w ∈ wsL_law) => hts0 w (List.mem_cons_of_mem _ h)
  have hown : s.vm.findClass RX0 = some m.cls := findClass_of_methodNamed B.named
  have hlocks := B.notSynchronized
  have hinX0 := inlX0
  subst hsz
  have hD := hD0.self (sz := s.heap.size)
  generalize hAe : va_A [(h0, .inr (0, [.ref ca1, .ref ca2, .ref ca3, .ref ca4, .int (nI c)])), (ca4, .inl (cI, 30, .inl fc4))] s.heap.size = A at hD hE ⊢
  have hA : ∀ q : Nat, s.heap.size ≤ q → A q := fun q h => by rw [← hAe]; exact Or.inr h
  have hS : va_S A s.heap s.heap [] := va_S.rf
  have hP : va_P D vwCl [(h0, .inr (0, [.ref ca1, .ref ca2, .ref ca3, .ref ca4, .int (nI c)])), (ca4, .inl (cI, 30, .inl fc4))] s.heap := hP
  have hl := lv_entry ([.ref h0, .int x]) (n := 2) (Nat.le_of_ble_eq_true rfl)
  rw [lg_entry_eq]
  generalize (lg_sl ([.ref h0, .int x]) ++ List.replicate (2 - (lg_sl ([.ref h0, .int x])).length) Slot.unset).toArray = ls at hl ⊢
  have hl : lv_has ls 2 [(0, .ref h0), (1, .int x)] := hl
  refine lv_aload_n hx hb dX0_lastMentionOf_0 rfl (lv_at hl 0 rfl) ?_
  refine lv_iload_n hx hb dX0_lastMentionOf_1 rfl (lv_at hl 1 rfl) ?_
  have hPc := hP.sub (ws' := [(h0, .inr (0, [.ref ca1, .ref ca2, .ref ca3, .ref ca4, .int (nI c)]))]) [0] rfl
  have hDc := hD.sub (ws' := [(h0, .inr (0, [.ref ca1, .ref ca2, .ref ca3, .ref ca4, .int (nI c)]))]) [0] (by decide) rfl
  have hFc := va_free (wc := [(h0, .inr (0, [.ref ca1, .ref ca2, .ref ca3, .ref ca4, .int (nI c)]))]) hD hS hA [0] rfl
  refine va_calli (va_runV (As := [.int x]) (rest := []) ⟨hx, hb, hml, hown, hts⟩ (s_X0_has l D cB cI cZ E s.heap.size h0 x ca1 ca2 ca3 ca4 (nI c)) (cwV 1 hts (uV (uc18 _ (List.mem_of_getElem? (i := 23) rfl)) (uc19 _ (List.mem_of_getElem? (i := 0) rfl)) (uc19 _ (List.mem_of_getElem? (i := 1) rfl)) (uc2 _ (List.mem_of_getElem? (i := 10) rfl)) (uc19 _ (List.mem_of_getElem? (i := 2) rfl))) rfl rfl rfl (by decide +kernel) ⟨Nat.le_of_ble_eq_true rfl, Nat.le_of_ble_eq_true rfl⟩) (pVE hE hS hFc hK hPc hDc 0 rfl rfl) rfl rfl hl.1 rfl (lv_room (Nat.le_of_ble_eq_true rfl)) dX0_lastMentionOf_2 ⟨Nat.le_of_ble_eq_true rfl, Nat.le_of_ble_eq_true rfl⟩) hS (fun q _ h => hFc q h) hFc (fun r_1 u t H_2 L_3 ht hvm hw hB hz1 hk1 hS => ?_)
  obtain ⟨hP1, -, hD1⟩ := hB
  rw [ht] at hP1
  obtain ⟨hP, hD⟩ := va_join (wr := [(ca4, .inl (cI, 30, .inl fc4))]) (w1 := [(h0, .inr (0, [.ref ca1, .ref ca2, .ref ca3, .ref ca4, .int (nI c)]))]) hP hD [0] [1] rfl rfl (by decide) (by decide) hk1 hFc hP1 hD1
  have hP : va_P D vwCl [(h0, .inr (0, [.ref ca1, .ref ca2, .ref ca3, .ref ca4, .int (nI c)])), (ca4, .inl (cI, 30, .inl fc4))] H_2 := hP.sub [1, 0] rfl
  have hD : va_D A [(h0, .inr (0, [.ref ca1, .ref ca2, .ref ca3, .ref ca4, .int (nI c)])), (ca4, .inl (cI, 30, .inl fc4))] := hD.sub [1, 0] (by decide) rfl
  try dsimp only at hw
  rcases hw with ⟨rfl, h_4⟩ | ⟨rfl, h_5, h_6⟩
  · refine lv_if_eq (tgt := 17) hx hb dX0_lastMentionOf_5 (by decide) (fun c_7 => ?_) (fun c_7 => ?_)
    · refine lv_iconst (v := (-1)) hx hb dX0_lastMentionOf_17 (by decide) ?_
      have hP9 := hP.sub (ws' := [(h0, .inr (0, [.ref ca1, .ref ca2, .ref ca3, .ref ca4, .int (nI c)])), (ca4, .inl (cI, 30, .inl fc4))]) [0, 1] rfl
      have hD9 := hD.sub (ws' := [(h0, .inr (0, [.ref ca1, .ref ca2, .ref ca3, .ref ca4, .int (nI c)])), (ca4, .inl (cI, 30, .inl fc4))]) [0, 1] (by decide) rfl
      exact W.iret (v := (-1)) hx hb hr (fun t ht hW => ⟨⟨(-1), (), rfl, trivial, ⟨by rw [ht]; exact hP9, va_K.moved hW.alike hK, hD9⟩⟩, hS.F ht⟩) hS.2.2 dX0_lastMentionOf_18
    · exact False.elim (by revert c_7; decide)
  · refine lv_if_eq (tgt := 17) hx hb dX0_lastMentionOf_5 (by decide) (fun c_8 => ?_) (fun c_8 => ?_)
    · exact False.elim (by revert c_8; decide)
    · refine lv_aload_n hx hb dX0_lastMentionOf_8 rfl (lv_at hl 0 rfl) ?_
      refine va_get (D := D) (ci := 0) (v := .ref ca4) (C := RX0) (T := TX0) (N := 5) hx hb hts hinX0 hown hK hP 0 rfl rfl 3 (by decide) (hts (.fieldLink RX0 21 "TaleReader$Cast" "lastMentions" "[I") (uc5 _ (List.mem_of_getElem? (i := 15) rfl))) (fun _ h9 => h9) rfl dX0_lastMentionOf_9 ?_
      refine lv_iload_n hx hb dX0_lastMentionOf_12 rfl (lv_at hl 1 rfl) ?_
      refine va_iald (D := D) hx hb hK hP 1 1 rfl rfl (by first | assumption | exact pIxc (by assumption) (by assumption) (by omega) (by omega)) dX0_lastMentionOf_13 ?_
      refine lv_topi (fun v_9 ev_9 => ?_)
      refine lv_goto (tgt := 18) hx hb dX0_lastMentionOf_14 (by decide) ?_
      have hP9 := hP.sub (ws' := [(h0, .inr (0, [.ref ca1, .ref ca2, .ref ca3, .ref ca4, .int (nI c)])), (ca4, .inl (cI, 30, .inl fc4))]) [0, 1] rfl
      have hD9 := hD.sub (ws' := [(h0, .inr (0, [.ref ca1, .ref ca2, .ref ca3, .ref ca4, .int (nI c)])), (ca4, .inl (cI, 30, .inl fc4))]) [0, 1] (by decide) rfl
      exact W.iret (v := v_9) hx hb hr (fun t ht hW => ⟨⟨v_9, (), rfl, trivial, ⟨by rw [ht]; exact hP9, va_K.moved hW.alike hK, hD9⟩⟩, hS.F ht⟩) hS.2.2 dX0_lastMentionOf_18
set_option maxHeartbeats 4000000 in
set_option maxRecDepth 100000 in
theorem s_X0_stands (l : Launch) (D : va_G) (cB cI cZ : ClassId) (E : pEt) (sz : Nat) (h0 : Nat) (x : Int32) (ca1 : Nat) (ca2 : Nat) (ca3 : Nat) (ca4 : Nat) (c : Nat) (fc2 : Nat → Int32) (hc : c ≤ 30) : Met l yX0_stands (.code yX0_stands cX0_stands 2 (some .boolean) :: wsL_law) ({ frames := 1, cells := 0, slots := 0, locals := 21 } : Room) (va_Pc [.ref h0, .int x] (pInE E D (pT cB cI cZ) sz [(h0, .inr (0, [.ref ca1, .ref ca2, .ref ca3, .ref ca4, .int (nI c)])), (ca2, .inl (cI, 30, .inl fc2))])) (va_Qi (fun (r : Int32) (u : Unit) => (0 = r) ∨ ((1 = r) ∧ (¬ x < 0) ∧ (¬ nI c ≤ x))) (fun (u : Unit) (t : State) => pAt D (pT cB cI cZ) (va_A [(h0, .inr (0, [.ref ca1, .ref ca2, .ref ca3, .ref ca4, .int (nI c)])), (ca2, .inl (cI, 30, .inl fc2))] sz) [(h0, .inr (0, [.ref ca1, .ref ca2, .ref ca3, .ref ca4, .int (nI c)])), (ca2, .inl (cI, 30, .inl fc2))] t) (va_A [(h0, .inr (0, [.ref ca1, .ref ca2, .ref ca3, .ref ca4, .int (nI c)])), (ca2, .inl (cI, 30, .inl fc2))] sz)) 0 0 (va_A [(h0, .inr (0, [.ref ca1, .ref ca2, .ref ca3, .ref ca4, .int (nI c)])), (ca2, .inl (cI, 30, .inl fc2))] sz) := by
  refine Met.ofW (cc := cX0_stands) (maxL := 2) (ret := (some .boolean)) (by decide) rfl ?_
  intro p e s m args below meth cd s₁ B hml hv
  obtain ⟨rfl, hsz, hP, hK, hD0, hE⟩ := hv
  have hx := B.exec
  have hb := B.bytes
  have hr := B.returns
  have hts0 := atoms_spec (ws := .code yX0_stands cX0_stands 2 (some .boolean) :: wsL_law) B.pre
  have hts := fun (w : Cond) (h : w ∈ wsL_law) => hts0 w (List.mem_cons_of_mem _ h)
  have hown : s.vm.findClass RX0 = some m.cls := findClass_of_methodNamed B.named
  have hlocks := B.notSynchronized
  have hinX0 := inlX0
  subst hsz
  have hD := hD0.self (sz := s.heap.size)
  generalize hAe : va_A [(h0, .inr (0, [.ref ca1, .ref ca2, .ref ca3, .ref ca4, .int (nI c)])), (ca2, .inl (cI, 30, .inl fc2))] s.heap.size = A at hD hE ⊢
  have hA : ∀ q : Nat, s.heap.size ≤ q → A q := fun q h => by rw [← hAe]; exact Or.inr h
  have hS : va_S A s.heap s.heap [] := va_S.rf
  have hP : va_P D vwCl [(h0, .inr (0, [.ref ca1, .ref ca2, .ref ca3, .ref ca4, .int (nI c)])), (ca2, .inl (cI, 30, .inl fc2))] s.heap := hP
  have hl := lv_entry ([.ref h0, .int x]) (n := 2) (Nat.le_of_ble_eq_true rfl)
  rw [lg_entry_eq]
  generalize (lg_sl ([.ref h0, .int x]) ++ List.replicate (2 - (lg_sl ([.ref h0, .int x])).length) Slot.unset).toArray = ls at hl ⊢
  have hl : lv_has ls 2 [(0, .ref h0), (1, .int x)] := hl
  refine lv_aload_n hx hb dX0_stands_0 rfl (lv_at hl 0 rfl) ?_
  refine lv_iload_n hx hb dX0_stands_1 rfl (lv_at hl 1 rfl) ?_
  have hPc := hP.sub (ws' := [(h0, .inr (0, [.ref ca1, .ref ca2, .ref ca3, .ref ca4, .int (nI c)]))]) [0] rfl
  have hDc := hD.sub (ws' := [(h0, .inr (0, [.ref ca1, .ref ca2, .ref ca3, .ref ca4, .int (nI c)]))]) [0] (by decide) rfl
  have hFc := va_free (wc := [(h0, .inr (0, [.ref ca1, .ref ca2, .ref ca3, .ref ca4, .int (nI c)]))]) hD hS hA [0] rfl
  refine va_calli (va_runV (As := [.int x]) (rest := []) ⟨hx, hb, hml, hown, hts⟩ (s_X0_has l D cB cI cZ E s.heap.size h0 x ca1 ca2 ca3 ca4 (nI c)) (cwV 1 hts (uV (uc18 _ (List.mem_of_getElem? (i := 23) rfl)) (uc19 _ (List.mem_of_getElem? (i := 0) rfl)) (uc19 _ (List.mem_of_getElem? (i := 1) rfl)) (uc2 _ (List.mem_of_getElem? (i := 10) rfl)) (uc19 _ (List.mem_of_getElem? (i := 2) rfl))) rfl rfl rfl (by decide +kernel) ⟨Nat.le_of_ble_eq_true rfl, Nat.le_of_ble_eq_true rfl⟩) (pVE hE hS hFc hK hPc hDc 0 rfl rfl) rfl rfl hl.1 rfl (lv_room (Nat.le_of_ble_eq_true rfl)) dX0_stands_2 ⟨Nat.le_of_ble_eq_true rfl, Nat.le_of_ble_eq_true rfl⟩) hS (fun q _ h => hFc q h) hFc (fun r_1 u t H_2 L_3 ht hvm hw hB hz1 hk1 hS => ?_)
  obtain ⟨hP1, -, hD1⟩ := hB
  rw [ht] at hP1
  obtain ⟨hP, hD⟩ := va_join (wr := [(ca2, .inl (cI, 30, .inl fc2))]) (w1 := [(h0, .inr (0, [.ref ca1, .ref ca2, .ref ca3, .ref ca4, .int (nI c)]))]) hP hD [0] [1] rfl rfl (by decide) (by decide) hk1 hFc hP1 hD1
  have hP : va_P D vwCl [(h0, .inr (0, [.ref ca1, .ref ca2, .ref ca3, .ref ca4, .int (nI c)])), (ca2, .inl (cI, 30, .inl fc2))] H_2 := hP.sub [1, 0] rfl
  have hD : va_D A [(h0, .inr (0, [.ref ca1, .ref ca2, .ref ca3, .ref ca4, .int (nI c)])), (ca2, .inl (cI, 30, .inl fc2))] := hD.sub [1, 0] (by decide) rfl
  try dsimp only at hw
  rcases hw with ⟨rfl, h_4⟩ | ⟨rfl, h_5, h_6⟩
  · refine lv_if_eq (tgt := 22) hx hb dX0_stands_5 (by decide) (fun c_7 => ?_) (fun c_7 => ?_)
    · refine lv_iconst (v := 0) hx hb dX0_stands_22 (by decide) ?_
      have hP9 := hP.sub (ws' := [(h0, .inr (0, [.ref ca1, .ref ca2, .ref ca3, .ref ca4, .int (nI c)])), (ca2, .inl (cI, 30, .inl fc2))]) [0, 1] rfl
      have hD9 := hD.sub (ws' := [(h0, .inr (0, [.ref ca1, .ref ca2, .ref ca3, .ref ca4, .int (nI c)])), (ca2, .inl (cI, 30, .inl fc2))]) [0, 1] (by decide) rfl
      exact W.zret (v := 0) hx hb hr (rfl) (fun t ht hW => ⟨⟨0, (), rfl, Or.inl (rfl), ⟨by rw [ht]; exact hP9, va_K.moved hW.alike hK, hD9⟩⟩, hS.F ht⟩) hS.2.2 dX0_stands_23
    · exact False.elim (by revert c_7; decide)
  · refine lv_if_eq (tgt := 22) hx hb dX0_stands_5 (by decide) (fun c_8 => ?_) (fun c_8 => ?_)
    · exact False.elim (by revert c_8; decide)
    · refine lv_aload_n hx hb dX0_stands_8 rfl (lv_at hl 0 rfl) ?_
      refine va_get (D := D) (ci := 0) (v := .ref ca2) (C := RX0) (T := TX0) (N := 5) hx hb hts hinX0 hown hK hP 0 rfl rfl 1 (by decide) (hts (.fieldLink RX0 15 "TaleReader$Cast" "joined" "[I") (uc5 _ (List.mem_of_getElem? (i := 13) rfl))) (fun _ h9 => h9) rfl dX0_stands_9 ?_
      refine lv_iload_n hx hb dX0_stands_12 rfl (lv_at hl 1 rfl) ?_
      refine va_iald (D := D) hx hb hK hP 1 1 rfl rfl (by first | assumption | exact pIxc (by assumption) (by assumption) (by omega) (by omega)) dX0_stands_13 ?_
      refine lv_topi (fun v_9 ev_9 => ?_)
      refine lv_iconst (v := (-1)) hx hb dX0_stands_14 (by decide) ?_
      refine lv_icmp_ne (tgt := 22) hx hb dX0_stands_15 (by decide) (fun c_10 => ?_) (fun c_10 => ?_)
      · refine lv_iconst (v := 0) hx hb dX0_stands_22 (by decide) ?_
        have hP9 := hP.sub (ws' := [(h0, .inr (0, [.ref ca1, .ref ca2, .ref ca3, .ref ca4, .int (nI c)])), (ca2, .inl (cI, 30, .inl fc2))]) [0, 1] rfl
        have hD9 := hD.sub (ws' := [(h0, .inr (0, [.ref ca1, .ref ca2, .ref ca3, .ref ca4, .int (nI c)])), (ca2, .inl (cI, 30, .inl fc2))]) [0, 1] (by decide) rfl
        exact W.zret (v := 0) hx hb hr (rfl) (fun t ht hW => ⟨⟨0, (), rfl, Or.inl (rfl), ⟨by rw [ht]; exact hP9, va_K.moved hW.alike hK, hD9⟩⟩, hS.F ht⟩) hS.2.2 dX0_stands_23
      · refine lv_iconst (v := 1) hx hb dX0_stands_18 (by decide) ?_
        refine lv_goto (tgt := 23) hx hb dX0_stands_19 (by decide) ?_
        have hP9 := hP.sub (ws' := [(h0, .inr (0, [.ref ca1, .ref ca2, .ref ca3, .ref ca4, .int (nI c)])), (ca2, .inl (cI, 30, .inl fc2))]) [0, 1] rfl
        have hD9 := hD.sub (ws' := [(h0, .inr (0, [.ref ca1, .ref ca2, .ref ca3, .ref ca4, .int (nI c)])), (ca2, .inl (cI, 30, .inl fc2))]) [0, 1] (by decide) rfl
        exact W.zret (v := 1) hx hb hr (rfl) (fun t ht hW => ⟨⟨1, (), rfl, Or.inr ((⟨rfl, by first | assumption | rfl | omega, by first | assumption | rfl | omega⟩)), ⟨by rw [ht]; exact hP9, va_K.moved hW.alike hK, hD9⟩⟩, hS.F ht⟩) hS.2.2 dX0_stands_23
set_option maxHeartbeats 4000000 in
set_option maxRecDepth 100000 in
theorem s_X0_isGroup (l : Launch) (D : va_G) (cB cI cZ : ClassId) (E : pEt) (sz : Nat) (h0 : Nat) (x : Int32) (ca1 : Nat) (ca2 : Nat) (ca3 : Nat) (ca4 : Nat) (c : Nat) (fc1 : Nat → Int32) (hc : c ≤ 30) : Met l yX0_isGroup (.code yX0_isGroup cX0_isGroup 2 (some .boolean) :: wsL_law) ({ frames := 1, cells := 0, slots := 0, locals := 21 } : Room) (va_Pc [.ref h0, .int x] (pInE E D (pT cB cI cZ) sz [(h0, .inr (0, [.ref ca1, .ref ca2, .ref ca3, .ref ca4, .int (nI c)])), (ca1, .inl (cI, 30, .inl fc1))])) (va_Qi (fun (r : Int32) (u : Unit) => True) (fun (u : Unit) (t : State) => pAt D (pT cB cI cZ) (va_A [(h0, .inr (0, [.ref ca1, .ref ca2, .ref ca3, .ref ca4, .int (nI c)])), (ca1, .inl (cI, 30, .inl fc1))] sz) [(h0, .inr (0, [.ref ca1, .ref ca2, .ref ca3, .ref ca4, .int (nI c)])), (ca1, .inl (cI, 30, .inl fc1))] t) (va_A [(h0, .inr (0, [.ref ca1, .ref ca2, .ref ca3, .ref ca4, .int (nI c)])), (ca1, .inl (cI, 30, .inl fc1))] sz)) 0 0 (va_A [(h0, .inr (0, [.ref ca1, .ref ca2, .ref ca3, .ref ca4, .int (nI c)])), (ca1, .inl (cI, 30, .inl fc1))] sz) := by
  refine Met.ofW (cc := cX0_isGroup) (maxL := 2) (ret := (some .boolean)) (by decide) rfl ?_
  intro p e s m args below meth cd s₁ B hml hv
  obtain ⟨rfl, hsz, hP, hK, hD0, hE⟩ := hv
  have hx := B.exec
  have hb := B.bytes
  have hr := B.returns
  have hts0 := atoms_spec (ws := .code yX0_isGroup cX0_isGroup 2 (some .boolean) :: wsL_law) B.pre
  have hts := fun (w : Cond) (h : w ∈ wsL_law) => hts0 w (List.mem_cons_of_mem _ h)
  have hown : s.vm.findClass RX0 = some m.cls := findClass_of_methodNamed B.named
  have hlocks := B.notSynchronized
  have hinX0 := inlX0
  subst hsz
  have hD := hD0.self (sz := s.heap.size)
  generalize hAe : va_A [(h0, .inr (0, [.ref ca1, .ref ca2, .ref ca3, .ref ca4, .int (nI c)])), (ca1, .inl (cI, 30, .inl fc1))] s.heap.size = A at hD hE ⊢
  have hA : ∀ q : Nat, s.heap.size ≤ q → A q := fun q h => by rw [← hAe]; exact Or.inr h
  have hS : va_S A s.heap s.heap [] := va_S.rf
  have hP : va_P D vwCl [(h0, .inr (0, [.ref ca1, .ref ca2, .ref ca3, .ref ca4, .int (nI c)])), (ca1, .inl (cI, 30, .inl fc1))] s.heap := hP
  have hl := lv_entry ([.ref h0, .int x]) (n := 2) (Nat.le_of_ble_eq_true rfl)
  rw [lg_entry_eq]
  generalize (lg_sl ([.ref h0, .int x]) ++ List.replicate (2 - (lg_sl ([.ref h0, .int x])).length) Slot.unset).toArray = ls at hl ⊢
  have hl : lv_has ls 2 [(0, .ref h0), (1, .int x)] := hl
  refine lv_aload_n hx hb dX0_isGroup_0 rfl (lv_at hl 0 rfl) ?_
  refine lv_iload_n hx hb dX0_isGroup_1 rfl (lv_at hl 1 rfl) ?_
  have hPc := hP.sub (ws' := [(h0, .inr (0, [.ref ca1, .ref ca2, .ref ca3, .ref ca4, .int (nI c)]))]) [0] rfl
  have hDc := hD.sub (ws' := [(h0, .inr (0, [.ref ca1, .ref ca2, .ref ca3, .ref ca4, .int (nI c)]))]) [0] (by decide) rfl
  have hFc := va_free (wc := [(h0, .inr (0, [.ref ca1, .ref ca2, .ref ca3, .ref ca4, .int (nI c)]))]) hD hS hA [0] rfl
  refine va_calli (va_runV (As := [.int x]) (rest := []) ⟨hx, hb, hml, hown, hts⟩ (s_X0_has l D cB cI cZ E s.heap.size h0 x ca1 ca2 ca3 ca4 (nI c)) (cwV 1 hts (uV (uc18 _ (List.mem_of_getElem? (i := 23) rfl)) (uc19 _ (List.mem_of_getElem? (i := 0) rfl)) (uc19 _ (List.mem_of_getElem? (i := 1) rfl)) (uc2 _ (List.mem_of_getElem? (i := 10) rfl)) (uc19 _ (List.mem_of_getElem? (i := 2) rfl))) rfl rfl rfl (by decide +kernel) ⟨Nat.le_of_ble_eq_true rfl, Nat.le_of_ble_eq_true rfl⟩) (pVE hE hS hFc hK hPc hDc 0 rfl rfl) rfl rfl hl.1 rfl (lv_room (Nat.le_of_ble_eq_true rfl)) dX0_isGroup_2 ⟨Nat.le_of_ble_eq_true rfl, Nat.le_of_ble_eq_true rfl⟩) hS (fun q _ h => hFc q h) hFc (fun r_1 u t H_2 L_3 ht hvm hw hB hz1 hk1 hS => ?_)
  obtain ⟨hP1, -, hD1⟩ := hB
  rw [ht] at hP1
  obtain ⟨hP, hD⟩ := va_join (wr := [(ca1, .inl (cI, 30, .inl fc1))]) (w1 := [(h0, .inr (0, [.ref ca1, .ref ca2, .ref ca3, .ref ca4, .int (nI c)]))]) hP hD [0] [1] rfl rfl (by decide) (by decide) hk1 hFc hP1 hD1
  have hP : va_P D vwCl [(h0, .inr (0, [.ref ca1, .ref ca2, .ref ca3, .ref ca4, .int (nI c)])), (ca1, .inl (cI, 30, .inl fc1))] H_2 := hP.sub [1, 0] rfl
  have hD : va_D A [(h0, .inr (0, [.ref ca1, .ref ca2, .ref ca3, .ref ca4, .int (nI c)])), (ca1, .inl (cI, 30, .inl fc1))] := hD.sub [1, 0] (by decide) rfl
  try dsimp only at hw
  rcases hw with ⟨rfl, h_4⟩ | ⟨rfl, h_5, h_6⟩
  · refine lv_if_eq (tgt := 22) hx hb dX0_isGroup_5 (by decide) (fun c_7 => ?_) (fun c_7 => ?_)
    · refine lv_iconst (v := 0) hx hb dX0_isGroup_22 (by decide) ?_
      have hP9 := hP.sub (ws' := [(h0, .inr (0, [.ref ca1, .ref ca2, .ref ca3, .ref ca4, .int (nI c)])), (ca1, .inl (cI, 30, .inl fc1))]) [0, 1] rfl
      have hD9 := hD.sub (ws' := [(h0, .inr (0, [.ref ca1, .ref ca2, .ref ca3, .ref ca4, .int (nI c)])), (ca1, .inl (cI, 30, .inl fc1))]) [0, 1] (by decide) rfl
      exact W.zret (v := 0) hx hb hr (rfl) (fun t ht hW => ⟨⟨0, (), rfl, trivial, ⟨by rw [ht]; exact hP9, va_K.moved hW.alike hK, hD9⟩⟩, hS.F ht⟩) hS.2.2 dX0_isGroup_23
    · exact False.elim (by revert c_7; decide)
  · refine lv_if_eq (tgt := 22) hx hb dX0_isGroup_5 (by decide) (fun c_8 => ?_) (fun c_8 => ?_)
    · exact False.elim (by revert c_8; decide)
    · refine lv_aload_n hx hb dX0_isGroup_8 rfl (lv_at hl 0 rfl) ?_
      refine va_get (D := D) (ci := 0) (v := .ref ca1) (C := RX0) (T := TX0) (N := 5) hx hb hts hinX0 hown hK hP 0 rfl rfl 0 (by decide) (hts (.fieldLink RX0 9 "TaleReader$Cast" "sexes" "[I") (uc5 _ (List.mem_of_getElem? (i := 12) rfl))) (fun _ h9 => h9) rfl dX0_isGroup_9 ?_
      refine lv_iload_n hx hb dX0_isGroup_12 rfl (lv_at hl 1 rfl) ?_
      refine va_iald (D := D) hx hb hK hP 1 1 rfl rfl (by first | assumption | exact pIxc (by assumption) (by assumption) (by omega) (by omega)) dX0_isGroup_13 ?_
      refine lv_topi (fun v_9 ev_9 => ?_)
      refine lv_iconst (v := 4) hx hb dX0_isGroup_14 (by decide) ?_
      refine lv_icmp_ne (tgt := 22) hx hb dX0_isGroup_15 (by decide) (fun c_10 => ?_) (fun c_10 => ?_)
      · refine lv_iconst (v := 0) hx hb dX0_isGroup_22 (by decide) ?_
        have hP9 := hP.sub (ws' := [(h0, .inr (0, [.ref ca1, .ref ca2, .ref ca3, .ref ca4, .int (nI c)])), (ca1, .inl (cI, 30, .inl fc1))]) [0, 1] rfl
        have hD9 := hD.sub (ws' := [(h0, .inr (0, [.ref ca1, .ref ca2, .ref ca3, .ref ca4, .int (nI c)])), (ca1, .inl (cI, 30, .inl fc1))]) [0, 1] (by decide) rfl
        exact W.zret (v := 0) hx hb hr (rfl) (fun t ht hW => ⟨⟨0, (), rfl, trivial, ⟨by rw [ht]; exact hP9, va_K.moved hW.alike hK, hD9⟩⟩, hS.F ht⟩) hS.2.2 dX0_isGroup_23
      · refine lv_iconst (v := 1) hx hb dX0_isGroup_18 (by decide) ?_
        refine lv_goto (tgt := 23) hx hb dX0_isGroup_19 (by decide) ?_
        have hP9 := hP.sub (ws' := [(h0, .inr (0, [.ref ca1, .ref ca2, .ref ca3, .ref ca4, .int (nI c)])), (ca1, .inl (cI, 30, .inl fc1))]) [0, 1] rfl
        have hD9 := hD.sub (ws' := [(h0, .inr (0, [.ref ca1, .ref ca2, .ref ca3, .ref ca4, .int (nI c)])), (ca1, .inl (cI, 30, .inl fc1))]) [0, 1] (by decide) rfl
        exact W.zret (v := 1) hx hb hr (rfl) (fun t ht hW => ⟨⟨1, (), rfl, trivial, ⟨by rw [ht]; exact hP9, va_K.moved hW.alike hK, hD9⟩⟩, hS.F ht⟩) hS.2.2 dX0_isGroup_23
set_option maxHeartbeats 4000000 in
set_option maxRecDepth 100000 in
theorem s_X0_learnSex (l : Launch) (D : va_G) (cB cI cZ : ClassId) (E : pEt) (sz : Nat) (h0 : Nat) (x : Int32) (y : Int32) (ca1 : Nat) (ca2 : Nat) (ca3 : Nat) (ca4 : Nat) (c : Nat) (fc1 : Nat → Int32) (hc : c ≤ 30) : Met l yX0_learnSex (.code yX0_learnSex cX0_learnSex 3 none :: wsL_law) ({ frames := 1, cells := 0, slots := 0, locals := 21 } : Room) (va_Pc [.ref h0, .int x, .int y] (pInE E D (pT cB cI cZ) sz [(h0, .inr (0, [.ref ca1, .ref ca2, .ref ca3, .ref ca4, .int (nI c)])), (ca1, .inl (cI, 30, .inl fc1))])) (va_Qv (fun (u : (Nat → Int32)) => True) (fun (u : (Nat → Int32)) (t : State) => pAt D (pT cB cI cZ) (va_A [(h0, .inr (0, [.ref ca1, .ref ca2, .ref ca3, .ref ca4, .int (nI c)])), (ca1, .inl (cI, 30, .inl fc1))] sz) [(h0, .inr (0, [.ref ca1, .ref ca2, .ref ca3, .ref ca4, .int (nI c)])), (ca1, .inl (cI, 30, .inl u))] t) (va_A [(h0, .inr (0, [.ref ca1, .ref ca2, .ref ca3, .ref ca4, .int (nI c)])), (ca1, .inl (cI, 30, .inl fc1))] sz)) 0 0 (va_A [(h0, .inr (0, [.ref ca1, .ref ca2, .ref ca3, .ref ca4, .int (nI c)])), (ca1, .inl (cI, 30, .inl fc1))] sz) := by
  refine Met.ofW (cc := cX0_learnSex) (maxL := 3) (ret := none) (by decide) rfl ?_
  intro p e s m args below meth cd s₁ B hml hv
  obtain ⟨rfl, hsz, hP, hK, hD0, hE⟩ := hv
  have hx := B.exec
  have hb := B.bytes
  have hr := B.returns
  have hts0 := atoms_spec (ws := .code yX0_learnSex cX0_learnSex 3 none :: wsL_law) B.pre
  have hts := fun (w : Cond) (h : w ∈ wsL_law) => hts0 w (List.mem_cons_of_mem _ h)
  have hown : s.vm.findClass RX0 = some m.cls := findClass_of_methodNamed B.named
  have hlocks := B.notSynchronized
  have hinX0 := inlX0
  subst hsz
  have hD := hD0.self (sz := s.heap.size)
  generalize hAe : va_A [(h0, .inr (0, [.ref ca1, .ref ca2, .ref ca3, .ref ca4, .int (nI c)])), (ca1, .inl (cI, 30, .inl fc1))] s.heap.size = A at hD hE ⊢
  have hA : ∀ q : Nat, s.heap.size ≤ q → A q := fun q h => by rw [← hAe]; exact Or.inr h
  have hS : va_S A s.heap s.heap [] := va_S.rf
  have hP : va_P D vwCl [(h0, .inr (0, [.ref ca1, .ref ca2, .ref ca3, .ref ca4, .int (nI c)])), (ca1, .inl (cI, 30, .inl fc1))] s.heap := hP
  have hl := lv_entry ([.ref h0, .int x, .int y]) (n := 3) (Nat.le_of_ble_eq_true rfl)
  rw [lg_entry_eq]
  generalize (lg_sl ([.ref h0, .int x, .int y]) ++ List.replicate (3 - (lg_sl ([.ref h0, .int x, .int y])).length) Slot.unset).toArray = ls at hl ⊢
  have hl : lv_has ls 3 [(0, .ref h0), (1, .int x), (2, .int y)] := hl
  refine lv_aload_n hx hb dX0_learnSex_0 rfl (lv_at hl 0 rfl) ?_
  refine lv_iload_n hx hb dX0_learnSex_1 rfl (lv_at hl 1 rfl) ?_
  have hPc := hP.sub (ws' := [(h0, .inr (0, [.ref ca1, .ref ca2, .ref ca3, .ref ca4, .int (nI c)]))]) [0] rfl
  have hDc := hD.sub (ws' := [(h0, .inr (0, [.ref ca1, .ref ca2, .ref ca3, .ref ca4, .int (nI c)]))]) [0] (by decide) rfl
  have hFc := va_free (wc := [(h0, .inr (0, [.ref ca1, .ref ca2, .ref ca3, .ref ca4, .int (nI c)]))]) hD hS hA [0] rfl
  refine va_calli (va_runV (As := [.int x]) (rest := []) ⟨hx, hb, hml, hown, hts⟩ (s_X0_has l D cB cI cZ E s.heap.size h0 x ca1 ca2 ca3 ca4 (nI c)) (cwV 1 hts (uV (uc18 _ (List.mem_of_getElem? (i := 23) rfl)) (uc19 _ (List.mem_of_getElem? (i := 0) rfl)) (uc19 _ (List.mem_of_getElem? (i := 1) rfl)) (uc2 _ (List.mem_of_getElem? (i := 10) rfl)) (uc19 _ (List.mem_of_getElem? (i := 2) rfl))) rfl rfl rfl (by decide +kernel) ⟨Nat.le_of_ble_eq_true rfl, Nat.le_of_ble_eq_true rfl⟩) (pVE hE hS hFc hK hPc hDc 0 rfl rfl) rfl rfl hl.1 rfl (lv_room (Nat.le_of_ble_eq_true rfl)) dX0_learnSex_2 ⟨Nat.le_of_ble_eq_true rfl, Nat.le_of_ble_eq_true rfl⟩) hS (fun q _ h => hFc q h) hFc (fun r_1 u t H_2 L_3 ht hvm hw hB hz1 hk1 hS => ?_)
  obtain ⟨hP1, -, hD1⟩ := hB
  rw [ht] at hP1
  obtain ⟨hP, hD⟩ := va_join (wr := [(ca1, .inl (cI, 30, .inl fc1))]) (w1 := [(h0, .inr (0, [.ref ca1, .ref ca2, .ref ca3, .ref ca4, .int (nI c)]))]) hP hD [0] [1] rfl rfl (by decide) (by decide) hk1 hFc hP1 hD1
  have hP : va_P D vwCl [(h0, .inr (0, [.ref ca1, .ref ca2, .ref ca3, .ref ca4, .int (nI c)])), (ca1, .inl (cI, 30, .inl fc1))] H_2 := hP.sub [1, 0] rfl
  have hD : va_D A [(h0, .inr (0, [.ref ca1, .ref ca2, .ref ca3, .ref ca4, .int (nI c)])), (ca1, .inl (cI, 30, .inl fc1))] := hD.sub [1, 0] (by decide) rfl
  try dsimp only at hw
  rcases hw with ⟨rfl, h_4⟩ | ⟨rfl, h_5, h_6⟩
  · refine lv_if_eq (tgt := 24) hx hb dX0_learnSex_5 (by decide) (fun c_7 => ?_) (fun c_7 => ?_)
    · have hP9 := hP.sub (ws' := [(h0, .inr (0, [.ref ca1, .ref ca2, .ref ca3, .ref ca4, .int (nI c)])), (ca1, .inl (cI, 30, .inl fc1))]) [0, 1] rfl
      have hD9 := hD.sub (ws' := [(h0, .inr (0, [.ref ca1, .ref ca2, .ref ca3, .ref ca4, .int (nI c)])), (ca1, .inl (cI, 30, .inl fc1))]) [0, 1] (by decide) rfl
      exact W.vret hx hb hr (fun t ht hW => ⟨⟨fc1, rfl, trivial, ⟨by rw [ht]; exact hP9, va_K.moved hW.alike hK, hD9⟩⟩, hS.F ht⟩) hS.2.2 dX0_learnSex_24
    · exact False.elim (by revert c_7; decide)
  · refine lv_if_eq (tgt := 24) hx hb dX0_learnSex_5 (by decide) (fun c_8 => ?_) (fun c_8 => ?_)
    · exact False.elim (by revert c_8; decide)
    · refine lv_aload_n hx hb dX0_learnSex_8 rfl (lv_at hl 0 rfl) ?_
      refine va_get (D := D) (ci := 0) (v := .ref ca1) (C := RX0) (T := TX0) (N := 5) hx hb hts hinX0 hown hK hP 0 rfl rfl 0 (by decide) (hts (.fieldLink RX0 9 "TaleReader$Cast" "sexes" "[I") (uc5 _ (List.mem_of_getElem? (i := 12) rfl))) (fun _ h9 => h9) rfl dX0_learnSex_9 ?_
      refine lv_iload_n hx hb dX0_learnSex_12 rfl (lv_at hl 1 rfl) ?_
      refine va_iald (D := D) hx hb hK hP 1 1 rfl rfl (by first | assumption | exact pIxc (by assumption) (by assumption) (by omega) (by omega)) dX0_learnSex_13 ?_
      refine lv_topi (fun v_9 ev_9 => ?_)
      refine lv_if_ne (tgt := 24) hx hb dX0_learnSex_14 (by decide) (fun c_10 => ?_) (fun c_10 => ?_)
      · have hP9 := hP.sub (ws' := [(h0, .inr (0, [.ref ca1, .ref ca2, .ref ca3, .ref ca4, .int (nI c)])), (ca1, .inl (cI, 30, .inl fc1))]) [0, 1] rfl
        have hD9 := hD.sub (ws' := [(h0, .inr (0, [.ref ca1, .ref ca2, .ref ca3, .ref ca4, .int (nI c)])), (ca1, .inl (cI, 30, .inl fc1))]) [0, 1] (by decide) rfl
        exact W.vret hx hb hr (fun t ht hW => ⟨⟨fc1, rfl, trivial, ⟨by rw [ht]; exact hP9, va_K.moved hW.alike hK, hD9⟩⟩, hS.F ht⟩) hS.2.2 dX0_learnSex_24
      · refine lv_aload_n hx hb dX0_learnSex_17 rfl (lv_at hl 0 rfl) ?_
        refine va_get (D := D) (ci := 0) (v := .ref ca1) (C := RX0) (T := TX0) (N := 5) hx hb hts hinX0 hown hK hP 0 rfl rfl 0 (by decide) (hts (.fieldLink RX0 9 "TaleReader$Cast" "sexes" "[I") (uc5 _ (List.mem_of_getElem? (i := 12) rfl))) (fun _ h9 => h9) rfl dX0_learnSex_18 ?_
        refine lv_iload_n hx hb dX0_learnSex_21 rfl (lv_at hl 1 rfl) ?_
        refine lv_iload_n hx hb dX0_learnSex_22 rfl (lv_at hl 2 rfl) ?_
        refine va_iast (D := D) hx hb hK hP hD hS 1 1 rfl rfl (by first | assumption | exact pIxc (by assumption) (by assumption) (by omega) (by omega)) dX0_learnSex_23 (fun H_11 L_12 hP hD hS => ?_)
        obtain ⟨g_13, eg_13⟩ : ∃ gg : Nat → Int32, gg = upd fc1 (x).toNatClampNeg y := ⟨_, rfl⟩
        have hP : va_P D vwCl [(h0, .inr (0, [.ref ca1, .ref ca2, .ref ca3, .ref ca4, .int (nI c)])), (ca1, .inl (cI, 30, .inl g_13))] H_11 := by rw [eg_13]; exact hP
        have hD : va_D A [(h0, .inr (0, [.ref ca1, .ref ca2, .ref ca3, .ref ca4, .int (nI c)])), (ca1, .inl (cI, 30, .inl g_13))] := by rw [eg_13]; exact hD
        have hP9 := hP.sub (ws' := [(h0, .inr (0, [.ref ca1, .ref ca2, .ref ca3, .ref ca4, .int (nI c)])), (ca1, .inl (cI, 30, .inl g_13))]) [0, 1] rfl
        have hD9 := hD.sub (ws' := [(h0, .inr (0, [.ref ca1, .ref ca2, .ref ca3, .ref ca4, .int (nI c)])), (ca1, .inl (cI, 30, .inl g_13))]) [0, 1] (by decide) rfl
        exact W.vret hx hb hr (fun t ht hW => ⟨⟨g_13, rfl, trivial, ⟨by rw [ht]; exact hP9, va_K.moved hW.alike hK, hD9⟩⟩, hS.F ht⟩) hS.2.2 dX0_learnSex_24
set_option maxHeartbeats 4000000 in
set_option maxRecDepth 100000 in
theorem s_X0_noteMention (l : Launch) (D : va_G) (cB cI cZ : ClassId) (E : pEt) (sz : Nat) (h0 : Nat) (x : Int32) (y : Int32) (ca1 : Nat) (ca2 : Nat) (ca3 : Nat) (ca4 : Nat) (c : Nat) (fc4 : Nat → Int32) (hc : c ≤ 30) : Met l yX0_noteMention (.code yX0_noteMention cX0_noteMention 3 none :: wsL_law) ({ frames := 1, cells := 0, slots := 0, locals := 21 } : Room) (va_Pc [.ref h0, .int x, .int y] (pInE E D (pT cB cI cZ) sz [(h0, .inr (0, [.ref ca1, .ref ca2, .ref ca3, .ref ca4, .int (nI c)])), (ca4, .inl (cI, 30, .inl fc4))])) (va_Qv (fun (u : (Nat → Int32)) => True) (fun (u : (Nat → Int32)) (t : State) => pAt D (pT cB cI cZ) (va_A [(h0, .inr (0, [.ref ca1, .ref ca2, .ref ca3, .ref ca4, .int (nI c)])), (ca4, .inl (cI, 30, .inl fc4))] sz) [(h0, .inr (0, [.ref ca1, .ref ca2, .ref ca3, .ref ca4, .int (nI c)])), (ca4, .inl (cI, 30, .inl u))] t) (va_A [(h0, .inr (0, [.ref ca1, .ref ca2, .ref ca3, .ref ca4, .int (nI c)])), (ca4, .inl (cI, 30, .inl fc4))] sz)) 0 0 (va_A [(h0, .inr (0, [.ref ca1, .ref ca2, .ref ca3, .ref ca4, .int (nI c)])), (ca4, .inl (cI, 30, .inl fc4))] sz) := by
  refine Met.ofW (cc := cX0_noteMention) (maxL := 3) (ret := none) (by decide) rfl ?_
  intro p e s m args below meth cd s₁ B hml hv
  obtain ⟨rfl, hsz, hP, hK, hD0, hE⟩ := hv
  have hx := B.exec
  have hb := B.bytes
  have hr := B.returns
  have hts0 := atoms_spec (ws := .code yX0_noteMention cX0_noteMention 3 none :: wsL_law) B.pre
  have hts := fun (w : Cond) (h : w ∈ wsL_law) => hts0 w (List.mem_cons_of_mem _ h)
  have hown : s.vm.findClass RX0 = some m.cls := findClass_of_methodNamed B.named
  have hlocks := B.notSynchronized
  have hinX0 := inlX0
  subst hsz
  have hD := hD0.self (sz := s.heap.size)
  generalize hAe : va_A [(h0, .inr (0, [.ref ca1, .ref ca2, .ref ca3, .ref ca4, .int (nI c)])), (ca4, .inl (cI, 30, .inl fc4))] s.heap.size = A at hD hE ⊢
  have hA : ∀ q : Nat, s.heap.size ≤ q → A q := fun q h => by rw [← hAe]; exact Or.inr h
  have hS : va_S A s.heap s.heap [] := va_S.rf
  have hP : va_P D vwCl [(h0, .inr (0, [.ref ca1, .ref ca2, .ref ca3, .ref ca4, .int (nI c)])), (ca4, .inl (cI, 30, .inl fc4))] s.heap := hP
  have hl := lv_entry ([.ref h0, .int x, .int y]) (n := 3) (Nat.le_of_ble_eq_true rfl)
  rw [lg_entry_eq]
  generalize (lg_sl ([.ref h0, .int x, .int y]) ++ List.replicate (3 - (lg_sl ([.ref h0, .int x, .int y])).length) Slot.unset).toArray = ls at hl ⊢
  have hl : lv_has ls 3 [(0, .ref h0), (1, .int x), (2, .int y)] := hl
  refine lv_aload_n hx hb dX0_noteMention_0 rfl (lv_at hl 0 rfl) ?_
  refine lv_iload_n hx hb dX0_noteMention_1 rfl (lv_at hl 1 rfl) ?_
  have hPc := hP.sub (ws' := [(h0, .inr (0, [.ref ca1, .ref ca2, .ref ca3, .ref ca4, .int (nI c)]))]) [0] rfl
  have hDc := hD.sub (ws' := [(h0, .inr (0, [.ref ca1, .ref ca2, .ref ca3, .ref ca4, .int (nI c)]))]) [0] (by decide) rfl
  have hFc := va_free (wc := [(h0, .inr (0, [.ref ca1, .ref ca2, .ref ca3, .ref ca4, .int (nI c)]))]) hD hS hA [0] rfl
  refine va_calli (va_runV (As := [.int x]) (rest := []) ⟨hx, hb, hml, hown, hts⟩ (s_X0_has l D cB cI cZ E s.heap.size h0 x ca1 ca2 ca3 ca4 (nI c)) (cwV 1 hts (uV (uc18 _ (List.mem_of_getElem? (i := 23) rfl)) (uc19 _ (List.mem_of_getElem? (i := 0) rfl)) (uc19 _ (List.mem_of_getElem? (i := 1) rfl)) (uc2 _ (List.mem_of_getElem? (i := 10) rfl)) (uc19 _ (List.mem_of_getElem? (i := 2) rfl))) rfl rfl rfl (by decide +kernel) ⟨Nat.le_of_ble_eq_true rfl, Nat.le_of_ble_eq_true rfl⟩) (pVE hE hS hFc hK hPc hDc 0 rfl rfl) rfl rfl hl.1 rfl (lv_room (Nat.le_of_ble_eq_true rfl)) dX0_noteMention_2 ⟨Nat.le_of_ble_eq_true rfl, Nat.le_of_ble_eq_true rfl⟩) hS (fun q _ h => hFc q h) hFc (fun r_1 u t H_2 L_3 ht hvm hw hB hz1 hk1 hS => ?_)
  obtain ⟨hP1, -, hD1⟩ := hB
  rw [ht] at hP1
  obtain ⟨hP, hD⟩ := va_join (wr := [(ca4, .inl (cI, 30, .inl fc4))]) (w1 := [(h0, .inr (0, [.ref ca1, .ref ca2, .ref ca3, .ref ca4, .int (nI c)]))]) hP hD [0] [1] rfl rfl (by decide) (by decide) hk1 hFc hP1 hD1
  have hP : va_P D vwCl [(h0, .inr (0, [.ref ca1, .ref ca2, .ref ca3, .ref ca4, .int (nI c)])), (ca4, .inl (cI, 30, .inl fc4))] H_2 := hP.sub [1, 0] rfl
  have hD : va_D A [(h0, .inr (0, [.ref ca1, .ref ca2, .ref ca3, .ref ca4, .int (nI c)])), (ca4, .inl (cI, 30, .inl fc4))] := hD.sub [1, 0] (by decide) rfl
  try dsimp only at hw
  rcases hw with ⟨rfl, h_4⟩ | ⟨rfl, h_5, h_6⟩
  · refine lv_if_eq (tgt := 24) hx hb dX0_noteMention_5 (by decide) (fun c_7 => ?_) (fun c_7 => ?_)
    · have hP9 := hP.sub (ws' := [(h0, .inr (0, [.ref ca1, .ref ca2, .ref ca3, .ref ca4, .int (nI c)])), (ca4, .inl (cI, 30, .inl fc4))]) [0, 1] rfl
      have hD9 := hD.sub (ws' := [(h0, .inr (0, [.ref ca1, .ref ca2, .ref ca3, .ref ca4, .int (nI c)])), (ca4, .inl (cI, 30, .inl fc4))]) [0, 1] (by decide) rfl
      exact W.vret hx hb hr (fun t ht hW => ⟨⟨fc4, rfl, trivial, ⟨by rw [ht]; exact hP9, va_K.moved hW.alike hK, hD9⟩⟩, hS.F ht⟩) hS.2.2 dX0_noteMention_24
    · exact False.elim (by revert c_7; decide)
  · refine lv_if_eq (tgt := 24) hx hb dX0_noteMention_5 (by decide) (fun c_8 => ?_) (fun c_8 => ?_)
    · exact False.elim (by revert c_8; decide)
    · refine lv_aload_n hx hb dX0_noteMention_8 rfl (lv_at hl 0 rfl) ?_
      refine va_get (D := D) (ci := 0) (v := .ref ca4) (C := RX0) (T := TX0) (N := 5) hx hb hts hinX0 hown hK hP 0 rfl rfl 3 (by decide) (hts (.fieldLink RX0 21 "TaleReader$Cast" "lastMentions" "[I") (uc5 _ (List.mem_of_getElem? (i := 15) rfl))) (fun _ h9 => h9) rfl dX0_noteMention_9 ?_
      refine lv_iload_n hx hb dX0_noteMention_12 rfl (lv_at hl 1 rfl) ?_
      refine lv_aload_n hx hb dX0_noteMention_13 rfl (lv_at hl 0 rfl) ?_
      refine va_get (D := D) (ci := 0) (v := .ref ca4) (C := RX0) (T := TX0) (N := 5) hx hb hts hinX0 hown hK hP 0 rfl rfl 3 (by decide) (hts (.fieldLink RX0 21 "TaleReader$Cast" "lastMentions" "[I") (uc5 _ (List.mem_of_getElem? (i := 15) rfl))) (fun _ h9 => h9) rfl dX0_noteMention_14 ?_
      refine lv_iload_n hx hb dX0_noteMention_17 rfl (lv_at hl 1 rfl) ?_
      refine va_iald (D := D) hx hb hK hP 1 1 rfl rfl (by first | assumption | exact pIxc (by assumption) (by assumption) (by omega) (by omega)) dX0_noteMention_18 ?_
      refine lv_topi (fun v_9 ev_9 => ?_)
      refine lv_iload_n hx hb dX0_noteMention_19 rfl (lv_at hl 2 rfl) ?_
      refine va_mmax hx hb (by rw [hml]; exact hl.1.symm) hown (hts (.methodLink RX0 39 Lib.Math.max.name) (uc22 _ (List.mem_of_getElem? (i := 21) rfl))) (hts (.static Lib.Math.max.name) (uc3 _ (List.mem_of_getElem? (i := 1) rfl))) (hts (.initialized "java/lang/Math") (uc3 _ (List.mem_of_getElem? (i := 2) rfl))) (hts (.code Lib.Math.max.name Lib.Math.max.code 2 (some .int)) (uc3 _ (List.mem_of_getElem? (i := 3) rfl))) (Nat.le_of_ble_eq_true rfl) (Nat.le_of_ble_eq_true rfl) (Nat.le_of_ble_eq_true rfl) (Nat.le_of_ble_eq_true rfl) dX0_noteMention_20 ?_
      refine lv_topi (fun v_10 ev_10 => ?_)
      refine va_iast (D := D) hx hb hK hP hD hS 1 1 rfl rfl (by first | assumption | exact pIxc (by assumption) (by assumption) (by omega) (by omega)) dX0_noteMention_23 (fun H_11 L_12 hP hD hS => ?_)
      obtain ⟨g_13, eg_13⟩ : ∃ gg : Nat → Int32, gg = upd fc4 (x).toNatClampNeg v_10 := ⟨_, rfl⟩
      have hP : va_P D vwCl [(h0, .inr (0, [.ref ca1, .ref ca2, .ref ca3, .ref ca4, .int (nI c)])), (ca4, .inl (cI, 30, .inl g_13))] H_11 := by rw [eg_13]; exact hP
      have hD : va_D A [(h0, .inr (0, [.ref ca1, .ref ca2, .ref ca3, .ref ca4, .int (nI c)])), (ca4, .inl (cI, 30, .inl g_13))] := by rw [eg_13]; exact hD
      have hP9 := hP.sub (ws' := [(h0, .inr (0, [.ref ca1, .ref ca2, .ref ca3, .ref ca4, .int (nI c)])), (ca4, .inl (cI, 30, .inl g_13))]) [0, 1] rfl
      have hD9 := hD.sub (ws' := [(h0, .inr (0, [.ref ca1, .ref ca2, .ref ca3, .ref ca4, .int (nI c)])), (ca4, .inl (cI, 30, .inl g_13))]) [0, 1] (by decide) rfl
      exact W.vret hx hb hr (fun t ht hW => ⟨⟨g_13, rfl, trivial, ⟨by rw [ht]; exact hP9, va_K.moved hW.alike hK, hD9⟩⟩, hS.F ht⟩) hS.2.2 dX0_noteMention_24
set_option maxHeartbeats 4000000 in
set_option maxRecDepth 100000 in
theorem s_X0_add (l : Launch) (D : va_G) (cB cI cZ : ClassId) (E : pEt) (sz : Nat) (h0 : Nat) (x : Int32) (y : Int32) (ca1 : Nat) (ca2 : Nat) (ca3 : Nat) (ca4 : Nat) (c : Nat) (fc1 : Nat → Int32) (fc2 : Nat → Int32) (fc3 : Nat → Int32) (fc4 : Nat → Int32) (hc : c ≤ 30) : Met l yX0_add (.code yX0_add cX0_add 3 (some .int) :: wsL_law) ({ frames := 0, cells := 0, slots := 0, locals := 0 } : Room) (va_Pc [.ref h0, .int x, .int y] (pInE E D (pT cB cI cZ) sz [(h0, .inr (0, [.ref ca1, .ref ca2, .ref ca3, .ref ca4, .int (nI c)])), (ca1, .inl (cI, 30, .inl fc1)), (ca2, .inl (cI, 30, .inl fc2)), (ca3, .inl (cI, 30, .inl fc3)), (ca4, .inl (cI, 30, .inl fc4))])) (va_Qi (fun (r : Int32) (u : Nat × (Nat → Int32) × (Nat → Int32) × (Nat → Int32) × (Nat → Int32)) => u.1 ≤ 30) (fun (u : Nat × (Nat → Int32) × (Nat → Int32) × (Nat → Int32) × (Nat → Int32)) (t : State) => pAt D (pT cB cI cZ) (va_A [(h0, .inr (0, [.ref ca1, .ref ca2, .ref ca3, .ref ca4, .int (nI c)])), (ca1, .inl (cI, 30, .inl fc1)), (ca2, .inl (cI, 30, .inl fc2)), (ca3, .inl (cI, 30, .inl fc3)), (ca4, .inl (cI, 30, .inl fc4))] sz) [(h0, .inr (0, [.ref ca1, .ref ca2, .ref ca3, .ref ca4, .int (nI u.1)])), (ca1, .inl (cI, 30, .inl u.2.1)), (ca2, .inl (cI, 30, .inl u.2.2.1)), (ca3, .inl (cI, 30, .inl u.2.2.2.1)), (ca4, .inl (cI, 30, .inl u.2.2.2.2))] t) (va_A [(h0, .inr (0, [.ref ca1, .ref ca2, .ref ca3, .ref ca4, .int (nI c)])), (ca1, .inl (cI, 30, .inl fc1)), (ca2, .inl (cI, 30, .inl fc2)), (ca3, .inl (cI, 30, .inl fc3)), (ca4, .inl (cI, 30, .inl fc4))] sz)) 0 0 (va_A [(h0, .inr (0, [.ref ca1, .ref ca2, .ref ca3, .ref ca4, .int (nI c)])), (ca1, .inl (cI, 30, .inl fc1)), (ca2, .inl (cI, 30, .inl fc2)), (ca3, .inl (cI, 30, .inl fc3)), (ca4, .inl (cI, 30, .inl fc4))] sz) := by
  refine Met.ofW (cc := cX0_add) (maxL := 3) (ret := (some .int)) (by decide) rfl ?_
  intro p e s m args below meth cd s₁ B hml hv
  obtain ⟨rfl, hsz, hP, hK, hD0, hE⟩ := hv
  have hx := B.exec
  have hb := B.bytes
  have hr := B.returns
  have hts0 := atoms_spec (ws := .code yX0_add cX0_add 3 (some .int) :: wsL_law) B.pre
  have hts := fun (w : Cond) (h : w ∈ wsL_law) => hts0 w (List.mem_cons_of_mem _ h)
  have hown : s.vm.findClass RX0 = some m.cls := findClass_of_methodNamed B.named
  have hlocks := B.notSynchronized
  have hinX0 := inlX0
  subst hsz
  have hD := hD0.self (sz := s.heap.size)
  generalize hAe : va_A [(h0, .inr (0, [.ref ca1, .ref ca2, .ref ca3, .ref ca4, .int (nI c)])), (ca1, .inl (cI, 30, .inl fc1)), (ca2, .inl (cI, 30, .inl fc2)), (ca3, .inl (cI, 30, .inl fc3)), (ca4, .inl (cI, 30, .inl fc4))] s.heap.size = A at hD hE ⊢
  have hA : ∀ q : Nat, s.heap.size ≤ q → A q := fun q h => by rw [← hAe]; exact Or.inr h
  have hS : va_S A s.heap s.heap [] := va_S.rf
  have hP : va_P D vwCl [(h0, .inr (0, [.ref ca1, .ref ca2, .ref ca3, .ref ca4, .int (nI c)])), (ca1, .inl (cI, 30, .inl fc1)), (ca2, .inl (cI, 30, .inl fc2)), (ca3, .inl (cI, 30, .inl fc3)), (ca4, .inl (cI, 30, .inl fc4))] s.heap := hP
  have hl := lv_entry ([.ref h0, .int x, .int y]) (n := 3) (Nat.le_of_ble_eq_true rfl)
  rw [lg_entry_eq]
  generalize (lg_sl ([.ref h0, .int x, .int y]) ++ List.replicate (3 - (lg_sl ([.ref h0, .int x, .int y])).length) Slot.unset).toArray = ls at hl ⊢
  have hl : lv_has ls 3 [(0, .ref h0), (1, .int x), (2, .int y)] := hl
  refine lv_aload_n hx hb dX0_add_0 rfl (lv_at hl 0 rfl) ?_
  refine va_get (D := D) (ci := 0) (v := .int (nI c)) (C := RX0) (T := TX0) (N := 5) hx hb hts hinX0 hown hK hP 0 rfl rfl 4 (by decide) (hts (.fieldLink RX0 24 "TaleReader$Cast" "count" "I") (uc5 _ (List.mem_of_getElem? (i := 16) rfl))) (fun _ h9 => h9) rfl dX0_add_1 ?_
  refine lv_bipush (v := 30) hx hb dX0_add_4 (by decide) ?_
  refine lv_icmp_lt (tgt := 11) hx hb dX0_add_6 (by decide) (fun c_1 => ?_) (fun c_1 => ?_)
  · have hlt_c : c < 30 := Nat.lt_of_not_le (fun q => nI_nlt (b := 30) q (by omega) c_1)
    refine lv_aload_n hx hb dX0_add_11 rfl (lv_at hl 0 rfl) ?_
    refine va_get (D := D) (ci := 0) (v := .ref ca1) (C := RX0) (T := TX0) (N := 5) hx hb hts hinX0 hown hK hP 0 rfl rfl 0 (by decide) (hts (.fieldLink RX0 9 "TaleReader$Cast" "sexes" "[I") (uc5 _ (List.mem_of_getElem? (i := 12) rfl))) (fun _ h9 => h9) rfl dX0_add_12 ?_
    refine lv_aload_n hx hb dX0_add_15 rfl (lv_at hl 0 rfl) ?_
    refine va_get (D := D) (ci := 0) (v := .int (nI c)) (C := RX0) (T := TX0) (N := 5) hx hb hts hinX0 hown hK hP 0 rfl rfl 4 (by decide) (hts (.fieldLink RX0 24 "TaleReader$Cast" "count" "I") (uc5 _ (List.mem_of_getElem? (i := 16) rfl))) (fun _ h9 => h9) rfl dX0_add_16 ?_
    refine lv_iload_n hx hb dX0_add_19 rfl (lv_at hl 1 rfl) ?_
    refine va_iast (D := D) hx hb hK hP hD hS 1 1 rfl rfl (vp_in_nI (by omega) (by omega)) dX0_add_20 (fun H_2 L_3 hP hD hS => ?_)
    obtain ⟨g_4, eg_4⟩ : ∃ gg : Nat → Int32, gg = upd fc1 ((nI c)).toNatClampNeg x := ⟨_, rfl⟩
    have hP : va_P D vwCl [(h0, .inr (0, [.ref ca1, .ref ca2, .ref ca3, .ref ca4, .int (nI c)])), (ca1, .inl (cI, 30, .inl g_4)), (ca2, .inl (cI, 30, .inl fc2)), (ca3, .inl (cI, 30, .inl fc3)), (ca4, .inl (cI, 30, .inl fc4))] H_2 := by rw [eg_4]; exact hP
    have hD : va_D A [(h0, .inr (0, [.ref ca1, .ref ca2, .ref ca3, .ref ca4, .int (nI c)])), (ca1, .inl (cI, 30, .inl g_4)), (ca2, .inl (cI, 30, .inl fc2)), (ca3, .inl (cI, 30, .inl fc3)), (ca4, .inl (cI, 30, .inl fc4))] := by rw [eg_4]; exact hD
    refine lv_aload_n hx hb dX0_add_21 rfl (lv_at hl 0 rfl) ?_
    refine va_get (D := D) (ci := 0) (v := .ref ca2) (C := RX0) (T := TX0) (N := 5) hx hb hts hinX0 hown hK hP 0 rfl rfl 1 (by decide) (hts (.fieldLink RX0 15 "TaleReader$Cast" "joined" "[I") (uc5 _ (List.mem_of_getElem? (i := 13) rfl))) (fun _ h9 => h9) rfl dX0_add_22 ?_
    refine lv_aload_n hx hb dX0_add_25 rfl (lv_at hl 0 rfl) ?_
    refine va_get (D := D) (ci := 0) (v := .int (nI c)) (C := RX0) (T := TX0) (N := 5) hx hb hts hinX0 hown hK hP 0 rfl rfl 4 (by decide) (hts (.fieldLink RX0 24 "TaleReader$Cast" "count" "I") (uc5 _ (List.mem_of_getElem? (i := 16) rfl))) (fun _ h9 => h9) rfl dX0_add_26 ?_
    refine lv_iconst (v := (-1)) hx hb dX0_add_29 (by decide) ?_
    refine va_iast (D := D) hx hb hK hP hD hS 2 1 rfl rfl (vp_in_nI (by omega) (by omega)) dX0_add_30 (fun H_5 L_6 hP hD hS => ?_)
    obtain ⟨g_7, eg_7⟩ : ∃ gg : Nat → Int32, gg = upd fc2 ((nI c)).toNatClampNeg (-1) := ⟨_, rfl⟩
    have hP : va_P D vwCl [(h0, .inr (0, [.ref ca1, .ref ca2, .ref ca3, .ref ca4, .int (nI c)])), (ca1, .inl (cI, 30, .inl g_4)), (ca2, .inl (cI, 30, .inl g_7)), (ca3, .inl (cI, 30, .inl fc3)), (ca4, .inl (cI, 30, .inl fc4))] H_5 := by rw [eg_7]; exact hP
    have hD : va_D A [(h0, .inr (0, [.ref ca1, .ref ca2, .ref ca3, .ref ca4, .int (nI c)])), (ca1, .inl (cI, 30, .inl g_4)), (ca2, .inl (cI, 30, .inl g_7)), (ca3, .inl (cI, 30, .inl fc3)), (ca4, .inl (cI, 30, .inl fc4))] := by rw [eg_7]; exact hD
    refine lv_aload_n hx hb dX0_add_31 rfl (lv_at hl 0 rfl) ?_
    refine va_get (D := D) (ci := 0) (v := .ref ca3) (C := RX0) (T := TX0) (N := 5) hx hb hts hinX0 hown hK hP 0 rfl rfl 2 (by decide) (hts (.fieldLink RX0 18 "TaleReader$Cast" "members" "[I") (uc5 _ (List.mem_of_getElem? (i := 14) rfl))) (fun _ h9 => h9) rfl dX0_add_32 ?_
    refine lv_aload_n hx hb dX0_add_35 rfl (lv_at hl 0 rfl) ?_
    refine va_get (D := D) (ci := 0) (v := .int (nI c)) (C := RX0) (T := TX0) (N := 5) hx hb hts hinX0 hown hK hP 0 rfl rfl 4 (by decide) (hts (.fieldLink RX0 24 "TaleReader$Cast" "count" "I") (uc5 _ (List.mem_of_getElem? (i := 16) rfl))) (fun _ h9 => h9) rfl dX0_add_36 ?_
    refine lv_iload_n hx hb dX0_add_39 rfl (lv_at hl 2 rfl) ?_
    refine va_iast (D := D) hx hb hK hP hD hS 3 1 rfl rfl (vp_in_nI (by omega) (by omega)) dX0_add_40 (fun H_8 L_9 hP hD hS => ?_)
    obtain ⟨g_10, eg_10⟩ : ∃ gg : Nat → Int32, gg = upd fc3 ((nI c)).toNatClampNeg y := ⟨_, rfl⟩
    have hP : va_P D vwCl [(h0, .inr (0, [.ref ca1, .ref ca2, .ref ca3, .ref ca4, .int (nI c)])), (ca1, .inl (cI, 30, .inl g_4)), (ca2, .inl (cI, 30, .inl g_7)), (ca3, .inl (cI, 30, .inl g_10)), (ca4, .inl (cI, 30, .inl fc4))] H_8 := by rw [eg_10]; exact hP
    have hD : va_D A [(h0, .inr (0, [.ref ca1, .ref ca2, .ref ca3, .ref ca4, .int (nI c)])), (ca1, .inl (cI, 30, .inl g_4)), (ca2, .inl (cI, 30, .inl g_7)), (ca3, .inl (cI, 30, .inl g_10)), (ca4, .inl (cI, 30, .inl fc4))] := by rw [eg_10]; exact hD
    refine lv_aload_n hx hb dX0_add_41 rfl (lv_at hl 0 rfl) ?_
    refine va_get (D := D) (ci := 0) (v := .ref ca4) (C := RX0) (T := TX0) (N := 5) hx hb hts hinX0 hown hK hP 0 rfl rfl 3 (by decide) (hts (.fieldLink RX0 21 "TaleReader$Cast" "lastMentions" "[I") (uc5 _ (List.mem_of_getElem? (i := 15) rfl))) (fun _ h9 => h9) rfl dX0_add_42 ?_
    refine lv_aload_n hx hb dX0_add_45 rfl (lv_at hl 0 rfl) ?_
    refine va_get (D := D) (ci := 0) (v := .int (nI c)) (C := RX0) (T := TX0) (N := 5) hx hb hts hinX0 hown hK hP 0 rfl rfl 4 (by decide) (hts (.fieldLink RX0 24 "TaleReader$Cast" "count" "I") (uc5 _ (List.mem_of_getElem? (i := 16) rfl))) (fun _ h9 => h9) rfl dX0_add_46 ?_
    refine lv_iconst (v := (-1)) hx hb dX0_add_49 (by decide) ?_
    refine va_iast (D := D) hx hb hK hP hD hS 4 1 rfl rfl (vp_in_nI (by omega) (by omega)) dX0_add_50 (fun H_11 L_12 hP hD hS => ?_)
    obtain ⟨g_13, eg_13⟩ : ∃ gg : Nat → Int32, gg = upd fc4 ((nI c)).toNatClampNeg (-1) := ⟨_, rfl⟩
    have hP : va_P D vwCl [(h0, .inr (0, [.ref ca1, .ref ca2, .ref ca3, .ref ca4, .int (nI c)])), (ca1, .inl (cI, 30, .inl g_4)), (ca2, .inl (cI, 30, .inl g_7)), (ca3, .inl (cI, 30, .inl g_10)), (ca4, .inl (cI, 30, .inl g_13))] H_11 := by rw [eg_13]; exact hP
    have hD : va_D A [(h0, .inr (0, [.ref ca1, .ref ca2, .ref ca3, .ref ca4, .int (nI c)])), (ca1, .inl (cI, 30, .inl g_4)), (ca2, .inl (cI, 30, .inl g_7)), (ca3, .inl (cI, 30, .inl g_10)), (ca4, .inl (cI, 30, .inl g_13))] := by rw [eg_13]; exact hD
    refine lv_aload_n hx hb dX0_add_51 rfl (lv_at hl 0 rfl) ?_
    refine lv_dup hx hb dX0_add_52 rfl ?_
    refine va_get (D := D) (ci := 0) (v := .int (nI c)) (C := RX0) (T := TX0) (N := 5) hx hb hts hinX0 hown hK hP 0 rfl rfl 4 (by decide) (hts (.fieldLink RX0 24 "TaleReader$Cast" "count" "I") (uc5 _ (List.mem_of_getElem? (i := 16) rfl))) (fun _ h9 => h9) rfl dX0_add_53 ?_
    refine lv_iconst (v := 1) hx hb dX0_add_56 (by decide) ?_
    refine lv_iadd hx hb dX0_add_57 ?_
    refine lv_topi (fun z_14 ez_14 => ?_)
    obtain rfl : z_14 = nI (c + 1) := ez_14.trans (nI_add c 1)
    refine va_put (D := D) (ci := 0) (v := .int (nI (c + 1))) (ty := .int) (C := RX0) (T := TX0) (N := 5) hx hb hts hinX0 tyX0 tyX0_ok nmX0 hown hK hP hD hS 0 rfl rfl 4 (by decide) (hts (.fieldLink RX0 24 "TaleReader$Cast" "count" "I") (uc5 _ (List.mem_of_getElem? (i := 16) rfl))) (fun _ h9 => h9) rfl (by decide +kernel) rfl rfl (Nat.le_of_ble_eq_true rfl) dX0_add_58 (fun H_15 L_16 hP hD hS => ?_)
    have hP : va_P D vwCl [(h0, .inr (0, [.ref ca1, .ref ca2, .ref ca3, .ref ca4, .int (nI (c + 1))])), (ca1, .inl (cI, 30, .inl g_4)), (ca2, .inl (cI, 30, .inl g_7)), (ca3, .inl (cI, 30, .inl g_10)), (ca4, .inl (cI, 30, .inl g_13))] H_15 := hP
    have hD : va_D A [(h0, .inr (0, [.ref ca1, .ref ca2, .ref ca3, .ref ca4, .int (nI (c + 1))])), (ca1, .inl (cI, 30, .inl g_4)), (ca2, .inl (cI, 30, .inl g_7)), (ca3, .inl (cI, 30, .inl g_10)), (ca4, .inl (cI, 30, .inl g_13))] := hD
    refine lv_aload_n hx hb dX0_add_61 rfl (lv_at hl 0 rfl) ?_
    refine va_get (D := D) (ci := 0) (v := .int (nI (c + 1))) (C := RX0) (T := TX0) (N := 5) hx hb hts hinX0 hown hK hP 0 rfl rfl 4 (by decide) (hts (.fieldLink RX0 24 "TaleReader$Cast" "count" "I") (uc5 _ (List.mem_of_getElem? (i := 16) rfl))) (fun _ h9 => h9) rfl dX0_add_62 ?_
    refine lv_iconst (v := 1) hx hb dX0_add_65 (by decide) ?_
    refine lv_isub hx hb dX0_add_66 ?_
    refine lv_topi (fun v_17 ev_17 => ?_)
    have hP9 := hP.sub (ws' := [(h0, .inr (0, [.ref ca1, .ref ca2, .ref ca3, .ref ca4, .int (nI (c + 1))])), (ca1, .inl (cI, 30, .inl g_4)), (ca2, .inl (cI, 30, .inl g_7)), (ca3, .inl (cI, 30, .inl g_10)), (ca4, .inl (cI, 30, .inl g_13))]) [0, 1, 2, 3, 4] rfl
    have hD9 := hD.sub (ws' := [(h0, .inr (0, [.ref ca1, .ref ca2, .ref ca3, .ref ca4, .int (nI (c + 1))])), (ca1, .inl (cI, 30, .inl g_4)), (ca2, .inl (cI, 30, .inl g_7)), (ca3, .inl (cI, 30, .inl g_10)), (ca4, .inl (cI, 30, .inl g_13))]) [0, 1, 2, 3, 4] (by decide) rfl
    exact W.iret (v := v_17) hx hb hr (fun t ht hW => ⟨⟨v_17, (c + 1, g_4, g_7, g_10, g_13), rfl, (by omega), ⟨by rw [ht]; exact hP9, va_K.moved hW.alike hK, hD9⟩⟩, hS.F ht⟩) hS.2.2 dX0_add_67
  · refine lv_iconst (v := (-1)) hx hb dX0_add_9 (by decide) ?_
    have hP9 := hP.sub (ws' := [(h0, .inr (0, [.ref ca1, .ref ca2, .ref ca3, .ref ca4, .int (nI c)])), (ca1, .inl (cI, 30, .inl fc1)), (ca2, .inl (cI, 30, .inl fc2)), (ca3, .inl (cI, 30, .inl fc3)), (ca4, .inl (cI, 30, .inl fc4))]) [0, 1, 2, 3, 4] rfl
    have hD9 := hD.sub (ws' := [(h0, .inr (0, [.ref ca1, .ref ca2, .ref ca3, .ref ca4, .int (nI c)])), (ca1, .inl (cI, 30, .inl fc1)), (ca2, .inl (cI, 30, .inl fc2)), (ca3, .inl (cI, 30, .inl fc3)), (ca4, .inl (cI, 30, .inl fc4))]) [0, 1, 2, 3, 4] (by decide) rfl
    exact W.iret (v := (-1)) hx hb hr (fun t ht hW => ⟨⟨(-1), (c, fc1, fc2, fc3, fc4), rfl, hc, ⟨by rw [ht]; exact hP9, va_K.moved hW.alike hK, hD9⟩⟩, hS.F ht⟩) hS.2.2 dX0_add_10
set_option maxHeartbeats 4000000 in
set_option maxRecDepth 100000 in
theorem s_X0_groupOf (l : Launch) (D : va_G) (cB cI cZ : ClassId) (E : pEt) (sz : Nat) (h0 : Nat) (x : Int32) (ca1 : Nat) (ca2 : Nat) (ca3 : Nat) (ca4 : Nat) (c : Nat) (fc1 : Nat → Int32) (fc2 : Nat → Int32) (fc3 : Nat → Int32) (fc4 : Nat → Int32) (hc : c ≤ 30) : Met l yX0_groupOf (.code yX0_groupOf cX0_groupOf 3 (some .int) :: wsL_law) ({ frames := 2, cells := 0, slots := 0, locals := 42 } : Room) (va_Pc [.ref h0, .int x] (pInE E D (pT cB cI cZ) sz [(h0, .inr (0, [.ref ca1, .ref ca2, .ref ca3, .ref ca4, .int (nI c)])), (ca1, .inl (cI, 30, .inl fc1)), (ca2, .inl (cI, 30, .inl fc2)), (ca3, .inl (cI, 30, .inl fc3)), (ca4, .inl (cI, 30, .inl fc4))])) (va_Qi (fun (r : Int32) (u : Nat × (Nat → Int32) × (Nat → Int32) × (Nat → Int32) × (Nat → Int32)) => u.1 ≤ 30) (fun (u : Nat × (Nat → Int32) × (Nat → Int32) × (Nat → Int32) × (Nat → Int32)) (t : State) => pAt D (pT cB cI cZ) (va_A [(h0, .inr (0, [.ref ca1, .ref ca2, .ref ca3, .ref ca4, .int (nI c)])), (ca1, .inl (cI, 30, .inl fc1)), (ca2, .inl (cI, 30, .inl fc2)), (ca3, .inl (cI, 30, .inl fc3)), (ca4, .inl (cI, 30, .inl fc4))] sz) [(h0, .inr (0, [.ref ca1, .ref ca2, .ref ca3, .ref ca4, .int (nI u.1)])), (ca1, .inl (cI, 30, .inl u.2.1)), (ca2, .inl (cI, 30, .inl u.2.2.1)), (ca3, .inl (cI, 30, .inl u.2.2.2.1)), (ca4, .inl (cI, 30, .inl u.2.2.2.2))] t) (va_A [(h0, .inr (0, [.ref ca1, .ref ca2, .ref ca3, .ref ca4, .int (nI c)])), (ca1, .inl (cI, 30, .inl fc1)), (ca2, .inl (cI, 30, .inl fc2)), (ca3, .inl (cI, 30, .inl fc3)), (ca4, .inl (cI, 30, .inl fc4))] sz)) 0 0 (va_A [(h0, .inr (0, [.ref ca1, .ref ca2, .ref ca3, .ref ca4, .int (nI c)])), (ca1, .inl (cI, 30, .inl fc1)), (ca2, .inl (cI, 30, .inl fc2)), (ca3, .inl (cI, 30, .inl fc3)), (ca4, .inl (cI, 30, .inl fc4))] sz) := by
  refine Met.ofW (cc := cX0_groupOf) (maxL := 3) (ret := (some .int)) (by decide) rfl ?_
  intro p e s m args below meth cd s₁ B hml hv
  obtain ⟨rfl, hsz, hP, hK, hD0, hE⟩ := hv
  have hx := B.exec
  have hb := B.bytes
  have hr := B.returns
  have hts0 := atoms_spec (ws := .code yX0_groupOf cX0_groupOf 3 (some .int) :: wsL_law) B.pre
  have hts := fun (w : Cond) (h : w ∈ wsL_law) => hts0 w (List.mem_cons_of_mem _ h)
  have hown : s.vm.findClass RX0 = some m.cls := findClass_of_methodNamed B.named
  have hlocks := B.notSynchronized
  have hinX0 := inlX0
  subst hsz
  have hD := hD0.self (sz := s.heap.size)
  generalize hAe : va_A [(h0, .inr (0, [.ref ca1, .ref ca2, .ref ca3, .ref ca4, .int (nI c)])), (ca1, .inl (cI, 30, .inl fc1)), (ca2, .inl (cI, 30, .inl fc2)), (ca3, .inl (cI, 30, .inl fc3)), (ca4, .inl (cI, 30, .inl fc4))] s.heap.size = A at hD hE ⊢
  have hA : ∀ q : Nat, s.heap.size ≤ q → A q := fun q h => by rw [← hAe]; exact Or.inr h
  have hS : va_S A s.heap s.heap [] := va_S.rf
  have hP : va_P D vwCl [(h0, .inr (0, [.ref ca1, .ref ca2, .ref ca3, .ref ca4, .int (nI c)])), (ca1, .inl (cI, 30, .inl fc1)), (ca2, .inl (cI, 30, .inl fc2)), (ca3, .inl (cI, 30, .inl fc3)), (ca4, .inl (cI, 30, .inl fc4))] s.heap := hP
  have hl := lv_entry ([.ref h0, .int x]) (n := 3) (Nat.le_of_ble_eq_true rfl)
  rw [lg_entry_eq]
  generalize (lg_sl ([.ref h0, .int x]) ++ List.replicate (3 - (lg_sl ([.ref h0, .int x])).length) Slot.unset).toArray = ls at hl ⊢
  have hl : lv_has ls 3 [(0, .ref h0), (1, .int x)] := hl
  generalize hQ : MQ below _ _ _ _ _ _ = Q
  refine lv_iconst (v := 0) hx hb dX0_groupOf_0 (by decide) ?_
  refine lv_istore_n (lv' := [(2, .int 0), (0, .ref h0), (1, .int x)]) hx hb dX0_groupOf_1 rfl hl (by decide) rfl (fun ls hl => ?_)
  have loop_1 : ∀ (nn_3 : Nat) (i : Nat), (i ≤ 600) → (c - i < nn_3) → ∀ (H : Heap) (locs : List Loc) (ls : Array Slot), va_P D vwCl [(h0, .inr (0, [.ref ca1, .ref ca2, .ref ca3, .ref ca4, .int (nI c)])), (ca1, .inl (cI, 30, .inl fc1)), (ca2, .inl (cI, 30, .inl fc2)), (ca3, .inl (cI, 30, .inl fc3)), (ca4, .inl (cI, 30, .inl fc4))] H → va_D A [(h0, .inr (0, [.ref ca1, .ref ca2, .ref ca3, .ref ca4, .int (nI c)])), (ca1, .inl (cI, 30, .inl fc1)), (ca2, .inl (cI, 30, .inl fc2)), (ca3, .inl (cI, 30, .inl fc3)), (ca4, .inl (cI, 30, .inl fc4))] → va_S A s.heap H locs → lv_has ls 3 [(0, .ref h0), (1, .int x), (2, .int (nI i))] → W p l e ({ frames := 2, cells := 0, slots := 0, locals := 42 } : Room) s m ([.ref h0, .int x] : List Value).toArray below meth cd H locs 0 0 Q (F0 m 2 ls []) := by
    intro nn_3
    induction nn_3 with
    | zero => intros; exact absurd ‹_ < 0› (Nat.not_lt_zero _)
    | succ nn_3 ih_2 =>
      intro i hi600 hmu H locs ls hP hD hS hl
      refine lv_iload_n hx hb dX0_groupOf_2 rfl (lv_at hl 2 rfl) ?_
      refine lv_aload_n hx hb dX0_groupOf_3 rfl (lv_at hl 0 rfl) ?_
      refine va_get (D := D) (ci := 0) (v := .int (nI c)) (C := RX0) (T := TX0) (N := 5) hx hb hts hinX0 hown hK hP 0 rfl rfl 4 (by decide) (hts (.fieldLink RX0 24 "TaleReader$Cast" "count" "I") (uc5 _ (List.mem_of_getElem? (i := 16) rfl))) (fun _ h9 => h9) rfl dX0_groupOf_4 ?_
      refine lv_icmp_ge (tgt := 36) hx hb dX0_groupOf_7 (by decide) (fun c_4 => ?_) (fun c_4 => ?_)
      · refine lv_aload_n hx hb dX0_groupOf_36 rfl (lv_at hl 0 rfl) ?_
        refine lv_iconst (v := 4) hx hb dX0_groupOf_37 (by decide) ?_
        refine lv_iload_n hx hb dX0_groupOf_38 rfl (lv_at hl 1 rfl) ?_
        have hPc := hP.sub (ws' := [(h0, .inr (0, [.ref ca1, .ref ca2, .ref ca3, .ref ca4, .int (nI c)])), (ca1, .inl (cI, 30, .inl fc1)), (ca2, .inl (cI, 30, .inl fc2)), (ca3, .inl (cI, 30, .inl fc3)), (ca4, .inl (cI, 30, .inl fc4))]) [0, 1, 2, 3, 4] rfl
        have hDc := hD.sub (ws' := [(h0, .inr (0, [.ref ca1, .ref ca2, .ref ca3, .ref ca4, .int (nI c)])), (ca1, .inl (cI, 30, .inl fc1)), (ca2, .inl (cI, 30, .inl fc2)), (ca3, .inl (cI, 30, .inl fc3)), (ca4, .inl (cI, 30, .inl fc4))]) [0, 1, 2, 3, 4] (by decide) rfl
        have hFc := va_free (wc := [(h0, .inr (0, [.ref ca1, .ref ca2, .ref ca3, .ref ca4, .int (nI c)])), (ca1, .inl (cI, 30, .inl fc1)), (ca2, .inl (cI, 30, .inl fc2)), (ca3, .inl (cI, 30, .inl fc3)), (ca4, .inl (cI, 30, .inl fc4))]) hD hS hA [0, 1, 2, 3, 4] rfl
        refine va_calli (va_runV (As := [.int 4, .int x]) (rest := []) ⟨hx, hb, hml, hown, hts⟩ (s_X0_add l D cB cI cZ E H.size h0 4 x ca1 ca2 ca3 ca4 c fc1 fc2 fc3 fc4 (by first | assumption | omega)) (cwV 2 hts (uV (uc25 _ (List.mem_of_getElem? (i := 1) rfl)) (uc21 _ (List.mem_of_getElem? (i := 1) rfl)) (uc21 _ (List.mem_of_getElem? (i := 2) rfl)) (uc2 _ (List.mem_of_getElem? (i := 10) rfl)) (uc21 _ (List.mem_of_getElem? (i := 3) rfl))) rfl rfl rfl (by decide +kernel) ⟨Nat.le_of_ble_eq_true rfl, Nat.le_of_ble_eq_true rfl⟩) (pVE hE hS hFc hK hPc hDc 0 rfl rfl) rfl rfl hl.1 rfl (lv_room (Nat.le_of_ble_eq_true rfl)) dX0_groupOf_39 ⟨Nat.le_of_ble_eq_true rfl, Nat.le_of_ble_eq_true rfl⟩) hS (fun q _ h => hFc q h) hFc (fun r_5 u t H_6 L_7 ht hvm hw hB hz1 hk1 hS => ?_)
        obtain ⟨c_8, fc1_9, fc2_10, fc3_11, fc4_12⟩ := u
        obtain ⟨hP1, -, hD1⟩ := hB
        rw [ht] at hP1
        obtain ⟨hP, hD⟩ := va_join (wr := []) (w1 := [(h0, .inr (0, [.ref ca1, .ref ca2, .ref ca3, .ref ca4, .int (nI c_8)])), (ca1, .inl (cI, 30, .inl fc1_9)), (ca2, .inl (cI, 30, .inl fc2_10)), (ca3, .inl (cI, 30, .inl fc3_11)), (ca4, .inl (cI, 30, .inl fc4_12))]) hP hD [0, 1, 2, 3, 4] [] rfl rfl (by decide) (by decide) hk1 hFc hP1 hD1
        have hP : va_P D vwCl [(h0, .inr (0, [.ref ca1, .ref ca2, .ref ca3, .ref ca4, .int (nI c_8)])), (ca1, .inl (cI, 30, .inl fc1_9)), (ca2, .inl (cI, 30, .inl fc2_10)), (ca3, .inl (cI, 30, .inl fc3_11)), (ca4, .inl (cI, 30, .inl fc4_12))] H_6 := hP.sub [0, 1, 2, 3, 4] rfl
        have hD : va_D A [(h0, .inr (0, [.ref ca1, .ref ca2, .ref ca3, .ref ca4, .int (nI c_8)])), (ca1, .inl (cI, 30, .inl fc1_9)), (ca2, .inl (cI, 30, .inl fc2_10)), (ca3, .inl (cI, 30, .inl fc3_11)), (ca4, .inl (cI, 30, .inl fc4_12))] := hD.sub [0, 1, 2, 3, 4] (by decide) rfl
        try dsimp only at hw
        have h_13 := hw
        have hP9 := hP.sub (ws' := [(h0, .inr (0, [.ref ca1, .ref ca2, .ref ca3, .ref ca4, .int (nI c_8)])), (ca1, .inl (cI, 30, .inl fc1_9)), (ca2, .inl (cI, 30, .inl fc2_10)), (ca3, .inl (cI, 30, .inl fc3_11)), (ca4, .inl (cI, 30, .inl fc4_12))]) [0, 1, 2, 3, 4] rfl
        have hD9 := hD.sub (ws' := [(h0, .inr (0, [.ref ca1, .ref ca2, .ref ca3, .ref ca4, .int (nI c_8)])), (ca1, .inl (cI, 30, .inl fc1_9)), (ca2, .inl (cI, 30, .inl fc2_10)), (ca3, .inl (cI, 30, .inl fc3_11)), (ca4, .inl (cI, 30, .inl fc4_12))]) [0, 1, 2, 3, 4] (by decide) rfl
        rw [← hQ]
        exact W.iret (v := r_5) hx hb hr (fun t ht hW => ⟨⟨r_5, (c_8, fc1_9, fc2_10, fc3_11, fc4_12), rfl, (by assumption), ⟨by rw [ht]; exact hP9, va_K.moved hW.alike hK, hD9⟩⟩, hS.F ht⟩) hS.2.2 dX0_groupOf_42
      · have hlt_i : i < c := Nat.lt_of_not_le (fun q => c_4 (nI_le q (by omega)))
        refine lv_aload_n hx hb dX0_groupOf_10 rfl (lv_at hl 0 rfl) ?_
        refine lv_iload_n hx hb dX0_groupOf_11 rfl (lv_at hl 2 rfl) ?_
        have hPc := hP.sub (ws' := [(h0, .inr (0, [.ref ca1, .ref ca2, .ref ca3, .ref ca4, .int (nI c)])), (ca1, .inl (cI, 30, .inl fc1))]) [0, 1] rfl
        have hDc := hD.sub (ws' := [(h0, .inr (0, [.ref ca1, .ref ca2, .ref ca3, .ref ca4, .int (nI c)])), (ca1, .inl (cI, 30, .inl fc1))]) [0, 1] (by decide) rfl
        have hFc := va_free (wc := [(h0, .inr (0, [.ref ca1, .ref ca2, .ref ca3, .ref ca4, .int (nI c)])), (ca1, .inl (cI, 30, .inl fc1))]) hD hS hA [0, 1] rfl
        refine va_calli (va_runV (As := [.int (nI i)]) (rest := []) ⟨hx, hb, hml, hown, hts⟩ (s_X0_isGroup l D cB cI cZ E H.size h0 (nI i) ca1 ca2 ca3 ca4 c fc1 (by first | assumption | omega)) (cwV 1 hts (uV (uc23 _ (List.mem_of_getElem? (i := 15) rfl)) (uc19 _ (List.mem_of_getElem? (i := 8) rfl)) (uc19 _ (List.mem_of_getElem? (i := 9) rfl)) (uc2 _ (List.mem_of_getElem? (i := 10) rfl)) (uc19 _ (List.mem_of_getElem? (i := 10) rfl))) rfl rfl rfl (by decide +kernel) ⟨Nat.le_of_ble_eq_true rfl, Nat.le_of_ble_eq_true rfl⟩) (pVE hE hS hFc hK hPc hDc 0 rfl rfl) rfl rfl hl.1 rfl (lv_room (Nat.le_of_ble_eq_true rfl)) dX0_groupOf_12 ⟨Nat.le_of_ble_eq_true rfl, Nat.le_of_ble_eq_true rfl⟩) hS (fun q _ h => hFc q h) hFc (fun r_14 u t H_15 L_16 ht hvm hw hB hz1 hk1 hS => ?_)
        obtain ⟨hP1, -, hD1⟩ := hB
        rw [ht] at hP1
        obtain ⟨hP, hD⟩ := va_join (wr := [(ca2, .inl (cI, 30, .inl fc2)), (ca3, .inl (cI, 30, .inl fc3)), (ca4, .inl (cI, 30, .inl fc4))]) (w1 := [(h0, .inr (0, [.ref ca1, .ref ca2, .ref ca3, .ref ca4, .int (nI c)])), (ca1, .inl (cI, 30, .inl fc1))]) hP hD [0, 1] [2, 3, 4] rfl rfl (by decide) (by decide) hk1 hFc hP1 hD1
        have hP : va_P D vwCl [(h0, .inr (0, [.ref ca1, .ref ca2, .ref ca3, .ref ca4, .int (nI c)])), (ca1, .inl (cI, 30, .inl fc1)), (ca2, .inl (cI, 30, .inl fc2)), (ca3, .inl (cI, 30, .inl fc3)), (ca4, .inl (cI, 30, .inl fc4))] H_15 := hP.sub [3, 4, 0, 1, 2] rfl
        have hD : va_D A [(h0, .inr (0, [.ref ca1, .ref ca2, .ref ca3, .ref ca4, .int (nI c)])), (ca1, .inl (cI, 30, .inl fc1)), (ca2, .inl (cI, 30, .inl fc2)), (ca3, .inl (cI, 30, .inl fc3)), (ca4, .inl (cI, 30, .inl fc4))] := hD.sub [3, 4, 0, 1, 2] (by decide) rfl
        try dsimp only at hw
        refine lv_if_eq (tgt := 30) hx hb dX0_groupOf_15 (by decide) (fun c_17 => ?_) (fun c_17 => ?_)
        · refine lv_iinc (v := nI (i + 1)) (lv' := [(2, .int (nI (i + 1))), (0, .ref h0), (1, .int x)]) hx hb dX0_groupOf_30 hl (k := 2) rfl (nI_add i 1) (by decide) rfl (fun ls hl => ?_)
          refine lv_goto (tgt := 2) hx hb dX0_groupOf_33 (by decide) ?_
          exact ih_2 (i + 1) (by first | assumption | exact Or.inl rfl | exact Or.inr rfl | omega) (by omega) H_15 _ ls (hP.sub (ws' := [(h0, .inr (0, [.ref ca1, .ref ca2, .ref ca3, .ref ca4, .int (nI c)])), (ca1, .inl (cI, 30, .inl fc1)), (ca2, .inl (cI, 30, .inl fc2)), (ca3, .inl (cI, 30, .inl fc3)), (ca4, .inl (cI, 30, .inl fc4))]) [0, 1, 2, 3, 4] rfl) (hD.sub (ws' := [(h0, .inr (0, [.ref ca1, .ref ca2, .ref ca3, .ref ca4, .int (nI c)])), (ca1, .inl (cI, 30, .inl fc1)), (ca2, .inl (cI, 30, .inl fc2)), (ca3, .inl (cI, 30, .inl fc3)), (ca4, .inl (cI, 30, .inl fc4))]) [0, 1, 2, 3, 4] (by decide) rfl) hS (lv_sub hl [1, 2, 0] rfl)
        · refine lv_aload_n hx hb dX0_groupOf_18 rfl (lv_at hl 0 rfl) ?_
          refine va_get (D := D) (ci := 0) (v := .ref ca3) (C := RX0) (T := TX0) (N := 5) hx hb hts hinX0 hown hK hP 0 rfl rfl 2 (by decide) (hts (.fieldLink RX0 18 "TaleReader$Cast" "members" "[I") (uc5 _ (List.mem_of_getElem? (i := 14) rfl))) (fun _ h9 => h9) rfl dX0_groupOf_19 ?_
          refine lv_iload_n hx hb dX0_groupOf_22 rfl (lv_at hl 2 rfl) ?_
          refine va_iald (D := D) hx hb hK hP 3 1 rfl rfl (vp_in_nI (by omega) (by omega)) dX0_groupOf_23 ?_
          refine lv_topi (fun v_18 ev_18 => ?_)
          refine lv_iload_n hx hb dX0_groupOf_24 rfl (lv_at hl 1 rfl) ?_
          refine lv_icmp_ne (tgt := 30) hx hb dX0_groupOf_25 (by decide) (fun c_19 => ?_) (fun c_19 => ?_)
          · refine lv_iinc (v := nI (i + 1)) (lv' := [(2, .int (nI (i + 1))), (0, .ref h0), (1, .int x)]) hx hb dX0_groupOf_30 hl (k := 2) rfl (nI_add i 1) (by decide) rfl (fun ls hl => ?_)
            refine lv_goto (tgt := 2) hx hb dX0_groupOf_33 (by decide) ?_
            exact ih_2 (i + 1) (by first | assumption | exact Or.inl rfl | exact Or.inr rfl | omega) (by omega) H_15 _ ls (hP.sub (ws' := [(h0, .inr (0, [.ref ca1, .ref ca2, .ref ca3, .ref ca4, .int (nI c)])), (ca1, .inl (cI, 30, .inl fc1)), (ca2, .inl (cI, 30, .inl fc2)), (ca3, .inl (cI, 30, .inl fc3)), (ca4, .inl (cI, 30, .inl fc4))]) [0, 1, 2, 3, 4] rfl) (hD.sub (ws' := [(h0, .inr (0, [.ref ca1, .ref ca2, .ref ca3, .ref ca4, .int (nI c)])), (ca1, .inl (cI, 30, .inl fc1)), (ca2, .inl (cI, 30, .inl fc2)), (ca3, .inl (cI, 30, .inl fc3)), (ca4, .inl (cI, 30, .inl fc4))]) [0, 1, 2, 3, 4] (by decide) rfl) hS (lv_sub hl [1, 2, 0] rfl)
          · refine lv_iload_n hx hb dX0_groupOf_28 rfl (lv_at hl 2 rfl) ?_
            have hP9 := hP.sub (ws' := [(h0, .inr (0, [.ref ca1, .ref ca2, .ref ca3, .ref ca4, .int (nI c)])), (ca1, .inl (cI, 30, .inl fc1)), (ca2, .inl (cI, 30, .inl fc2)), (ca3, .inl (cI, 30, .inl fc3)), (ca4, .inl (cI, 30, .inl fc4))]) [0, 1, 2, 3, 4] rfl
            have hD9 := hD.sub (ws' := [(h0, .inr (0, [.ref ca1, .ref ca2, .ref ca3, .ref ca4, .int (nI c)])), (ca1, .inl (cI, 30, .inl fc1)), (ca2, .inl (cI, 30, .inl fc2)), (ca3, .inl (cI, 30, .inl fc3)), (ca4, .inl (cI, 30, .inl fc4))]) [0, 1, 2, 3, 4] (by decide) rfl
            rw [← hQ]
            exact W.iret (v := nI i) hx hb hr (fun t ht hW => ⟨⟨nI i, (c, fc1, fc2, fc3, fc4), rfl, hc, ⟨by rw [ht]; exact hP9, va_K.moved hW.alike hK, hD9⟩⟩, hS.F ht⟩) hS.2.2 dX0_groupOf_29
  exact loop_1 _ 0 (by first | assumption | exact Or.inl rfl | exact Or.inr rfl | omega) (Nat.lt_succ_self _) s.heap _ ls (hP.sub (ws' := [(h0, .inr (0, [.ref ca1, .ref ca2, .ref ca3, .ref ca4, .int (nI c)])), (ca1, .inl (cI, 30, .inl fc1)), (ca2, .inl (cI, 30, .inl fc2)), (ca3, .inl (cI, 30, .inl fc3)), (ca4, .inl (cI, 30, .inl fc4))]) [0, 1, 2, 3, 4] rfl) (hD.sub (ws' := [(h0, .inr (0, [.ref ca1, .ref ca2, .ref ca3, .ref ca4, .int (nI c)])), (ca1, .inl (cI, 30, .inl fc1)), (ca2, .inl (cI, 30, .inl fc2)), (ca3, .inl (cI, 30, .inl fc3)), (ca4, .inl (cI, 30, .inl fc4))]) [0, 1, 2, 3, 4] (by decide) rfl) hS (lv_sub hl [1, 2, 0] rfl)
set_option maxHeartbeats 4000000 in
set_option maxRecDepth 100000 in
theorem s_X0_nowOf (l : Launch) (D : va_G) (cB cI cZ : ClassId) (E : pEt) (sz : Nat) (h0 : Nat) (x : Int32) (ca1 : Nat) (ca2 : Nat) (ca3 : Nat) (ca4 : Nat) (c : Nat) (fc2 : Nat → Int32) (hc : c ≤ 30) : Met l yX0_nowOf (.code yX0_nowOf cX0_nowOf 4 (some .int) :: wsL_law) ({ frames := 1, cells := 0, slots := 0, locals := 21 } : Room) (va_Pc [.ref h0, .int x] (pInE E D (pT cB cI cZ) sz [(h0, .inr (0, [.ref ca1, .ref ca2, .ref ca3, .ref ca4, .int (nI c)])), (ca2, .inl (cI, 30, .inl fc2))])) (va_Qi (fun (r : Int32) (u : Unit) => True) (fun (u : Unit) (t : State) => pAt D (pT cB cI cZ) (va_A [(h0, .inr (0, [.ref ca1, .ref ca2, .ref ca3, .ref ca4, .int (nI c)])), (ca2, .inl (cI, 30, .inl fc2))] sz) [(h0, .inr (0, [.ref ca1, .ref ca2, .ref ca3, .ref ca4, .int (nI c)])), (ca2, .inl (cI, 30, .inl fc2))] t) (va_A [(h0, .inr (0, [.ref ca1, .ref ca2, .ref ca3, .ref ca4, .int (nI c)])), (ca2, .inl (cI, 30, .inl fc2))] sz)) 0 0 (va_A [(h0, .inr (0, [.ref ca1, .ref ca2, .ref ca3, .ref ca4, .int (nI c)])), (ca2, .inl (cI, 30, .inl fc2))] sz) := by
  refine Met.ofW (cc := cX0_nowOf) (maxL := 4) (ret := (some .int)) (by decide) rfl ?_
  intro p e s m args below meth cd s₁ B hml hv
  obtain ⟨rfl, hsz, hP, hK, hD0, hE⟩ := hv
  have hx := B.exec
  have hb := B.bytes
  have hr := B.returns
  have hts0 := atoms_spec (ws := .code yX0_nowOf cX0_nowOf 4 (some .int) :: wsL_law) B.pre
  have hts := fun (w : Cond) (h : w ∈ wsL_law) => hts0 w (List.mem_cons_of_mem _ h)
  have hown : s.vm.findClass RX0 = some m.cls := findClass_of_methodNamed B.named
  have hlocks := B.notSynchronized
  have hinX0 := inlX0
  subst hsz
  have hD := hD0.self (sz := s.heap.size)
  generalize hAe : va_A [(h0, .inr (0, [.ref ca1, .ref ca2, .ref ca3, .ref ca4, .int (nI c)])), (ca2, .inl (cI, 30, .inl fc2))] s.heap.size = A at hD hE ⊢
  have hA : ∀ q : Nat, s.heap.size ≤ q → A q := fun q h => by rw [← hAe]; exact Or.inr h
  have hS : va_S A s.heap s.heap [] := va_S.rf
  have hP : va_P D vwCl [(h0, .inr (0, [.ref ca1, .ref ca2, .ref ca3, .ref ca4, .int (nI c)])), (ca2, .inl (cI, 30, .inl fc2))] s.heap := hP
  have hl := lv_entry ([.ref h0, .int x]) (n := 4) (Nat.le_of_ble_eq_true rfl)
  rw [lg_entry_eq]
  generalize (lg_sl ([.ref h0, .int x]) ++ List.replicate (4 - (lg_sl ([.ref h0, .int x])).length) Slot.unset).toArray = ls at hl ⊢
  have hl : lv_has ls 4 [(0, .ref h0), (1, .int x)] := hl
  generalize hQ : MQ below _ _ _ _ _ _ = Q
  refine lv_aload_n hx hb dX0_nowOf_0 rfl (lv_at hl 0 rfl) ?_
  refine lv_iload_n hx hb dX0_nowOf_1 rfl (lv_at hl 1 rfl) ?_
  have hPc := hP.sub (ws' := [(h0, .inr (0, [.ref ca1, .ref ca2, .ref ca3, .ref ca4, .int (nI c)]))]) [0] rfl
  have hDc := hD.sub (ws' := [(h0, .inr (0, [.ref ca1, .ref ca2, .ref ca3, .ref ca4, .int (nI c)]))]) [0] (by decide) rfl
  have hFc := va_free (wc := [(h0, .inr (0, [.ref ca1, .ref ca2, .ref ca3, .ref ca4, .int (nI c)]))]) hD hS hA [0] rfl
  refine va_calli (va_runV (As := [.int x]) (rest := []) ⟨hx, hb, hml, hown, hts⟩ (s_X0_has l D cB cI cZ E s.heap.size h0 x ca1 ca2 ca3 ca4 (nI c)) (cwV 1 hts (uV (uc18 _ (List.mem_of_getElem? (i := 23) rfl)) (uc19 _ (List.mem_of_getElem? (i := 0) rfl)) (uc19 _ (List.mem_of_getElem? (i := 1) rfl)) (uc2 _ (List.mem_of_getElem? (i := 10) rfl)) (uc19 _ (List.mem_of_getElem? (i := 2) rfl))) rfl rfl rfl (by decide +kernel) ⟨Nat.le_of_ble_eq_true rfl, Nat.le_of_ble_eq_true rfl⟩) (pVE hE hS hFc hK hPc hDc 0 rfl rfl) rfl rfl hl.1 rfl (lv_room (Nat.le_of_ble_eq_true rfl)) dX0_nowOf_2 ⟨Nat.le_of_ble_eq_true rfl, Nat.le_of_ble_eq_true rfl⟩) hS (fun q _ h => hFc q h) hFc (fun r_1 u t H_2 L_3 ht hvm hw hB hz1 hk1 hS => ?_)
  obtain ⟨hP1, -, hD1⟩ := hB
  rw [ht] at hP1
  obtain ⟨hP, hD⟩ := va_join (wr := [(ca2, .inl (cI, 30, .inl fc2))]) (w1 := [(h0, .inr (0, [.ref ca1, .ref ca2, .ref ca3, .ref ca4, .int (nI c)]))]) hP hD [0] [1] rfl rfl (by decide) (by decide) hk1 hFc hP1 hD1
  have hP : va_P D vwCl [(h0, .inr (0, [.ref ca1, .ref ca2, .ref ca3, .ref ca4, .int (nI c)])), (ca2, .inl (cI, 30, .inl fc2))] H_2 := hP.sub [1, 0] rfl
  have hD : va_D A [(h0, .inr (0, [.ref ca1, .ref ca2, .ref ca3, .ref ca4, .int (nI c)])), (ca2, .inl (cI, 30, .inl fc2))] := hD.sub [1, 0] (by decide) rfl
  try dsimp only at hw
  rcases hw with ⟨rfl, h_4⟩ | ⟨rfl, h_5, h_6⟩
  · refine lv_if_eq (tgt := 12) hx hb dX0_nowOf_5 (by decide) (fun c_7 => ?_) (fun c_7 => ?_)
    · refine lv_iconst (v := (-1)) hx hb dX0_nowOf_12 (by decide) ?_
      refine lv_istore_n (lv' := [(2, .int (-1)), (0, .ref h0), (1, .int x)]) hx hb dX0_nowOf_13 rfl hl (by decide) rfl (fun ls hl => ?_)
      refine lv_iconst (v := 0) hx hb dX0_nowOf_14 (by decide) ?_
      refine lv_istore_n (lv' := [(3, .int 0), (2, .int (-1)), (0, .ref h0), (1, .int x)]) hx hb dX0_nowOf_15 rfl hl (by decide) rfl (fun ls hl => ?_)
      have loop_8 : ∀ (nn_10 : Nat) (i : Nat) (y : Int32), (i ≤ 600) → (30 - i < nn_10) → ∀ (H : Heap) (locs : List Loc) (ls : Array Slot), va_P D vwCl [(h0, .inr (0, [.ref ca1, .ref ca2, .ref ca3, .ref ca4, .int (nI c)])), (ca2, .inl (cI, 30, .inl fc2))] H → va_D A [(h0, .inr (0, [.ref ca1, .ref ca2, .ref ca3, .ref ca4, .int (nI c)])), (ca2, .inl (cI, 30, .inl fc2))] → va_S A s.heap H locs → lv_has ls 4 [(0, .ref h0), (2, .int y), (3, .int (nI i))] → W p l e ({ frames := 1, cells := 0, slots := 0, locals := 21 } : Room) s m ([.ref h0, .int x] : List Value).toArray below meth cd H locs 0 0 Q (F0 m 16 ls []) := by
        intro nn_10
        induction nn_10 with
        | zero => intros; exact absurd ‹_ < 0› (Nat.not_lt_zero _)
        | succ nn_10 ih_9 =>
          intro i y hi600 hmu H locs ls hP hD hS hl
          refine lv_iload_n hx hb dX0_nowOf_16 rfl (lv_at hl 2 rfl) ?_
          refine lv_bipush (v := 30) hx hb dX0_nowOf_17 (by decide) ?_
          refine lv_icmp_ge (tgt := 53) hx hb dX0_nowOf_19 (by decide) (fun c_11 => ?_) (fun c_11 => ?_)
          · refine lv_iload_n hx hb dX0_nowOf_53 rfl (lv_at hl 1 rfl) ?_
            have hP9 := hP.sub (ws' := [(h0, .inr (0, [.ref ca1, .ref ca2, .ref ca3, .ref ca4, .int (nI c)])), (ca2, .inl (cI, 30, .inl fc2))]) [0, 1] rfl
            have hD9 := hD.sub (ws' := [(h0, .inr (0, [.ref ca1, .ref ca2, .ref ca3, .ref ca4, .int (nI c)])), (ca2, .inl (cI, 30, .inl fc2))]) [0, 1] (by decide) rfl
            rw [← hQ]
            exact W.iret (v := y) hx hb hr (fun t ht hW => ⟨⟨y, (), rfl, trivial, ⟨by rw [ht]; exact hP9, va_K.moved hW.alike hK, hD9⟩⟩, hS.F ht⟩) hS.2.2 dX0_nowOf_54
          · have hlt_i : i < 30 := Nat.lt_of_not_le (fun q => c_11 (nI_le q (by omega)))
            refine lv_aload_n hx hb dX0_nowOf_22 rfl (lv_at hl 0 rfl) ?_
            refine lv_iload_n hx hb dX0_nowOf_23 rfl (lv_at hl 1 rfl) ?_
            have hPc := hP.sub (ws' := [(h0, .inr (0, [.ref ca1, .ref ca2, .ref ca3, .ref ca4, .int (nI c)]))]) [0] rfl
            have hDc := hD.sub (ws' := [(h0, .inr (0, [.ref ca1, .ref ca2, .ref ca3, .ref ca4, .int (nI c)]))]) [0] (by decide) rfl
            have hFc := va_free (wc := [(h0, .inr (0, [.ref ca1, .ref ca2, .ref ca3, .ref ca4, .int (nI c)]))]) hD hS hA [0] rfl
            refine va_calli (va_runV (As := [.int y]) (rest := []) ⟨hx, hb, hml, hown, hts⟩ (s_X0_has l D cB cI cZ E H.size h0 y ca1 ca2 ca3 ca4 (nI c)) (cwV 1 hts (uV (uc18 _ (List.mem_of_getElem? (i := 23) rfl)) (uc19 _ (List.mem_of_getElem? (i := 0) rfl)) (uc19 _ (List.mem_of_getElem? (i := 1) rfl)) (uc2 _ (List.mem_of_getElem? (i := 10) rfl)) (uc19 _ (List.mem_of_getElem? (i := 2) rfl))) rfl rfl rfl (by decide +kernel) ⟨Nat.le_of_ble_eq_true rfl, Nat.le_of_ble_eq_true rfl⟩) (pVE hE hS hFc hK hPc hDc 0 rfl rfl) rfl rfl hl.1 rfl (lv_room (Nat.le_of_ble_eq_true rfl)) dX0_nowOf_24 ⟨Nat.le_of_ble_eq_true rfl, Nat.le_of_ble_eq_true rfl⟩) hS (fun q _ h => hFc q h) hFc (fun r_12 u t H_13 L_14 ht hvm hw hB hz1 hk1 hS => ?_)
            obtain ⟨hP1, -, hD1⟩ := hB
            rw [ht] at hP1
            obtain ⟨hP, hD⟩ := va_join (wr := [(ca2, .inl (cI, 30, .inl fc2))]) (w1 := [(h0, .inr (0, [.ref ca1, .ref ca2, .ref ca3, .ref ca4, .int (nI c)]))]) hP hD [0] [1] rfl rfl (by decide) (by decide) hk1 hFc hP1 hD1
            have hP : va_P D vwCl [(h0, .inr (0, [.ref ca1, .ref ca2, .ref ca3, .ref ca4, .int (nI c)])), (ca2, .inl (cI, 30, .inl fc2))] H_13 := hP.sub [1, 0] rfl
            have hD : va_D A [(h0, .inr (0, [.ref ca1, .ref ca2, .ref ca3, .ref ca4, .int (nI c)])), (ca2, .inl (cI, 30, .inl fc2))] := hD.sub [1, 0] (by decide) rfl
            try dsimp only at hw
            rcases hw with ⟨rfl, h_15⟩ | ⟨rfl, h_16, h_17⟩
            · refine lv_if_eq (tgt := 53) hx hb dX0_nowOf_27 (by decide) (fun c_18 => ?_) (fun c_18 => ?_)
              · refine lv_iload_n hx hb dX0_nowOf_53 rfl (lv_at hl 1 rfl) ?_
                have hP9 := hP.sub (ws' := [(h0, .inr (0, [.ref ca1, .ref ca2, .ref ca3, .ref ca4, .int (nI c)])), (ca2, .inl (cI, 30, .inl fc2))]) [0, 1] rfl
                have hD9 := hD.sub (ws' := [(h0, .inr (0, [.ref ca1, .ref ca2, .ref ca3, .ref ca4, .int (nI c)])), (ca2, .inl (cI, 30, .inl fc2))]) [0, 1] (by decide) rfl
                rw [← hQ]
                exact W.iret (v := y) hx hb hr (fun t ht hW => ⟨⟨y, (), rfl, trivial, ⟨by rw [ht]; exact hP9, va_K.moved hW.alike hK, hD9⟩⟩, hS.F ht⟩) hS.2.2 dX0_nowOf_54
              · exact False.elim (by revert c_18; decide)
            · refine lv_if_eq (tgt := 53) hx hb dX0_nowOf_27 (by decide) (fun c_19 => ?_) (fun c_19 => ?_)
              · exact False.elim (by revert c_19; decide)
              · refine lv_aload_n hx hb dX0_nowOf_30 rfl (lv_at hl 0 rfl) ?_
                refine va_get (D := D) (ci := 0) (v := .ref ca2) (C := RX0) (T := TX0) (N := 5) hx hb hts hinX0 hown hK hP 0 rfl rfl 1 (by decide) (hts (.fieldLink RX0 15 "TaleReader$Cast" "joined" "[I") (uc5 _ (List.mem_of_getElem? (i := 13) rfl))) (fun _ h9 => h9) rfl dX0_nowOf_31 ?_
                refine lv_iload_n hx hb dX0_nowOf_34 rfl (lv_at hl 1 rfl) ?_
                refine va_iald (D := D) hx hb hK hP 1 1 rfl rfl (by first | assumption | exact pIxc (by assumption) (by assumption) (by omega) (by omega)) dX0_nowOf_35 ?_
                refine lv_topi (fun v_20 ev_20 => ?_)
                refine lv_iconst (v := (-1)) hx hb dX0_nowOf_36 (by decide) ?_
                refine lv_icmp_eq (tgt := 53) hx hb dX0_nowOf_37 (by decide) (fun c_21 => ?_) (fun c_21 => ?_)
                · refine lv_iload_n hx hb dX0_nowOf_53 rfl (lv_at hl 1 rfl) ?_
                  have hP9 := hP.sub (ws' := [(h0, .inr (0, [.ref ca1, .ref ca2, .ref ca3, .ref ca4, .int (nI c)])), (ca2, .inl (cI, 30, .inl fc2))]) [0, 1] rfl
                  have hD9 := hD.sub (ws' := [(h0, .inr (0, [.ref ca1, .ref ca2, .ref ca3, .ref ca4, .int (nI c)])), (ca2, .inl (cI, 30, .inl fc2))]) [0, 1] (by decide) rfl
                  rw [← hQ]
                  exact W.iret (v := y) hx hb hr (fun t ht hW => ⟨⟨y, (), rfl, trivial, ⟨by rw [ht]; exact hP9, va_K.moved hW.alike hK, hD9⟩⟩, hS.F ht⟩) hS.2.2 dX0_nowOf_54
                · refine lv_aload_n hx hb dX0_nowOf_40 rfl (lv_at hl 0 rfl) ?_
                  refine va_get (D := D) (ci := 0) (v := .ref ca2) (C := RX0) (T := TX0) (N := 5) hx hb hts hinX0 hown hK hP 0 rfl rfl 1 (by decide) (hts (.fieldLink RX0 15 "TaleReader$Cast" "joined" "[I") (uc5 _ (List.mem_of_getElem? (i := 13) rfl))) (fun _ h9 => h9) rfl dX0_nowOf_41 ?_
                  refine lv_iload_n hx hb dX0_nowOf_44 rfl (lv_at hl 1 rfl) ?_
                  refine va_iald (D := D) hx hb hK hP 1 1 rfl rfl (by first | assumption | exact pIxc (by assumption) (by assumption) (by omega) (by omega)) dX0_nowOf_45 ?_
                  refine lv_topi (fun v_22 ev_22 => ?_)
                  refine lv_istore_n (lv' := [(2, .int v_22), (0, .ref h0), (3, .int (nI i))]) hx hb dX0_nowOf_46 rfl hl (by decide) rfl (fun ls hl => ?_)
                  refine lv_iinc (v := nI (i + 1)) (lv' := [(3, .int (nI (i + 1))), (2, .int v_22), (0, .ref h0)]) hx hb dX0_nowOf_47 hl (k := 2) rfl (nI_add i 1) (by decide) rfl (fun ls hl => ?_)
                  refine lv_goto (tgt := 16) hx hb dX0_nowOf_50 (by decide) ?_
                  exact ih_9 (i + 1) v_22 (by first | assumption | exact Or.inl rfl | exact Or.inr rfl | omega) (by omega) H_13 _ ls (hP.sub (ws' := [(h0, .inr (0, [.ref ca1, .ref ca2, .ref ca3, .ref ca4, .int (nI c)])), (ca2, .inl (cI, 30, .inl fc2))]) [0, 1] rfl) (hD.sub (ws' := [(h0, .inr (0, [.ref ca1, .ref ca2, .ref ca3, .ref ca4, .int (nI c)])), (ca2, .inl (cI, 30, .inl fc2))]) [0, 1] (by decide) rfl) hS (lv_sub hl [2, 1, 0] rfl)
      exact loop_8 _ 0 (-1) (by first | assumption | exact Or.inl rfl | exact Or.inr rfl | omega) (Nat.lt_succ_self _) H_2 _ ls (hP.sub (ws' := [(h0, .inr (0, [.ref ca1, .ref ca2, .ref ca3, .ref ca4, .int (nI c)])), (ca2, .inl (cI, 30, .inl fc2))]) [0, 1] rfl) (hD.sub (ws' := [(h0, .inr (0, [.ref ca1, .ref ca2, .ref ca3, .ref ca4, .int (nI c)])), (ca2, .inl (cI, 30, .inl fc2))]) [0, 1] (by decide) rfl) hS (lv_sub hl [2, 1, 0] rfl)
    · exact False.elim (by revert c_7; decide)
  · refine lv_if_eq (tgt := 12) hx hb dX0_nowOf_5 (by decide) (fun c_23 => ?_) (fun c_23 => ?_)
    · exact False.elim (by revert c_23; decide)
    · refine lv_iload_n hx hb dX0_nowOf_8 rfl (lv_at hl 1 rfl) ?_
      refine lv_goto (tgt := 13) hx hb dX0_nowOf_9 (by decide) ?_
      refine lv_istore_n (lv' := [(2, .int x), (0, .ref h0), (1, .int x)]) hx hb dX0_nowOf_13 rfl hl (by decide) rfl (fun ls hl => ?_)
      refine lv_iconst (v := 0) hx hb dX0_nowOf_14 (by decide) ?_
      refine lv_istore_n (lv' := [(3, .int 0), (2, .int x), (0, .ref h0), (1, .int x)]) hx hb dX0_nowOf_15 rfl hl (by decide) rfl (fun ls hl => ?_)
      have loop_24 : ∀ (nn_26 : Nat) (i : Nat) (y : Int32), (i ≤ 600) → (30 - i < nn_26) → ∀ (H : Heap) (locs : List Loc) (ls : Array Slot), va_P D vwCl [(h0, .inr (0, [.ref ca1, .ref ca2, .ref ca3, .ref ca4, .int (nI c)])), (ca2, .inl (cI, 30, .inl fc2))] H → va_D A [(h0, .inr (0, [.ref ca1, .ref ca2, .ref ca3, .ref ca4, .int (nI c)])), (ca2, .inl (cI, 30, .inl fc2))] → va_S A s.heap H locs → lv_has ls 4 [(0, .ref h0), (2, .int y), (3, .int (nI i))] → W p l e ({ frames := 1, cells := 0, slots := 0, locals := 21 } : Room) s m ([.ref h0, .int x] : List Value).toArray below meth cd H locs 0 0 Q (F0 m 16 ls []) := by
        intro nn_26
        induction nn_26 with
        | zero => intros; exact absurd ‹_ < 0› (Nat.not_lt_zero _)
        | succ nn_26 ih_25 =>
          intro i y hi600 hmu H locs ls hP hD hS hl
          refine lv_iload_n hx hb dX0_nowOf_16 rfl (lv_at hl 2 rfl) ?_
          refine lv_bipush (v := 30) hx hb dX0_nowOf_17 (by decide) ?_
          refine lv_icmp_ge (tgt := 53) hx hb dX0_nowOf_19 (by decide) (fun c_27 => ?_) (fun c_27 => ?_)
          · refine lv_iload_n hx hb dX0_nowOf_53 rfl (lv_at hl 1 rfl) ?_
            have hP9 := hP.sub (ws' := [(h0, .inr (0, [.ref ca1, .ref ca2, .ref ca3, .ref ca4, .int (nI c)])), (ca2, .inl (cI, 30, .inl fc2))]) [0, 1] rfl
            have hD9 := hD.sub (ws' := [(h0, .inr (0, [.ref ca1, .ref ca2, .ref ca3, .ref ca4, .int (nI c)])), (ca2, .inl (cI, 30, .inl fc2))]) [0, 1] (by decide) rfl
            rw [← hQ]
            exact W.iret (v := y) hx hb hr (fun t ht hW => ⟨⟨y, (), rfl, trivial, ⟨by rw [ht]; exact hP9, va_K.moved hW.alike hK, hD9⟩⟩, hS.F ht⟩) hS.2.2 dX0_nowOf_54
          · have hlt_i : i < 30 := Nat.lt_of_not_le (fun q => c_27 (nI_le q (by omega)))
            refine lv_aload_n hx hb dX0_nowOf_22 rfl (lv_at hl 0 rfl) ?_
            refine lv_iload_n hx hb dX0_nowOf_23 rfl (lv_at hl 1 rfl) ?_
            have hPc := hP.sub (ws' := [(h0, .inr (0, [.ref ca1, .ref ca2, .ref ca3, .ref ca4, .int (nI c)]))]) [0] rfl
            have hDc := hD.sub (ws' := [(h0, .inr (0, [.ref ca1, .ref ca2, .ref ca3, .ref ca4, .int (nI c)]))]) [0] (by decide) rfl
            have hFc := va_free (wc := [(h0, .inr (0, [.ref ca1, .ref ca2, .ref ca3, .ref ca4, .int (nI c)]))]) hD hS hA [0] rfl
            refine va_calli (va_runV (As := [.int y]) (rest := []) ⟨hx, hb, hml, hown, hts⟩ (s_X0_has l D cB cI cZ E H.size h0 y ca1 ca2 ca3 ca4 (nI c)) (cwV 1 hts (uV (uc18 _ (List.mem_of_getElem? (i := 23) rfl)) (uc19 _ (List.mem_of_getElem? (i := 0) rfl)) (uc19 _ (List.mem_of_getElem? (i := 1) rfl)) (uc2 _ (List.mem_of_getElem? (i := 10) rfl)) (uc19 _ (List.mem_of_getElem? (i := 2) rfl))) rfl rfl rfl (by decide +kernel) ⟨Nat.le_of_ble_eq_true rfl, Nat.le_of_ble_eq_true rfl⟩) (pVE hE hS hFc hK hPc hDc 0 rfl rfl) rfl rfl hl.1 rfl (lv_room (Nat.le_of_ble_eq_true rfl)) dX0_nowOf_24 ⟨Nat.le_of_ble_eq_true rfl, Nat.le_of_ble_eq_true rfl⟩) hS (fun q _ h => hFc q h) hFc (fun r_28 u t H_29 L_30 ht hvm hw hB hz1 hk1 hS => ?_)
            obtain ⟨hP1, -, hD1⟩ := hB
            rw [ht] at hP1
            obtain ⟨hP, hD⟩ := va_join (wr := [(ca2, .inl (cI, 30, .inl fc2))]) (w1 := [(h0, .inr (0, [.ref ca1, .ref ca2, .ref ca3, .ref ca4, .int (nI c)]))]) hP hD [0] [1] rfl rfl (by decide) (by decide) hk1 hFc hP1 hD1
            have hP : va_P D vwCl [(h0, .inr (0, [.ref ca1, .ref ca2, .ref ca3, .ref ca4, .int (nI c)])), (ca2, .inl (cI, 30, .inl fc2))] H_29 := hP.sub [1, 0] rfl
            have hD : va_D A [(h0, .inr (0, [.ref ca1, .ref ca2, .ref ca3, .ref ca4, .int (nI c)])), (ca2, .inl (cI, 30, .inl fc2))] := hD.sub [1, 0] (by decide) rfl
            try dsimp only at hw
            rcases hw with ⟨rfl, h_31⟩ | ⟨rfl, h_32, h_33⟩
            · refine lv_if_eq (tgt := 53) hx hb dX0_nowOf_27 (by decide) (fun c_34 => ?_) (fun c_34 => ?_)
              · refine lv_iload_n hx hb dX0_nowOf_53 rfl (lv_at hl 1 rfl) ?_
                have hP9 := hP.sub (ws' := [(h0, .inr (0, [.ref ca1, .ref ca2, .ref ca3, .ref ca4, .int (nI c)])), (ca2, .inl (cI, 30, .inl fc2))]) [0, 1] rfl
                have hD9 := hD.sub (ws' := [(h0, .inr (0, [.ref ca1, .ref ca2, .ref ca3, .ref ca4, .int (nI c)])), (ca2, .inl (cI, 30, .inl fc2))]) [0, 1] (by decide) rfl
                rw [← hQ]
                exact W.iret (v := y) hx hb hr (fun t ht hW => ⟨⟨y, (), rfl, trivial, ⟨by rw [ht]; exact hP9, va_K.moved hW.alike hK, hD9⟩⟩, hS.F ht⟩) hS.2.2 dX0_nowOf_54
              · exact False.elim (by revert c_34; decide)
            · refine lv_if_eq (tgt := 53) hx hb dX0_nowOf_27 (by decide) (fun c_35 => ?_) (fun c_35 => ?_)
              · exact False.elim (by revert c_35; decide)
              · refine lv_aload_n hx hb dX0_nowOf_30 rfl (lv_at hl 0 rfl) ?_
                refine va_get (D := D) (ci := 0) (v := .ref ca2) (C := RX0) (T := TX0) (N := 5) hx hb hts hinX0 hown hK hP 0 rfl rfl 1 (by decide) (hts (.fieldLink RX0 15 "TaleReader$Cast" "joined" "[I") (uc5 _ (List.mem_of_getElem? (i := 13) rfl))) (fun _ h9 => h9) rfl dX0_nowOf_31 ?_
                refine lv_iload_n hx hb dX0_nowOf_34 rfl (lv_at hl 1 rfl) ?_
                refine va_iald (D := D) hx hb hK hP 1 1 rfl rfl (by first | assumption | exact pIxc (by assumption) (by assumption) (by omega) (by omega)) dX0_nowOf_35 ?_
                refine lv_topi (fun v_36 ev_36 => ?_)
                refine lv_iconst (v := (-1)) hx hb dX0_nowOf_36 (by decide) ?_
                refine lv_icmp_eq (tgt := 53) hx hb dX0_nowOf_37 (by decide) (fun c_37 => ?_) (fun c_37 => ?_)
                · refine lv_iload_n hx hb dX0_nowOf_53 rfl (lv_at hl 1 rfl) ?_
                  have hP9 := hP.sub (ws' := [(h0, .inr (0, [.ref ca1, .ref ca2, .ref ca3, .ref ca4, .int (nI c)])), (ca2, .inl (cI, 30, .inl fc2))]) [0, 1] rfl
                  have hD9 := hD.sub (ws' := [(h0, .inr (0, [.ref ca1, .ref ca2, .ref ca3, .ref ca4, .int (nI c)])), (ca2, .inl (cI, 30, .inl fc2))]) [0, 1] (by decide) rfl
                  rw [← hQ]
                  exact W.iret (v := y) hx hb hr (fun t ht hW => ⟨⟨y, (), rfl, trivial, ⟨by rw [ht]; exact hP9, va_K.moved hW.alike hK, hD9⟩⟩, hS.F ht⟩) hS.2.2 dX0_nowOf_54
                · refine lv_aload_n hx hb dX0_nowOf_40 rfl (lv_at hl 0 rfl) ?_
                  refine va_get (D := D) (ci := 0) (v := .ref ca2) (C := RX0) (T := TX0) (N := 5) hx hb hts hinX0 hown hK hP 0 rfl rfl 1 (by decide) (hts (.fieldLink RX0 15 "TaleReader$Cast" "joined" "[I") (uc5 _ (List.mem_of_getElem? (i := 13) rfl))) (fun _ h9 => h9) rfl dX0_nowOf_41 ?_
                  refine lv_iload_n hx hb dX0_nowOf_44 rfl (lv_at hl 1 rfl) ?_
                  refine va_iald (D := D) hx hb hK hP 1 1 rfl rfl (by first | assumption | exact pIxc (by assumption) (by assumption) (by omega) (by omega)) dX0_nowOf_45 ?_
                  refine lv_topi (fun v_38 ev_38 => ?_)
                  refine lv_istore_n (lv' := [(2, .int v_38), (0, .ref h0), (3, .int (nI i))]) hx hb dX0_nowOf_46 rfl hl (by decide) rfl (fun ls hl => ?_)
                  refine lv_iinc (v := nI (i + 1)) (lv' := [(3, .int (nI (i + 1))), (2, .int v_38), (0, .ref h0)]) hx hb dX0_nowOf_47 hl (k := 2) rfl (nI_add i 1) (by decide) rfl (fun ls hl => ?_)
                  refine lv_goto (tgt := 16) hx hb dX0_nowOf_50 (by decide) ?_
                  exact ih_25 (i + 1) v_38 (by first | assumption | exact Or.inl rfl | exact Or.inr rfl | omega) (by omega) H_29 _ ls (hP.sub (ws' := [(h0, .inr (0, [.ref ca1, .ref ca2, .ref ca3, .ref ca4, .int (nI c)])), (ca2, .inl (cI, 30, .inl fc2))]) [0, 1] rfl) (hD.sub (ws' := [(h0, .inr (0, [.ref ca1, .ref ca2, .ref ca3, .ref ca4, .int (nI c)])), (ca2, .inl (cI, 30, .inl fc2))]) [0, 1] (by decide) rfl) hS (lv_sub hl [2, 1, 0] rfl)
      exact loop_24 _ 0 x (by first | assumption | exact Or.inl rfl | exact Or.inr rfl | omega) (Nat.lt_succ_self _) H_2 _ ls (hP.sub (ws' := [(h0, .inr (0, [.ref ca1, .ref ca2, .ref ca3, .ref ca4, .int (nI c)])), (ca2, .inl (cI, 30, .inl fc2))]) [0, 1] rfl) (hD.sub (ws' := [(h0, .inr (0, [.ref ca1, .ref ca2, .ref ca3, .ref ca4, .int (nI c)])), (ca2, .inl (cI, 30, .inl fc2))]) [0, 1] (by decide) rfl) hS (lv_sub hl [2, 1, 0] rfl)
set_option maxHeartbeats 4000000 in
set_option maxRecDepth 100000 in
theorem s_X0_canJoin (l : Launch) (D : va_G) (cB cI cZ : ClassId) (E : pEt) (sz : Nat) (h0 : Nat) (x : Int32) (y : Int32) (ca1 : Nat) (ca2 : Nat) (ca3 : Nat) (ca4 : Nat) (c : Nat) (fc1 : Nat → Int32) (fc2 : Nat → Int32) (hc : c ≤ 30) : Met l yX0_canJoin (.code yX0_canJoin cX0_canJoin 3 (some .boolean) :: wsL_law) ({ frames := 2, cells := 0, slots := 0, locals := 42 } : Room) (va_Pc [.ref h0, .int x, .int y] (pInE E D (pT cB cI cZ) sz [(h0, .inr (0, [.ref ca1, .ref ca2, .ref ca3, .ref ca4, .int (nI c)])), (ca1, .inl (cI, 30, .inl fc1)), (ca2, .inl (cI, 30, .inl fc2))])) (va_Qi (fun (r : Int32) (u : Unit) => True) (fun (u : Unit) (t : State) => pAt D (pT cB cI cZ) (va_A [(h0, .inr (0, [.ref ca1, .ref ca2, .ref ca3, .ref ca4, .int (nI c)])), (ca1, .inl (cI, 30, .inl fc1)), (ca2, .inl (cI, 30, .inl fc2))] sz) [(h0, .inr (0, [.ref ca1, .ref ca2, .ref ca3, .ref ca4, .int (nI c)])), (ca1, .inl (cI, 30, .inl fc1)), (ca2, .inl (cI, 30, .inl fc2))] t) (va_A [(h0, .inr (0, [.ref ca1, .ref ca2, .ref ca3, .ref ca4, .int (nI c)])), (ca1, .inl (cI, 30, .inl fc1)), (ca2, .inl (cI, 30, .inl fc2))] sz)) 0 0 (va_A [(h0, .inr (0, [.ref ca1, .ref ca2, .ref ca3, .ref ca4, .int (nI c)])), (ca1, .inl (cI, 30, .inl fc1)), (ca2, .inl (cI, 30, .inl fc2))] sz) := by
  refine Met.ofW (cc := cX0_canJoin) (maxL := 3) (ret := (some .boolean)) (by decide) rfl ?_
  intro p e s m args below meth cd s₁ B hml hv
  obtain ⟨rfl, hsz, hP, hK, hD0, hE⟩ := hv
  have hx := B.exec
  have hb := B.bytes
  have hr := B.returns
  have hts0 := atoms_spec (ws := .code yX0_canJoin cX0_canJoin 3 (some .boolean) :: wsL_law) B.pre
  have hts := fun (w : Cond) (h : w ∈ wsL_law) => hts0 w (List.mem_cons_of_mem _ h)
  have hown : s.vm.findClass RX0 = some m.cls := findClass_of_methodNamed B.named
  have hlocks := B.notSynchronized
  have hinX0 := inlX0
  subst hsz
  have hD := hD0.self (sz := s.heap.size)
  generalize hAe : va_A [(h0, .inr (0, [.ref ca1, .ref ca2, .ref ca3, .ref ca4, .int (nI c)])), (ca1, .inl (cI, 30, .inl fc1)), (ca2, .inl (cI, 30, .inl fc2))] s.heap.size = A at hD hE ⊢
  have hA : ∀ q : Nat, s.heap.size ≤ q → A q := fun q h => by rw [← hAe]; exact Or.inr h
  have hS : va_S A s.heap s.heap [] := va_S.rf
  have hP : va_P D vwCl [(h0, .inr (0, [.ref ca1, .ref ca2, .ref ca3, .ref ca4, .int (nI c)])), (ca1, .inl (cI, 30, .inl fc1)), (ca2, .inl (cI, 30, .inl fc2))] s.heap := hP
  have hl := lv_entry ([.ref h0, .int x, .int y]) (n := 3) (Nat.le_of_ble_eq_true rfl)
  rw [lg_entry_eq]
  generalize (lg_sl ([.ref h0, .int x, .int y]) ++ List.replicate (3 - (lg_sl ([.ref h0, .int x, .int y])).length) Slot.unset).toArray = ls at hl ⊢
  have hl : lv_has ls 3 [(0, .ref h0), (1, .int x), (2, .int y)] := hl
  refine lv_aload_n hx hb dX0_canJoin_0 rfl (lv_at hl 0 rfl) ?_
  refine lv_iload_n hx hb dX0_canJoin_1 rfl (lv_at hl 1 rfl) ?_
  have hPc := hP.sub (ws' := [(h0, .inr (0, [.ref ca1, .ref ca2, .ref ca3, .ref ca4, .int (nI c)])), (ca2, .inl (cI, 30, .inl fc2))]) [0, 2] rfl
  have hDc := hD.sub (ws' := [(h0, .inr (0, [.ref ca1, .ref ca2, .ref ca3, .ref ca4, .int (nI c)])), (ca2, .inl (cI, 30, .inl fc2))]) [0, 2] (by decide) rfl
  have hFc := va_free (wc := [(h0, .inr (0, [.ref ca1, .ref ca2, .ref ca3, .ref ca4, .int (nI c)])), (ca2, .inl (cI, 30, .inl fc2))]) hD hS hA [0, 2] rfl
  refine va_calli (va_runV (As := [.int x]) (rest := []) ⟨hx, hb, hml, hown, hts⟩ (s_X0_stands l D cB cI cZ E s.heap.size h0 x ca1 ca2 ca3 ca4 c fc2 (by first | assumption | omega)) (cwV 1 hts (uV (uc23 _ (List.mem_of_getElem? (i := 14) rfl)) (uc21 _ (List.mem_of_getElem? (i := 22) rfl)) (uc21 _ (List.mem_of_getElem? (i := 23) rfl)) (uc2 _ (List.mem_of_getElem? (i := 10) rfl)) (uc22 _ (List.mem_of_getElem? (i := 0) rfl))) rfl rfl rfl (by decide +kernel) ⟨Nat.le_of_ble_eq_true rfl, Nat.le_of_ble_eq_true rfl⟩) (pVE hE hS hFc hK hPc hDc 0 rfl rfl) rfl rfl hl.1 rfl (lv_room (Nat.le_of_ble_eq_true rfl)) dX0_canJoin_2 ⟨Nat.le_of_ble_eq_true rfl, Nat.le_of_ble_eq_true rfl⟩) hS (fun q _ h => hFc q h) hFc (fun r_1 u t H_2 L_3 ht hvm hw hB hz1 hk1 hS => ?_)
  obtain ⟨hP1, -, hD1⟩ := hB
  rw [ht] at hP1
  obtain ⟨hP, hD⟩ := va_join (wr := [(ca1, .inl (cI, 30, .inl fc1))]) (w1 := [(h0, .inr (0, [.ref ca1, .ref ca2, .ref ca3, .ref ca4, .int (nI c)])), (ca2, .inl (cI, 30, .inl fc2))]) hP hD [0, 2] [1] rfl rfl (by decide) (by decide) hk1 hFc hP1 hD1
  have hP : va_P D vwCl [(h0, .inr (0, [.ref ca1, .ref ca2, .ref ca3, .ref ca4, .int (nI c)])), (ca1, .inl (cI, 30, .inl fc1)), (ca2, .inl (cI, 30, .inl fc2))] H_2 := hP.sub [1, 0, 2] rfl
  have hD : va_D A [(h0, .inr (0, [.ref ca1, .ref ca2, .ref ca3, .ref ca4, .int (nI c)])), (ca1, .inl (cI, 30, .inl fc1)), (ca2, .inl (cI, 30, .inl fc2))] := hD.sub [1, 0, 2] (by decide) rfl
  try dsimp only at hw
  rcases hw with rfl | ⟨rfl, h_4, h_5⟩
  · refine lv_if_eq (tgt := 37) hx hb dX0_canJoin_5 (by decide) (fun c_6 => ?_) (fun c_6 => ?_)
    · refine lv_iconst (v := 0) hx hb dX0_canJoin_37 (by decide) ?_
      have hP9 := hP.sub (ws' := [(h0, .inr (0, [.ref ca1, .ref ca2, .ref ca3, .ref ca4, .int (nI c)])), (ca1, .inl (cI, 30, .inl fc1)), (ca2, .inl (cI, 30, .inl fc2))]) [0, 1, 2] rfl
      have hD9 := hD.sub (ws' := [(h0, .inr (0, [.ref ca1, .ref ca2, .ref ca3, .ref ca4, .int (nI c)])), (ca1, .inl (cI, 30, .inl fc1)), (ca2, .inl (cI, 30, .inl fc2))]) [0, 1, 2] (by decide) rfl
      exact W.zret (v := 0) hx hb hr (rfl) (fun t ht hW => ⟨⟨0, (), rfl, trivial, ⟨by rw [ht]; exact hP9, va_K.moved hW.alike hK, hD9⟩⟩, hS.F ht⟩) hS.2.2 dX0_canJoin_38
    · exact False.elim (by revert c_6; decide)
  · refine lv_if_eq (tgt := 37) hx hb dX0_canJoin_5 (by decide) (fun c_7 => ?_) (fun c_7 => ?_)
    · exact False.elim (by revert c_7; decide)
    · refine lv_aload_n hx hb dX0_canJoin_8 rfl (lv_at hl 0 rfl) ?_
      refine lv_iload_n hx hb dX0_canJoin_9 rfl (lv_at hl 2 rfl) ?_
      have hPc := hP.sub (ws' := [(h0, .inr (0, [.ref ca1, .ref ca2, .ref ca3, .ref ca4, .int (nI c)])), (ca2, .inl (cI, 30, .inl fc2))]) [0, 2] rfl
      have hDc := hD.sub (ws' := [(h0, .inr (0, [.ref ca1, .ref ca2, .ref ca3, .ref ca4, .int (nI c)])), (ca2, .inl (cI, 30, .inl fc2))]) [0, 2] (by decide) rfl
      have hFc := va_free (wc := [(h0, .inr (0, [.ref ca1, .ref ca2, .ref ca3, .ref ca4, .int (nI c)])), (ca2, .inl (cI, 30, .inl fc2))]) hD hS hA [0, 2] rfl
      refine va_calli (va_runV (As := [.int y]) (rest := []) ⟨hx, hb, hml, hown, hts⟩ (s_X0_stands l D cB cI cZ E H_2.size h0 y ca1 ca2 ca3 ca4 c fc2 (by first | assumption | omega)) (cwV 1 hts (uV (uc23 _ (List.mem_of_getElem? (i := 14) rfl)) (uc21 _ (List.mem_of_getElem? (i := 22) rfl)) (uc21 _ (List.mem_of_getElem? (i := 23) rfl)) (uc2 _ (List.mem_of_getElem? (i := 10) rfl)) (uc22 _ (List.mem_of_getElem? (i := 0) rfl))) rfl rfl rfl (by decide +kernel) ⟨Nat.le_of_ble_eq_true rfl, Nat.le_of_ble_eq_true rfl⟩) (pVE hE hS hFc hK hPc hDc 0 rfl rfl) rfl rfl hl.1 rfl (lv_room (Nat.le_of_ble_eq_true rfl)) dX0_canJoin_10 ⟨Nat.le_of_ble_eq_true rfl, Nat.le_of_ble_eq_true rfl⟩) hS (fun q _ h => hFc q h) hFc (fun r_8 u t H_9 L_10 ht hvm hw hB hz1 hk1 hS => ?_)
      obtain ⟨hP1, -, hD1⟩ := hB
      rw [ht] at hP1
      obtain ⟨hP, hD⟩ := va_join (wr := [(ca1, .inl (cI, 30, .inl fc1))]) (w1 := [(h0, .inr (0, [.ref ca1, .ref ca2, .ref ca3, .ref ca4, .int (nI c)])), (ca2, .inl (cI, 30, .inl fc2))]) hP hD [0, 2] [1] rfl rfl (by decide) (by decide) hk1 hFc hP1 hD1
      have hP : va_P D vwCl [(h0, .inr (0, [.ref ca1, .ref ca2, .ref ca3, .ref ca4, .int (nI c)])), (ca1, .inl (cI, 30, .inl fc1)), (ca2, .inl (cI, 30, .inl fc2))] H_9 := hP.sub [1, 0, 2] rfl
      have hD : va_D A [(h0, .inr (0, [.ref ca1, .ref ca2, .ref ca3, .ref ca4, .int (nI c)])), (ca1, .inl (cI, 30, .inl fc1)), (ca2, .inl (cI, 30, .inl fc2))] := hD.sub [1, 0, 2] (by decide) rfl
      try dsimp only at hw
      rcases hw with rfl | ⟨rfl, h_11, h_12⟩
      · refine lv_if_eq (tgt := 37) hx hb dX0_canJoin_13 (by decide) (fun c_13 => ?_) (fun c_13 => ?_)
        · refine lv_iconst (v := 0) hx hb dX0_canJoin_37 (by decide) ?_
          have hP9 := hP.sub (ws' := [(h0, .inr (0, [.ref ca1, .ref ca2, .ref ca3, .ref ca4, .int (nI c)])), (ca1, .inl (cI, 30, .inl fc1)), (ca2, .inl (cI, 30, .inl fc2))]) [0, 1, 2] rfl
          have hD9 := hD.sub (ws' := [(h0, .inr (0, [.ref ca1, .ref ca2, .ref ca3, .ref ca4, .int (nI c)])), (ca1, .inl (cI, 30, .inl fc1)), (ca2, .inl (cI, 30, .inl fc2))]) [0, 1, 2] (by decide) rfl
          exact W.zret (v := 0) hx hb hr (rfl) (fun t ht hW => ⟨⟨0, (), rfl, trivial, ⟨by rw [ht]; exact hP9, va_K.moved hW.alike hK, hD9⟩⟩, hS.F ht⟩) hS.2.2 dX0_canJoin_38
        · exact False.elim (by revert c_13; decide)
      · refine lv_if_eq (tgt := 37) hx hb dX0_canJoin_13 (by decide) (fun c_14 => ?_) (fun c_14 => ?_)
        · exact False.elim (by revert c_14; decide)
        · refine lv_iload_n hx hb dX0_canJoin_16 rfl (lv_at hl 1 rfl) ?_
          refine lv_iload_n hx hb dX0_canJoin_17 rfl (lv_at hl 2 rfl) ?_
          refine lv_icmp_eq (tgt := 37) hx hb dX0_canJoin_18 (by decide) (fun c_15 => ?_) (fun c_15 => ?_)
          · refine lv_iconst (v := 0) hx hb dX0_canJoin_37 (by decide) ?_
            have hP9 := hP.sub (ws' := [(h0, .inr (0, [.ref ca1, .ref ca2, .ref ca3, .ref ca4, .int (nI c)])), (ca1, .inl (cI, 30, .inl fc1)), (ca2, .inl (cI, 30, .inl fc2))]) [0, 1, 2] rfl
            have hD9 := hD.sub (ws' := [(h0, .inr (0, [.ref ca1, .ref ca2, .ref ca3, .ref ca4, .int (nI c)])), (ca1, .inl (cI, 30, .inl fc1)), (ca2, .inl (cI, 30, .inl fc2))]) [0, 1, 2] (by decide) rfl
            exact W.zret (v := 0) hx hb hr (rfl) (fun t ht hW => ⟨⟨0, (), rfl, trivial, ⟨by rw [ht]; exact hP9, va_K.moved hW.alike hK, hD9⟩⟩, hS.F ht⟩) hS.2.2 dX0_canJoin_38
          · refine lv_aload_n hx hb dX0_canJoin_21 rfl (lv_at hl 0 rfl) ?_
            refine lv_iload_n hx hb dX0_canJoin_22 rfl (lv_at hl 1 rfl) ?_
            have hPc := hP.sub (ws' := [(h0, .inr (0, [.ref ca1, .ref ca2, .ref ca3, .ref ca4, .int (nI c)])), (ca1, .inl (cI, 30, .inl fc1))]) [0, 1] rfl
            have hDc := hD.sub (ws' := [(h0, .inr (0, [.ref ca1, .ref ca2, .ref ca3, .ref ca4, .int (nI c)])), (ca1, .inl (cI, 30, .inl fc1))]) [0, 1] (by decide) rfl
            have hFc := va_free (wc := [(h0, .inr (0, [.ref ca1, .ref ca2, .ref ca3, .ref ca4, .int (nI c)])), (ca1, .inl (cI, 30, .inl fc1))]) hD hS hA [0, 1] rfl
            refine va_calli (va_runV (As := [.int x]) (rest := []) ⟨hx, hb, hml, hown, hts⟩ (s_X0_isGroup l D cB cI cZ E H_9.size h0 x ca1 ca2 ca3 ca4 c fc1 (by first | assumption | omega)) (cwV 1 hts (uV (uc23 _ (List.mem_of_getElem? (i := 15) rfl)) (uc19 _ (List.mem_of_getElem? (i := 8) rfl)) (uc19 _ (List.mem_of_getElem? (i := 9) rfl)) (uc2 _ (List.mem_of_getElem? (i := 10) rfl)) (uc19 _ (List.mem_of_getElem? (i := 10) rfl))) rfl rfl rfl (by decide +kernel) ⟨Nat.le_of_ble_eq_true rfl, Nat.le_of_ble_eq_true rfl⟩) (pVE hE hS hFc hK hPc hDc 0 rfl rfl) rfl rfl hl.1 rfl (lv_room (Nat.le_of_ble_eq_true rfl)) dX0_canJoin_23 ⟨Nat.le_of_ble_eq_true rfl, Nat.le_of_ble_eq_true rfl⟩) hS (fun q _ h => hFc q h) hFc (fun r_16 u t H_17 L_18 ht hvm hw hB hz1 hk1 hS => ?_)
            obtain ⟨hP1, -, hD1⟩ := hB
            rw [ht] at hP1
            obtain ⟨hP, hD⟩ := va_join (wr := [(ca2, .inl (cI, 30, .inl fc2))]) (w1 := [(h0, .inr (0, [.ref ca1, .ref ca2, .ref ca3, .ref ca4, .int (nI c)])), (ca1, .inl (cI, 30, .inl fc1))]) hP hD [0, 1] [2] rfl rfl (by decide) (by decide) hk1 hFc hP1 hD1
            have hP : va_P D vwCl [(h0, .inr (0, [.ref ca1, .ref ca2, .ref ca3, .ref ca4, .int (nI c)])), (ca1, .inl (cI, 30, .inl fc1)), (ca2, .inl (cI, 30, .inl fc2))] H_17 := hP.sub [1, 2, 0] rfl
            have hD : va_D A [(h0, .inr (0, [.ref ca1, .ref ca2, .ref ca3, .ref ca4, .int (nI c)])), (ca1, .inl (cI, 30, .inl fc1)), (ca2, .inl (cI, 30, .inl fc2))] := hD.sub [1, 2, 0] (by decide) rfl
            try dsimp only at hw
            refine lv_if_ne (tgt := 37) hx hb dX0_canJoin_26 (by decide) (fun c_19 => ?_) (fun c_19 => ?_)
            · refine lv_iconst (v := 0) hx hb dX0_canJoin_37 (by decide) ?_
              have hP9 := hP.sub (ws' := [(h0, .inr (0, [.ref ca1, .ref ca2, .ref ca3, .ref ca4, .int (nI c)])), (ca1, .inl (cI, 30, .inl fc1)), (ca2, .inl (cI, 30, .inl fc2))]) [0, 1, 2] rfl
              have hD9 := hD.sub (ws' := [(h0, .inr (0, [.ref ca1, .ref ca2, .ref ca3, .ref ca4, .int (nI c)])), (ca1, .inl (cI, 30, .inl fc1)), (ca2, .inl (cI, 30, .inl fc2))]) [0, 1, 2] (by decide) rfl
              exact W.zret (v := 0) hx hb hr (rfl) (fun t ht hW => ⟨⟨0, (), rfl, trivial, ⟨by rw [ht]; exact hP9, va_K.moved hW.alike hK, hD9⟩⟩, hS.F ht⟩) hS.2.2 dX0_canJoin_38
            · refine lv_aload_n hx hb dX0_canJoin_29 rfl (lv_at hl 0 rfl) ?_
              refine lv_iload_n hx hb dX0_canJoin_30 rfl (lv_at hl 2 rfl) ?_
              have hPc := hP.sub (ws' := [(h0, .inr (0, [.ref ca1, .ref ca2, .ref ca3, .ref ca4, .int (nI c)])), (ca1, .inl (cI, 30, .inl fc1))]) [0, 1] rfl
              have hDc := hD.sub (ws' := [(h0, .inr (0, [.ref ca1, .ref ca2, .ref ca3, .ref ca4, .int (nI c)])), (ca1, .inl (cI, 30, .inl fc1))]) [0, 1] (by decide) rfl
              have hFc := va_free (wc := [(h0, .inr (0, [.ref ca1, .ref ca2, .ref ca3, .ref ca4, .int (nI c)])), (ca1, .inl (cI, 30, .inl fc1))]) hD hS hA [0, 1] rfl
              refine va_calli (va_runV (As := [.int y]) (rest := []) ⟨hx, hb, hml, hown, hts⟩ (s_X0_isGroup l D cB cI cZ E H_17.size h0 y ca1 ca2 ca3 ca4 c fc1 (by first | assumption | omega)) (cwV 1 hts (uV (uc23 _ (List.mem_of_getElem? (i := 15) rfl)) (uc19 _ (List.mem_of_getElem? (i := 8) rfl)) (uc19 _ (List.mem_of_getElem? (i := 9) rfl)) (uc2 _ (List.mem_of_getElem? (i := 10) rfl)) (uc19 _ (List.mem_of_getElem? (i := 10) rfl))) rfl rfl rfl (by decide +kernel) ⟨Nat.le_of_ble_eq_true rfl, Nat.le_of_ble_eq_true rfl⟩) (pVE hE hS hFc hK hPc hDc 0 rfl rfl) rfl rfl hl.1 rfl (lv_room (Nat.le_of_ble_eq_true rfl)) dX0_canJoin_31 ⟨Nat.le_of_ble_eq_true rfl, Nat.le_of_ble_eq_true rfl⟩) hS (fun q _ h => hFc q h) hFc (fun r_20 u t H_21 L_22 ht hvm hw hB hz1 hk1 hS => ?_)
              obtain ⟨hP1, -, hD1⟩ := hB
              rw [ht] at hP1
              obtain ⟨hP, hD⟩ := va_join (wr := [(ca2, .inl (cI, 30, .inl fc2))]) (w1 := [(h0, .inr (0, [.ref ca1, .ref ca2, .ref ca3, .ref ca4, .int (nI c)])), (ca1, .inl (cI, 30, .inl fc1))]) hP hD [0, 1] [2] rfl rfl (by decide) (by decide) hk1 hFc hP1 hD1
              have hP : va_P D vwCl [(h0, .inr (0, [.ref ca1, .ref ca2, .ref ca3, .ref ca4, .int (nI c)])), (ca1, .inl (cI, 30, .inl fc1)), (ca2, .inl (cI, 30, .inl fc2))] H_21 := hP.sub [1, 2, 0] rfl
              have hD : va_D A [(h0, .inr (0, [.ref ca1, .ref ca2, .ref ca3, .ref ca4, .int (nI c)])), (ca1, .inl (cI, 30, .inl fc1)), (ca2, .inl (cI, 30, .inl fc2))] := hD.sub [1, 2, 0] (by decide) rfl
              try dsimp only at hw
              refine lv_if_eq (tgt := 39) hx hb dX0_canJoin_34 (by decide) (fun c_23 => ?_) (fun c_23 => ?_)
              · refine lv_aload_n hx hb dX0_canJoin_39 rfl (lv_at hl 0 rfl) ?_
                refine va_get (D := D) (ci := 0) (v := .ref ca1) (C := RX0) (T := TX0) (N := 5) hx hb hts hinX0 hown hK hP 0 rfl rfl 0 (by decide) (hts (.fieldLink RX0 9 "TaleReader$Cast" "sexes" "[I") (uc5 _ (List.mem_of_getElem? (i := 12) rfl))) (fun _ h9 => h9) rfl dX0_canJoin_40 ?_
                refine lv_iload_n hx hb dX0_canJoin_43 rfl (lv_at hl 1 rfl) ?_
                refine va_iald (D := D) hx hb hK hP 1 1 rfl rfl (by first | assumption | exact pIxc (by assumption) (by assumption) (by omega) (by omega)) dX0_canJoin_44 ?_
                refine lv_topi (fun v_24 ev_24 => ?_)
                refine lv_if_eq (tgt := 72) hx hb dX0_canJoin_45 (by decide) (fun c_25 => ?_) (fun c_25 => ?_)
                · refine lv_iconst (v := 1) hx hb dX0_canJoin_72 (by decide) ?_
                  refine lv_goto (tgt := 77) hx hb dX0_canJoin_73 (by decide) ?_
                  have hP9 := hP.sub (ws' := [(h0, .inr (0, [.ref ca1, .ref ca2, .ref ca3, .ref ca4, .int (nI c)])), (ca1, .inl (cI, 30, .inl fc1)), (ca2, .inl (cI, 30, .inl fc2))]) [0, 1, 2] rfl
                  have hD9 := hD.sub (ws' := [(h0, .inr (0, [.ref ca1, .ref ca2, .ref ca3, .ref ca4, .int (nI c)])), (ca1, .inl (cI, 30, .inl fc1)), (ca2, .inl (cI, 30, .inl fc2))]) [0, 1, 2] (by decide) rfl
                  exact W.zret (v := 1) hx hb hr (rfl) (fun t ht hW => ⟨⟨1, (), rfl, trivial, ⟨by rw [ht]; exact hP9, va_K.moved hW.alike hK, hD9⟩⟩, hS.F ht⟩) hS.2.2 dX0_canJoin_77
                · refine lv_aload_n hx hb dX0_canJoin_48 rfl (lv_at hl 0 rfl) ?_
                  refine va_get (D := D) (ci := 0) (v := .ref ca1) (C := RX0) (T := TX0) (N := 5) hx hb hts hinX0 hown hK hP 0 rfl rfl 0 (by decide) (hts (.fieldLink RX0 9 "TaleReader$Cast" "sexes" "[I") (uc5 _ (List.mem_of_getElem? (i := 12) rfl))) (fun _ h9 => h9) rfl dX0_canJoin_49 ?_
                  refine lv_iload_n hx hb dX0_canJoin_52 rfl (lv_at hl 2 rfl) ?_
                  refine va_iald (D := D) hx hb hK hP 1 1 rfl rfl (by first | assumption | exact pIxc (by assumption) (by assumption) (by omega) (by omega)) dX0_canJoin_53 ?_
                  refine lv_topi (fun v_26 ev_26 => ?_)
                  refine lv_if_eq (tgt := 72) hx hb dX0_canJoin_54 (by decide) (fun c_27 => ?_) (fun c_27 => ?_)
                  · refine lv_iconst (v := 1) hx hb dX0_canJoin_72 (by decide) ?_
                    refine lv_goto (tgt := 77) hx hb dX0_canJoin_73 (by decide) ?_
                    have hP9 := hP.sub (ws' := [(h0, .inr (0, [.ref ca1, .ref ca2, .ref ca3, .ref ca4, .int (nI c)])), (ca1, .inl (cI, 30, .inl fc1)), (ca2, .inl (cI, 30, .inl fc2))]) [0, 1, 2] rfl
                    have hD9 := hD.sub (ws' := [(h0, .inr (0, [.ref ca1, .ref ca2, .ref ca3, .ref ca4, .int (nI c)])), (ca1, .inl (cI, 30, .inl fc1)), (ca2, .inl (cI, 30, .inl fc2))]) [0, 1, 2] (by decide) rfl
                    exact W.zret (v := 1) hx hb hr (rfl) (fun t ht hW => ⟨⟨1, (), rfl, trivial, ⟨by rw [ht]; exact hP9, va_K.moved hW.alike hK, hD9⟩⟩, hS.F ht⟩) hS.2.2 dX0_canJoin_77
                  · refine lv_aload_n hx hb dX0_canJoin_57 rfl (lv_at hl 0 rfl) ?_
                    refine va_get (D := D) (ci := 0) (v := .ref ca1) (C := RX0) (T := TX0) (N := 5) hx hb hts hinX0 hown hK hP 0 rfl rfl 0 (by decide) (hts (.fieldLink RX0 9 "TaleReader$Cast" "sexes" "[I") (uc5 _ (List.mem_of_getElem? (i := 12) rfl))) (fun _ h9 => h9) rfl dX0_canJoin_58 ?_
                    refine lv_iload_n hx hb dX0_canJoin_61 rfl (lv_at hl 1 rfl) ?_
                    refine va_iald (D := D) hx hb hK hP 1 1 rfl rfl (by first | assumption | exact pIxc (by assumption) (by assumption) (by omega) (by omega)) dX0_canJoin_62 ?_
                    refine lv_topi (fun v_28 ev_28 => ?_)
                    refine lv_aload_n hx hb dX0_canJoin_63 rfl (lv_at hl 0 rfl) ?_
                    refine va_get (D := D) (ci := 0) (v := .ref ca1) (C := RX0) (T := TX0) (N := 5) hx hb hts hinX0 hown hK hP 0 rfl rfl 0 (by decide) (hts (.fieldLink RX0 9 "TaleReader$Cast" "sexes" "[I") (uc5 _ (List.mem_of_getElem? (i := 12) rfl))) (fun _ h9 => h9) rfl dX0_canJoin_64 ?_
                    refine lv_iload_n hx hb dX0_canJoin_67 rfl (lv_at hl 2 rfl) ?_
                    refine va_iald (D := D) hx hb hK hP 1 1 rfl rfl (by first | assumption | exact pIxc (by assumption) (by assumption) (by omega) (by omega)) dX0_canJoin_68 ?_
                    refine lv_topi (fun v_29 ev_29 => ?_)
                    refine lv_icmp_ne (tgt := 76) hx hb dX0_canJoin_69 (by decide) (fun c_30 => ?_) (fun c_30 => ?_)
                    · refine lv_iconst (v := 0) hx hb dX0_canJoin_76 (by decide) ?_
                      have hP9 := hP.sub (ws' := [(h0, .inr (0, [.ref ca1, .ref ca2, .ref ca3, .ref ca4, .int (nI c)])), (ca1, .inl (cI, 30, .inl fc1)), (ca2, .inl (cI, 30, .inl fc2))]) [0, 1, 2] rfl
                      have hD9 := hD.sub (ws' := [(h0, .inr (0, [.ref ca1, .ref ca2, .ref ca3, .ref ca4, .int (nI c)])), (ca1, .inl (cI, 30, .inl fc1)), (ca2, .inl (cI, 30, .inl fc2))]) [0, 1, 2] (by decide) rfl
                      exact W.zret (v := 0) hx hb hr (rfl) (fun t ht hW => ⟨⟨0, (), rfl, trivial, ⟨by rw [ht]; exact hP9, va_K.moved hW.alike hK, hD9⟩⟩, hS.F ht⟩) hS.2.2 dX0_canJoin_77
                    · refine lv_iconst (v := 1) hx hb dX0_canJoin_72 (by decide) ?_
                      refine lv_goto (tgt := 77) hx hb dX0_canJoin_73 (by decide) ?_
                      have hP9 := hP.sub (ws' := [(h0, .inr (0, [.ref ca1, .ref ca2, .ref ca3, .ref ca4, .int (nI c)])), (ca1, .inl (cI, 30, .inl fc1)), (ca2, .inl (cI, 30, .inl fc2))]) [0, 1, 2] rfl
                      have hD9 := hD.sub (ws' := [(h0, .inr (0, [.ref ca1, .ref ca2, .ref ca3, .ref ca4, .int (nI c)])), (ca1, .inl (cI, 30, .inl fc1)), (ca2, .inl (cI, 30, .inl fc2))]) [0, 1, 2] (by decide) rfl
                      exact W.zret (v := 1) hx hb hr (rfl) (fun t ht hW => ⟨⟨1, (), rfl, trivial, ⟨by rw [ht]; exact hP9, va_K.moved hW.alike hK, hD9⟩⟩, hS.F ht⟩) hS.2.2 dX0_canJoin_77
              · refine lv_iconst (v := 0) hx hb dX0_canJoin_37 (by decide) ?_
                have hP9 := hP.sub (ws' := [(h0, .inr (0, [.ref ca1, .ref ca2, .ref ca3, .ref ca4, .int (nI c)])), (ca1, .inl (cI, 30, .inl fc1)), (ca2, .inl (cI, 30, .inl fc2))]) [0, 1, 2] rfl
                have hD9 := hD.sub (ws' := [(h0, .inr (0, [.ref ca1, .ref ca2, .ref ca3, .ref ca4, .int (nI c)])), (ca1, .inl (cI, 30, .inl fc1)), (ca2, .inl (cI, 30, .inl fc2))]) [0, 1, 2] (by decide) rfl
                exact W.zret (v := 0) hx hb hr (rfl) (fun t ht hW => ⟨⟨0, (), rfl, trivial, ⟨by rw [ht]; exact hP9, va_K.moved hW.alike hK, hD9⟩⟩, hS.F ht⟩) hS.2.2 dX0_canJoin_38
set_option maxHeartbeats 4000000 in
set_option maxRecDepth 100000 in
theorem s_X0_join (l : Launch) (D : va_G) (cB cI cZ : ClassId) (E : pEt) (sz : Nat) (h0 : Nat) (x : Int32) (y : Int32) (ca1 : Nat) (ca2 : Nat) (ca3 : Nat) (ca4 : Nat) (c : Nat) (fc1 : Nat → Int32) (fc2 : Nat → Int32) (fc3 : Nat → Int32) (fc4 : Nat → Int32) (hc : c ≤ 30) : Met l yX0_join (.code yX0_join cX0_join 4 none :: wsL_law) ({ frames := 2, cells := 0, slots := 0, locals := 43 } : Room) (va_Pc [.ref h0, .int x, .int y] (pInE E D (pT cB cI cZ) sz [(h0, .inr (0, [.ref ca1, .ref ca2, .ref ca3, .ref ca4, .int (nI c)])), (ca1, .inl (cI, 30, .inl fc1)), (ca2, .inl (cI, 30, .inl fc2)), (ca3, .inl (cI, 30, .inl fc3)), (ca4, .inl (cI, 30, .inl fc4))])) (va_Qv (fun (u : (Nat → Int32) × (Nat → Int32) × (Nat → Int32) × (Nat → Int32)) => True) (fun (u : (Nat → Int32) × (Nat → Int32) × (Nat → Int32) × (Nat → Int32)) (t : State) => pAt D (pT cB cI cZ) (va_A [(h0, .inr (0, [.ref ca1, .ref ca2, .ref ca3, .ref ca4, .int (nI c)])), (ca1, .inl (cI, 30, .inl fc1)), (ca2, .inl (cI, 30, .inl fc2)), (ca3, .inl (cI, 30, .inl fc3)), (ca4, .inl (cI, 30, .inl fc4))] sz) [(h0, .inr (0, [.ref ca1, .ref ca2, .ref ca3, .ref ca4, .int (nI c)])), (ca1, .inl (cI, 30, .inl u.1)), (ca2, .inl (cI, 30, .inl u.2.1)), (ca3, .inl (cI, 30, .inl u.2.2.1)), (ca4, .inl (cI, 30, .inl u.2.2.2))] t) (va_A [(h0, .inr (0, [.ref ca1, .ref ca2, .ref ca3, .ref ca4, .int (nI c)])), (ca1, .inl (cI, 30, .inl fc1)), (ca2, .inl (cI, 30, .inl fc2)), (ca3, .inl (cI, 30, .inl fc3)), (ca4, .inl (cI, 30, .inl fc4))] sz)) 0 0 (va_A [(h0, .inr (0, [.ref ca1, .ref ca2, .ref ca3, .ref ca4, .int (nI c)])), (ca1, .inl (cI, 30, .inl fc1)), (ca2, .inl (cI, 30, .inl fc2)), (ca3, .inl (cI, 30, .inl fc3)), (ca4, .inl (cI, 30, .inl fc4))] sz) := by
  refine Met.ofW (cc := cX0_join) (maxL := 4) (ret := none) (by decide) rfl ?_
  intro p e s m args below meth cd s₁ B hml hv
  obtain ⟨rfl, hsz, hP, hK, hD0, hE⟩ := hv
  have hx := B.exec
  have hb := B.bytes
  have hr := B.returns
  have hts0 := atoms_spec (ws := .code yX0_join cX0_join 4 none :: wsL_law) B.pre
  have hts := fun (w : Cond) (h : w ∈ wsL_law) => hts0 w (List.mem_cons_of_mem _ h)
  have hown : s.vm.findClass RX0 = some m.cls := findClass_of_methodNamed B.named
  have hlocks := B.notSynchronized
  have hinX0 := inlX0
  subst hsz
  have hD := hD0.self (sz := s.heap.size)
  generalize hAe : va_A [(h0, .inr (0, [.ref ca1, .ref ca2, .ref ca3, .ref ca4, .int (nI c)])), (ca1, .inl (cI, 30, .inl fc1)), (ca2, .inl (cI, 30, .inl fc2)), (ca3, .inl (cI, 30, .inl fc3)), (ca4, .inl (cI, 30, .inl fc4))] s.heap.size = A at hD hE ⊢
  have hA : ∀ q : Nat, s.heap.size ≤ q → A q := fun q h => by rw [← hAe]; exact Or.inr h
  have hS : va_S A s.heap s.heap [] := va_S.rf
  have hP : va_P D vwCl [(h0, .inr (0, [.ref ca1, .ref ca2, .ref ca3, .ref ca4, .int (nI c)])), (ca1, .inl (cI, 30, .inl fc1)), (ca2, .inl (cI, 30, .inl fc2)), (ca3, .inl (cI, 30, .inl fc3)), (ca4, .inl (cI, 30, .inl fc4))] s.heap := hP
  have hl := lv_entry ([.ref h0, .int x, .int y]) (n := 4) (Nat.le_of_ble_eq_true rfl)
  rw [lg_entry_eq]
  generalize (lg_sl ([.ref h0, .int x, .int y]) ++ List.replicate (4 - (lg_sl ([.ref h0, .int x, .int y])).length) Slot.unset).toArray = ls at hl ⊢
  have hl : lv_has ls 4 [(0, .ref h0), (1, .int x), (2, .int y)] := hl
  generalize hQ : MQ below _ _ _ _ _ _ = Q
  refine lv_aload_n hx hb dX0_join_0 rfl (lv_at hl 0 rfl) ?_
  refine lv_iload_n hx hb dX0_join_1 rfl (lv_at hl 1 rfl) ?_
  have hPc := hP.sub (ws' := [(h0, .inr (0, [.ref ca1, .ref ca2, .ref ca3, .ref ca4, .int (nI c)]))]) [0] rfl
  have hDc := hD.sub (ws' := [(h0, .inr (0, [.ref ca1, .ref ca2, .ref ca3, .ref ca4, .int (nI c)]))]) [0] (by decide) rfl
  have hFc := va_free (wc := [(h0, .inr (0, [.ref ca1, .ref ca2, .ref ca3, .ref ca4, .int (nI c)]))]) hD hS hA [0] rfl
  refine va_calli (va_runV (As := [.int x]) (rest := []) ⟨hx, hb, hml, hown, hts⟩ (s_X0_has l D cB cI cZ E s.heap.size h0 x ca1 ca2 ca3 ca4 (nI c)) (cwV 1 hts (uV (uc18 _ (List.mem_of_getElem? (i := 23) rfl)) (uc19 _ (List.mem_of_getElem? (i := 0) rfl)) (uc19 _ (List.mem_of_getElem? (i := 1) rfl)) (uc2 _ (List.mem_of_getElem? (i := 10) rfl)) (uc19 _ (List.mem_of_getElem? (i := 2) rfl))) rfl rfl rfl (by decide +kernel) ⟨Nat.le_of_ble_eq_true rfl, Nat.le_of_ble_eq_true rfl⟩) (pVE hE hS hFc hK hPc hDc 0 rfl rfl) rfl rfl hl.1 rfl (lv_room (Nat.le_of_ble_eq_true rfl)) dX0_join_2 ⟨Nat.le_of_ble_eq_true rfl, Nat.le_of_ble_eq_true rfl⟩) hS (fun q _ h => hFc q h) hFc (fun r_1 u t H_2 L_3 ht hvm hw hB hz1 hk1 hS => ?_)
  obtain ⟨hP1, -, hD1⟩ := hB
  rw [ht] at hP1
  obtain ⟨hP, hD⟩ := va_join (wr := [(ca1, .inl (cI, 30, .inl fc1)), (ca2, .inl (cI, 30, .inl fc2)), (ca3, .inl (cI, 30, .inl fc3)), (ca4, .inl (cI, 30, .inl fc4))]) (w1 := [(h0, .inr (0, [.ref ca1, .ref ca2, .ref ca3, .ref ca4, .int (nI c)]))]) hP hD [0] [1, 2, 3, 4] rfl rfl (by decide) (by decide) hk1 hFc hP1 hD1
  have hP : va_P D vwCl [(h0, .inr (0, [.ref ca1, .ref ca2, .ref ca3, .ref ca4, .int (nI c)])), (ca1, .inl (cI, 30, .inl fc1)), (ca2, .inl (cI, 30, .inl fc2)), (ca3, .inl (cI, 30, .inl fc3)), (ca4, .inl (cI, 30, .inl fc4))] H_2 := hP.sub [4, 0, 1, 2, 3] rfl
  have hD : va_D A [(h0, .inr (0, [.ref ca1, .ref ca2, .ref ca3, .ref ca4, .int (nI c)])), (ca1, .inl (cI, 30, .inl fc1)), (ca2, .inl (cI, 30, .inl fc2)), (ca3, .inl (cI, 30, .inl fc3)), (ca4, .inl (cI, 30, .inl fc4))] := hD.sub [4, 0, 1, 2, 3] (by decide) rfl
  try dsimp only at hw
  rcases hw with ⟨rfl, h_4⟩ | ⟨rfl, h_5, h_6⟩
  · refine lv_if_eq (tgt := 16) hx hb dX0_join_5 (by decide) (fun c_7 => ?_) (fun c_7 => ?_)
    · have hP9 := hP.sub (ws' := [(h0, .inr (0, [.ref ca1, .ref ca2, .ref ca3, .ref ca4, .int (nI c)])), (ca1, .inl (cI, 30, .inl fc1)), (ca2, .inl (cI, 30, .inl fc2)), (ca3, .inl (cI, 30, .inl fc3)), (ca4, .inl (cI, 30, .inl fc4))]) [0, 1, 2, 3, 4] rfl
      have hD9 := hD.sub (ws' := [(h0, .inr (0, [.ref ca1, .ref ca2, .ref ca3, .ref ca4, .int (nI c)])), (ca1, .inl (cI, 30, .inl fc1)), (ca2, .inl (cI, 30, .inl fc2)), (ca3, .inl (cI, 30, .inl fc3)), (ca4, .inl (cI, 30, .inl fc4))]) [0, 1, 2, 3, 4] (by decide) rfl
      rw [← hQ]
      exact W.vret hx hb hr (fun t ht hW => ⟨⟨(fc1, fc2, fc3, fc4), rfl, trivial, ⟨by rw [ht]; exact hP9, va_K.moved hW.alike hK, hD9⟩⟩, hS.F ht⟩) hS.2.2 dX0_join_16
    · exact False.elim (by revert c_7; decide)
  · refine lv_if_eq (tgt := 16) hx hb dX0_join_5 (by decide) (fun c_8 => ?_) (fun c_8 => ?_)
    · exact False.elim (by revert c_8; decide)
    · refine lv_aload_n hx hb dX0_join_8 rfl (lv_at hl 0 rfl) ?_
      refine lv_iload_n hx hb dX0_join_9 rfl (lv_at hl 2 rfl) ?_
      have hPc := hP.sub (ws' := [(h0, .inr (0, [.ref ca1, .ref ca2, .ref ca3, .ref ca4, .int (nI c)]))]) [0] rfl
      have hDc := hD.sub (ws' := [(h0, .inr (0, [.ref ca1, .ref ca2, .ref ca3, .ref ca4, .int (nI c)]))]) [0] (by decide) rfl
      have hFc := va_free (wc := [(h0, .inr (0, [.ref ca1, .ref ca2, .ref ca3, .ref ca4, .int (nI c)]))]) hD hS hA [0] rfl
      refine va_calli (va_runV (As := [.int y]) (rest := []) ⟨hx, hb, hml, hown, hts⟩ (s_X0_has l D cB cI cZ E H_2.size h0 y ca1 ca2 ca3 ca4 (nI c)) (cwV 1 hts (uV (uc18 _ (List.mem_of_getElem? (i := 23) rfl)) (uc19 _ (List.mem_of_getElem? (i := 0) rfl)) (uc19 _ (List.mem_of_getElem? (i := 1) rfl)) (uc2 _ (List.mem_of_getElem? (i := 10) rfl)) (uc19 _ (List.mem_of_getElem? (i := 2) rfl))) rfl rfl rfl (by decide +kernel) ⟨Nat.le_of_ble_eq_true rfl, Nat.le_of_ble_eq_true rfl⟩) (pVE hE hS hFc hK hPc hDc 0 rfl rfl) rfl rfl hl.1 rfl (lv_room (Nat.le_of_ble_eq_true rfl)) dX0_join_10 ⟨Nat.le_of_ble_eq_true rfl, Nat.le_of_ble_eq_true rfl⟩) hS (fun q _ h => hFc q h) hFc (fun r_9 u t H_10 L_11 ht hvm hw hB hz1 hk1 hS => ?_)
      obtain ⟨hP1, -, hD1⟩ := hB
      rw [ht] at hP1
      obtain ⟨hP, hD⟩ := va_join (wr := [(ca1, .inl (cI, 30, .inl fc1)), (ca2, .inl (cI, 30, .inl fc2)), (ca3, .inl (cI, 30, .inl fc3)), (ca4, .inl (cI, 30, .inl fc4))]) (w1 := [(h0, .inr (0, [.ref ca1, .ref ca2, .ref ca3, .ref ca4, .int (nI c)]))]) hP hD [0] [1, 2, 3, 4] rfl rfl (by decide) (by decide) hk1 hFc hP1 hD1
      have hP : va_P D vwCl [(h0, .inr (0, [.ref ca1, .ref ca2, .ref ca3, .ref ca4, .int (nI c)])), (ca1, .inl (cI, 30, .inl fc1)), (ca2, .inl (cI, 30, .inl fc2)), (ca3, .inl (cI, 30, .inl fc3)), (ca4, .inl (cI, 30, .inl fc4))] H_10 := hP.sub [4, 0, 1, 2, 3] rfl
      have hD : va_D A [(h0, .inr (0, [.ref ca1, .ref ca2, .ref ca3, .ref ca4, .int (nI c)])), (ca1, .inl (cI, 30, .inl fc1)), (ca2, .inl (cI, 30, .inl fc2)), (ca3, .inl (cI, 30, .inl fc3)), (ca4, .inl (cI, 30, .inl fc4))] := hD.sub [4, 0, 1, 2, 3] (by decide) rfl
      try dsimp only at hw
      rcases hw with ⟨rfl, h_12⟩ | ⟨rfl, h_13, h_14⟩
      · refine lv_if_ne (tgt := 17) hx hb dX0_join_13 (by decide) (fun c_15 => ?_) (fun c_15 => ?_)
        · exact False.elim (by revert c_15; decide)
        · have hP9 := hP.sub (ws' := [(h0, .inr (0, [.ref ca1, .ref ca2, .ref ca3, .ref ca4, .int (nI c)])), (ca1, .inl (cI, 30, .inl fc1)), (ca2, .inl (cI, 30, .inl fc2)), (ca3, .inl (cI, 30, .inl fc3)), (ca4, .inl (cI, 30, .inl fc4))]) [0, 1, 2, 3, 4] rfl
          have hD9 := hD.sub (ws' := [(h0, .inr (0, [.ref ca1, .ref ca2, .ref ca3, .ref ca4, .int (nI c)])), (ca1, .inl (cI, 30, .inl fc1)), (ca2, .inl (cI, 30, .inl fc2)), (ca3, .inl (cI, 30, .inl fc3)), (ca4, .inl (cI, 30, .inl fc4))]) [0, 1, 2, 3, 4] (by decide) rfl
          rw [← hQ]
          exact W.vret hx hb hr (fun t ht hW => ⟨⟨(fc1, fc2, fc3, fc4), rfl, trivial, ⟨by rw [ht]; exact hP9, va_K.moved hW.alike hK, hD9⟩⟩, hS.F ht⟩) hS.2.2 dX0_join_16
      · refine lv_if_ne (tgt := 17) hx hb dX0_join_13 (by decide) (fun c_16 => ?_) (fun c_16 => ?_)
        · refine lv_aload_n hx hb dX0_join_17 rfl (lv_at hl 0 rfl) ?_
          refine va_get (D := D) (ci := 0) (v := .ref ca2) (C := RX0) (T := TX0) (N := 5) hx hb hts hinX0 hown hK hP 0 rfl rfl 1 (by decide) (hts (.fieldLink RX0 15 "TaleReader$Cast" "joined" "[I") (uc5 _ (List.mem_of_getElem? (i := 13) rfl))) (fun _ h9 => h9) rfl dX0_join_18 ?_
          refine lv_iload_n hx hb dX0_join_21 rfl (lv_at hl 1 rfl) ?_
          refine lv_iload_n hx hb dX0_join_22 rfl (lv_at hl 2 rfl) ?_
          refine va_iast (D := D) hx hb hK hP hD hS 2 1 rfl rfl (by first | assumption | exact pIxc (by assumption) (by assumption) (by omega) (by omega)) dX0_join_23 (fun H_17 L_18 hP hD hS => ?_)
          obtain ⟨g_19, eg_19⟩ : ∃ gg : Nat → Int32, gg = upd fc2 (x).toNatClampNeg y := ⟨_, rfl⟩
          have hP : va_P D vwCl [(h0, .inr (0, [.ref ca1, .ref ca2, .ref ca3, .ref ca4, .int (nI c)])), (ca1, .inl (cI, 30, .inl fc1)), (ca2, .inl (cI, 30, .inl g_19)), (ca3, .inl (cI, 30, .inl fc3)), (ca4, .inl (cI, 30, .inl fc4))] H_17 := by rw [eg_19]; exact hP
          have hD : va_D A [(h0, .inr (0, [.ref ca1, .ref ca2, .ref ca3, .ref ca4, .int (nI c)])), (ca1, .inl (cI, 30, .inl fc1)), (ca2, .inl (cI, 30, .inl g_19)), (ca3, .inl (cI, 30, .inl fc3)), (ca4, .inl (cI, 30, .inl fc4))] := by rw [eg_19]; exact hD
          refine lv_aload_n hx hb dX0_join_24 rfl (lv_at hl 0 rfl) ?_
          refine lv_iload_n hx hb dX0_join_25 rfl (lv_at hl 2 rfl) ?_
          refine lv_aload_n hx hb dX0_join_26 rfl (lv_at hl 0 rfl) ?_
          refine va_get (D := D) (ci := 0) (v := .ref ca1) (C := RX0) (T := TX0) (N := 5) hx hb hts hinX0 hown hK hP 0 rfl rfl 0 (by decide) (hts (.fieldLink RX0 9 "TaleReader$Cast" "sexes" "[I") (uc5 _ (List.mem_of_getElem? (i := 12) rfl))) (fun _ h9 => h9) rfl dX0_join_27 ?_
          refine lv_iload_n hx hb dX0_join_30 rfl (lv_at hl 1 rfl) ?_
          refine va_iald (D := D) hx hb hK hP 1 1 rfl rfl (by first | assumption | exact pIxc (by assumption) (by assumption) (by omega) (by omega)) dX0_join_31 ?_
          refine lv_topi (fun v_20 ev_20 => ?_)
          have hPc := hP.sub (ws' := [(h0, .inr (0, [.ref ca1, .ref ca2, .ref ca3, .ref ca4, .int (nI c)])), (ca1, .inl (cI, 30, .inl fc1))]) [0, 1] rfl
          have hDc := hD.sub (ws' := [(h0, .inr (0, [.ref ca1, .ref ca2, .ref ca3, .ref ca4, .int (nI c)])), (ca1, .inl (cI, 30, .inl fc1))]) [0, 1] (by decide) rfl
          have hFc := va_free (wc := [(h0, .inr (0, [.ref ca1, .ref ca2, .ref ca3, .ref ca4, .int (nI c)])), (ca1, .inl (cI, 30, .inl fc1))]) hD hS hA [0, 1] rfl
          refine va_callv (va_runV (As := [.int y, .int v_20]) (rest := []) ⟨hx, hb, hml, hown, hts⟩ (s_X0_learnSex l D cB cI cZ E H_17.size h0 y v_20 ca1 ca2 ca3 ca4 c fc1 (by first | assumption | omega)) (cwV 2 hts (uV (uc23 _ (List.mem_of_getElem? (i := 20) rfl)) (uc21 _ (List.mem_of_getElem? (i := 5) rfl)) (uc21 _ (List.mem_of_getElem? (i := 6) rfl)) (uc2 _ (List.mem_of_getElem? (i := 10) rfl)) (uc21 _ (List.mem_of_getElem? (i := 7) rfl))) rfl rfl rfl (by decide +kernel) ⟨Nat.le_of_ble_eq_true rfl, Nat.le_of_ble_eq_true rfl⟩) (pVE hE hS hFc hK hPc hDc 0 rfl rfl) rfl rfl hl.1 rfl (lv_room (Nat.le_of_ble_eq_true rfl)) dX0_join_32 ⟨Nat.le_of_ble_eq_true rfl, Nat.le_of_ble_eq_true rfl⟩) hS (fun q _ h => hFc q h) hFc (fun u t H_22 L_23 ht hvm hw hB hz1 hk1 hS => ?_)
          obtain ⟨fc1_24, rfl⟩ : ∃ z, z = u := ⟨_, rfl⟩
          obtain ⟨hP1, -, hD1⟩ := hB
          rw [ht] at hP1
          obtain ⟨hP, hD⟩ := va_join (wr := [(ca2, .inl (cI, 30, .inl g_19)), (ca3, .inl (cI, 30, .inl fc3)), (ca4, .inl (cI, 30, .inl fc4))]) (w1 := [(h0, .inr (0, [.ref ca1, .ref ca2, .ref ca3, .ref ca4, .int (nI c)])), (ca1, .inl (cI, 30, .inl fc1_24))]) hP hD [0, 1] [2, 3, 4] rfl rfl (by decide) (by decide) hk1 hFc hP1 hD1
          have hP : va_P D vwCl [(h0, .inr (0, [.ref ca1, .ref ca2, .ref ca3, .ref ca4, .int (nI c)])), (ca1, .inl (cI, 30, .inl fc1_24)), (ca2, .inl (cI, 30, .inl g_19)), (ca3, .inl (cI, 30, .inl fc3)), (ca4, .inl (cI, 30, .inl fc4))] H_22 := hP.sub [3, 4, 0, 1, 2] rfl
          have hD : va_D A [(h0, .inr (0, [.ref ca1, .ref ca2, .ref ca3, .ref ca4, .int (nI c)])), (ca1, .inl (cI, 30, .inl fc1_24)), (ca2, .inl (cI, 30, .inl g_19)), (ca3, .inl (cI, 30, .inl fc3)), (ca4, .inl (cI, 30, .inl fc4))] := hD.sub [3, 4, 0, 1, 2] (by decide) rfl
          try dsimp only at hw
          refine lv_aload_n hx hb dX0_join_35 rfl (lv_at hl 0 rfl) ?_
          refine lv_iload_n hx hb dX0_join_36 rfl (lv_at hl 2 rfl) ?_
          refine lv_aload_n hx hb dX0_join_37 rfl (lv_at hl 0 rfl) ?_
          refine va_get (D := D) (ci := 0) (v := .ref ca4) (C := RX0) (T := TX0) (N := 5) hx hb hts hinX0 hown hK hP 0 rfl rfl 3 (by decide) (hts (.fieldLink RX0 21 "TaleReader$Cast" "lastMentions" "[I") (uc5 _ (List.mem_of_getElem? (i := 15) rfl))) (fun _ h9 => h9) rfl dX0_join_38 ?_
          refine lv_iload_n hx hb dX0_join_41 rfl (lv_at hl 1 rfl) ?_
          refine va_iald (D := D) hx hb hK hP 4 1 rfl rfl (by first | assumption | exact pIxc (by assumption) (by assumption) (by omega) (by omega)) dX0_join_42 ?_
          refine lv_topi (fun v_25 ev_25 => ?_)
          have hPc := hP.sub (ws' := [(h0, .inr (0, [.ref ca1, .ref ca2, .ref ca3, .ref ca4, .int (nI c)])), (ca4, .inl (cI, 30, .inl fc4))]) [0, 4] rfl
          have hDc := hD.sub (ws' := [(h0, .inr (0, [.ref ca1, .ref ca2, .ref ca3, .ref ca4, .int (nI c)])), (ca4, .inl (cI, 30, .inl fc4))]) [0, 4] (by decide) rfl
          have hFc := va_free (wc := [(h0, .inr (0, [.ref ca1, .ref ca2, .ref ca3, .ref ca4, .int (nI c)])), (ca4, .inl (cI, 30, .inl fc4))]) hD hS hA [0, 4] rfl
          refine va_callv (va_runV (As := [.int y, .int v_25]) (rest := []) ⟨hx, hb, hml, hown, hts⟩ (s_X0_noteMention l D cB cI cZ E H_22.size h0 y v_25 ca1 ca2 ca3 ca4 c fc4 (by first | assumption | omega)) (cwV 2 hts (uV (uc23 _ (List.mem_of_getElem? (i := 21) rfl)) (uc22 _ (List.mem_of_getElem? (i := 18) rfl)) (uc22 _ (List.mem_of_getElem? (i := 19) rfl)) (uc2 _ (List.mem_of_getElem? (i := 10) rfl)) (uc22 _ (List.mem_of_getElem? (i := 20) rfl))) rfl rfl rfl (by decide +kernel) ⟨Nat.le_of_ble_eq_true rfl, Nat.le_of_ble_eq_true rfl⟩) (pVE hE hS hFc hK hPc hDc 0 rfl rfl) rfl rfl hl.1 rfl (lv_room (Nat.le_of_ble_eq_true rfl)) dX0_join_43 ⟨Nat.le_of_ble_eq_true rfl, Nat.le_of_ble_eq_true rfl⟩) hS (fun q _ h => hFc q h) hFc (fun u t H_27 L_28 ht hvm hw hB hz1 hk1 hS => ?_)
          obtain ⟨fc4_29, rfl⟩ : ∃ z, z = u := ⟨_, rfl⟩
          obtain ⟨hP1, -, hD1⟩ := hB
          rw [ht] at hP1
          obtain ⟨hP, hD⟩ := va_join (wr := [(ca1, .inl (cI, 30, .inl fc1_24)), (ca2, .inl (cI, 30, .inl g_19)), (ca3, .inl (cI, 30, .inl fc3))]) (w1 := [(h0, .inr (0, [.ref ca1, .ref ca2, .ref ca3, .ref ca4, .int (nI c)])), (ca4, .inl (cI, 30, .inl fc4_29))]) hP hD [0, 4] [1, 2, 3] rfl rfl (by decide) (by decide) hk1 hFc hP1 hD1
          have hP : va_P D vwCl [(h0, .inr (0, [.ref ca1, .ref ca2, .ref ca3, .ref ca4, .int (nI c)])), (ca1, .inl (cI, 30, .inl fc1_24)), (ca2, .inl (cI, 30, .inl g_19)), (ca3, .inl (cI, 30, .inl fc3)), (ca4, .inl (cI, 30, .inl fc4_29))] H_27 := hP.sub [3, 0, 1, 2, 4] rfl
          have hD : va_D A [(h0, .inr (0, [.ref ca1, .ref ca2, .ref ca3, .ref ca4, .int (nI c)])), (ca1, .inl (cI, 30, .inl fc1_24)), (ca2, .inl (cI, 30, .inl g_19)), (ca3, .inl (cI, 30, .inl fc3)), (ca4, .inl (cI, 30, .inl fc4_29))] := hD.sub [3, 0, 1, 2, 4] (by decide) rfl
          try dsimp only at hw
          refine lv_iconst (v := 0) hx hb dX0_join_46 (by decide) ?_
          refine lv_istore_n (lv' := [(3, .int 0), (0, .ref h0), (1, .int x), (2, .int y)]) hx hb dX0_join_47 rfl hl (by decide) rfl (fun ls hl => ?_)
          have loop_30 : ∀ (nn_32 : Nat) (i : Nat) (g3 : Nat → Int32), (i ≤ 600) → (c - i < nn_32) → ∀ (H : Heap) (locs : List Loc) (ls : Array Slot), va_P D vwCl [(h0, .inr (0, [.ref ca1, .ref ca2, .ref ca3, .ref ca4, .int (nI c)])), (ca1, .inl (cI, 30, .inl fc1_24)), (ca2, .inl (cI, 30, .inl g_19)), (ca3, .inl (cI, 30, .inl g3)), (ca4, .inl (cI, 30, .inl fc4_29))] H → va_D A [(h0, .inr (0, [.ref ca1, .ref ca2, .ref ca3, .ref ca4, .int (nI c)])), (ca1, .inl (cI, 30, .inl fc1_24)), (ca2, .inl (cI, 30, .inl g_19)), (ca3, .inl (cI, 30, .inl g3)), (ca4, .inl (cI, 30, .inl fc4_29))] → va_S A s.heap H locs → lv_has ls 4 [(0, .ref h0), (1, .int x), (2, .int y), (3, .int (nI i))] → W p l e ({ frames := 2, cells := 0, slots := 0, locals := 43 } : Room) s m ([.ref h0, .int x, .int y] : List Value).toArray below meth cd H locs 0 0 Q (F0 m 48 ls []) := by
            intro nn_32
            induction nn_32 with
            | zero => intros; exact absurd ‹_ < 0› (Nat.not_lt_zero _)
            | succ nn_32 ih_31 =>
              intro i g3 hi600 hmu H locs ls hP hD hS hl
              refine lv_iload_n hx hb dX0_join_48 rfl (lv_at hl 3 rfl) ?_
              refine lv_aload_n hx hb dX0_join_49 rfl (lv_at hl 0 rfl) ?_
              refine va_get (D := D) (ci := 0) (v := .int (nI c)) (C := RX0) (T := TX0) (N := 5) hx hb hts hinX0 hown hK hP 0 rfl rfl 4 (by decide) (hts (.fieldLink RX0 24 "TaleReader$Cast" "count" "I") (uc5 _ (List.mem_of_getElem? (i := 16) rfl))) (fun _ h9 => h9) rfl dX0_join_50 ?_
              refine lv_icmp_ge (tgt := 97) hx hb dX0_join_53 (by decide) (fun c_33 => ?_) (fun c_33 => ?_)
              · have hP9 := hP.sub (ws' := [(h0, .inr (0, [.ref ca1, .ref ca2, .ref ca3, .ref ca4, .int (nI c)])), (ca1, .inl (cI, 30, .inl fc1_24)), (ca2, .inl (cI, 30, .inl g_19)), (ca3, .inl (cI, 30, .inl g3)), (ca4, .inl (cI, 30, .inl fc4_29))]) [0, 1, 2, 3, 4] rfl
                have hD9 := hD.sub (ws' := [(h0, .inr (0, [.ref ca1, .ref ca2, .ref ca3, .ref ca4, .int (nI c)])), (ca1, .inl (cI, 30, .inl fc1_24)), (ca2, .inl (cI, 30, .inl g_19)), (ca3, .inl (cI, 30, .inl g3)), (ca4, .inl (cI, 30, .inl fc4_29))]) [0, 1, 2, 3, 4] (by decide) rfl
                rw [← hQ]
                exact W.vret hx hb hr (fun t ht hW => ⟨⟨(fc1_24, g_19, g3, fc4_29), rfl, trivial, ⟨by rw [ht]; exact hP9, va_K.moved hW.alike hK, hD9⟩⟩, hS.F ht⟩) hS.2.2 dX0_join_97
              · have hlt_i : i < c := Nat.lt_of_not_le (fun q => c_33 (nI_le q (by omega)))
                refine lv_aload_n hx hb dX0_join_56 rfl (lv_at hl 0 rfl) ?_
                refine va_get (D := D) (ci := 0) (v := .ref ca3) (C := RX0) (T := TX0) (N := 5) hx hb hts hinX0 hown hK hP 0 rfl rfl 2 (by decide) (hts (.fieldLink RX0 18 "TaleReader$Cast" "members" "[I") (uc5 _ (List.mem_of_getElem? (i := 14) rfl))) (fun _ h9 => h9) rfl dX0_join_57 ?_
                refine lv_iload_n hx hb dX0_join_60 rfl (lv_at hl 3 rfl) ?_
                refine va_iald (D := D) hx hb hK hP 3 1 rfl rfl (vp_in_nI (by omega) (by omega)) dX0_join_61 ?_
                refine lv_topi (fun v_34 ev_34 => ?_)
                refine lv_iconst (v := 1) hx hb dX0_join_62 (by decide) ?_
                refine lv_iload_n hx hb dX0_join_63 rfl (lv_at hl 1 rfl) ?_
                refine lv_ishl hx hb dX0_join_64 ?_
                refine lv_topi (fun v_35 ev_35 => ?_)
                refine lv_iand hx hb dX0_join_65 ?_
                refine lv_topi (fun v_36 ev_36 => ?_)
                refine lv_if_eq (tgt := 91) hx hb dX0_join_66 (by decide) (fun c_37 => ?_) (fun c_37 => ?_)
                · refine lv_iinc (v := nI (i + 1)) (lv' := [(3, .int (nI (i + 1))), (0, .ref h0), (1, .int x), (2, .int y)]) hx hb dX0_join_91 hl (k := 3) rfl (nI_add i 1) (by decide) rfl (fun ls hl => ?_)
                  refine lv_goto (tgt := 48) hx hb dX0_join_94 (by decide) ?_
                  exact ih_31 (i + 1) g3 (by first | assumption | exact Or.inl rfl | exact Or.inr rfl | omega) (by omega) H _ ls (hP.sub (ws' := [(h0, .inr (0, [.ref ca1, .ref ca2, .ref ca3, .ref ca4, .int (nI c)])), (ca1, .inl (cI, 30, .inl fc1_24)), (ca2, .inl (cI, 30, .inl g_19)), (ca3, .inl (cI, 30, .inl g3)), (ca4, .inl (cI, 30, .inl fc4_29))]) [0, 1, 2, 3, 4] rfl) (hD.sub (ws' := [(h0, .inr (0, [.ref ca1, .ref ca2, .ref ca3, .ref ca4, .int (nI c)])), (ca1, .inl (cI, 30, .inl fc1_24)), (ca2, .inl (cI, 30, .inl g_19)), (ca3, .inl (cI, 30, .inl g3)), (ca4, .inl (cI, 30, .inl fc4_29))]) [0, 1, 2, 3, 4] (by decide) rfl) hS (lv_sub hl [1, 2, 3, 0] rfl)
                · refine lv_aload_n hx hb dX0_join_69 rfl (lv_at hl 0 rfl) ?_
                  refine va_get (D := D) (ci := 0) (v := .ref ca3) (C := RX0) (T := TX0) (N := 5) hx hb hts hinX0 hown hK hP 0 rfl rfl 2 (by decide) (hts (.fieldLink RX0 18 "TaleReader$Cast" "members" "[I") (uc5 _ (List.mem_of_getElem? (i := 14) rfl))) (fun _ h9 => h9) rfl dX0_join_70 ?_
                  refine lv_iload_n hx hb dX0_join_73 rfl (lv_at hl 3 rfl) ?_
                  refine lv_aload_n hx hb dX0_join_74 rfl (lv_at hl 0 rfl) ?_
                  refine va_get (D := D) (ci := 0) (v := .ref ca3) (C := RX0) (T := TX0) (N := 5) hx hb hts hinX0 hown hK hP 0 rfl rfl 2 (by decide) (hts (.fieldLink RX0 18 "TaleReader$Cast" "members" "[I") (uc5 _ (List.mem_of_getElem? (i := 14) rfl))) (fun _ h9 => h9) rfl dX0_join_75 ?_
                  refine lv_iload_n hx hb dX0_join_78 rfl (lv_at hl 3 rfl) ?_
                  refine va_iald (D := D) hx hb hK hP 3 1 rfl rfl (vp_in_nI (by omega) (by omega)) dX0_join_79 ?_
                  refine lv_topi (fun v_38 ev_38 => ?_)
                  refine lv_iconst (v := 1) hx hb dX0_join_80 (by decide) ?_
                  refine lv_iload_n hx hb dX0_join_81 rfl (lv_at hl 1 rfl) ?_
                  refine lv_ishl hx hb dX0_join_82 ?_
                  refine lv_topi (fun v_39 ev_39 => ?_)
                  refine lv_iconst (v := (-1)) hx hb dX0_join_83 (by decide) ?_
                  refine lv_ixor hx hb dX0_join_84 ?_
                  refine lv_topi (fun v_40 ev_40 => ?_)
                  refine lv_iand hx hb dX0_join_85 ?_
                  refine lv_topi (fun v_41 ev_41 => ?_)
                  refine lv_iconst (v := 1) hx hb dX0_join_86 (by decide) ?_
                  refine lv_iload_n hx hb dX0_join_87 rfl (lv_at hl 2 rfl) ?_
                  refine lv_ishl hx hb dX0_join_88 ?_
                  refine lv_topi (fun v_42 ev_42 => ?_)
                  refine lv_ior hx hb dX0_join_89 ?_
                  refine lv_topi (fun v_43 ev_43 => ?_)
                  refine va_iast (D := D) hx hb hK hP hD hS 3 1 rfl rfl (vp_in_nI (by omega) (by omega)) dX0_join_90 (fun H_44 L_45 hP hD hS => ?_)
                  obtain ⟨g_46, eg_46⟩ : ∃ gg : Nat → Int32, gg = upd g3 ((nI i)).toNatClampNeg v_43 := ⟨_, rfl⟩
                  have hP : va_P D vwCl [(h0, .inr (0, [.ref ca1, .ref ca2, .ref ca3, .ref ca4, .int (nI c)])), (ca1, .inl (cI, 30, .inl fc1_24)), (ca2, .inl (cI, 30, .inl g_19)), (ca3, .inl (cI, 30, .inl g_46)), (ca4, .inl (cI, 30, .inl fc4_29))] H_44 := by rw [eg_46]; exact hP
                  have hD : va_D A [(h0, .inr (0, [.ref ca1, .ref ca2, .ref ca3, .ref ca4, .int (nI c)])), (ca1, .inl (cI, 30, .inl fc1_24)), (ca2, .inl (cI, 30, .inl g_19)), (ca3, .inl (cI, 30, .inl g_46)), (ca4, .inl (cI, 30, .inl fc4_29))] := by rw [eg_46]; exact hD
                  refine lv_iinc (v := nI (i + 1)) (lv' := [(3, .int (nI (i + 1))), (0, .ref h0), (1, .int x), (2, .int y)]) hx hb dX0_join_91 hl (k := 3) rfl (nI_add i 1) (by decide) rfl (fun ls hl => ?_)
                  refine lv_goto (tgt := 48) hx hb dX0_join_94 (by decide) ?_
                  exact ih_31 (i + 1) g_46 (by first | assumption | exact Or.inl rfl | exact Or.inr rfl | omega) (by omega) H_44 _ ls (hP.sub (ws' := [(h0, .inr (0, [.ref ca1, .ref ca2, .ref ca3, .ref ca4, .int (nI c)])), (ca1, .inl (cI, 30, .inl fc1_24)), (ca2, .inl (cI, 30, .inl g_19)), (ca3, .inl (cI, 30, .inl g_46)), (ca4, .inl (cI, 30, .inl fc4_29))]) [0, 1, 2, 3, 4] rfl) (hD.sub (ws' := [(h0, .inr (0, [.ref ca1, .ref ca2, .ref ca3, .ref ca4, .int (nI c)])), (ca1, .inl (cI, 30, .inl fc1_24)), (ca2, .inl (cI, 30, .inl g_19)), (ca3, .inl (cI, 30, .inl g_46)), (ca4, .inl (cI, 30, .inl fc4_29))]) [0, 1, 2, 3, 4] (by decide) rfl) hS (lv_sub hl [1, 2, 3, 0] rfl)
          exact loop_30 _ 0 fc3 (by first | assumption | exact Or.inl rfl | exact Or.inr rfl | omega) (Nat.lt_succ_self _) H_27 _ ls (hP.sub (ws' := [(h0, .inr (0, [.ref ca1, .ref ca2, .ref ca3, .ref ca4, .int (nI c)])), (ca1, .inl (cI, 30, .inl fc1_24)), (ca2, .inl (cI, 30, .inl g_19)), (ca3, .inl (cI, 30, .inl fc3)), (ca4, .inl (cI, 30, .inl fc4_29))]) [0, 1, 2, 3, 4] rfl) (hD.sub (ws' := [(h0, .inr (0, [.ref ca1, .ref ca2, .ref ca3, .ref ca4, .int (nI c)])), (ca1, .inl (cI, 30, .inl fc1_24)), (ca2, .inl (cI, 30, .inl g_19)), (ca3, .inl (cI, 30, .inl fc3)), (ca4, .inl (cI, 30, .inl fc4_29))]) [0, 1, 2, 3, 4] (by decide) rfl) hS (lv_sub hl [1, 2, 3, 0] rfl)
        · exact False.elim (by revert c_16; decide)
