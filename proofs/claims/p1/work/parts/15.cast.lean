set_option maxHeartbeats 4000000 in
set_option maxRecDepth 100000 in
theorem c_X0_init (l : Launch) (D : va_G) (cB cI cZ : ClassId) (sz : Nat) (h0 : Nat) : Met l yX0_init (.code yX0_init cX0_init 1 none :: wsL_law) ({ frames := 1, cells := 4, slots := 120, locals := 12 } : Room) (va_Pc [.ref h0] (pIn D (pT cB cI cZ) sz [(h0, .inr (0, [.null, .null, .null, .null, .int 0]))])) (va_Qv (fun (u : Nat × Nat × Nat × Nat) => True) (fun (u : Nat × Nat × Nat × Nat) (t : State) => pAt D (pT cB cI cZ) (va_A [(h0, .inr (0, [.null, .null, .null, .null, .int 0]))] sz) [(h0, .inr (0, [.ref u.1, .ref u.2.1, .ref u.2.2.1, .ref u.2.2.2, .int 0])), (u.1, .inl (cI, 30, .inl (fun _ => 0))), (u.2.1, .inl (cI, 30, .inl (fun _ => 0))), (u.2.2.1, .inl (cI, 30, .inl (fun _ => 0))), (u.2.2.2, .inl (cI, 30, .inl (fun _ => 0)))] t) (va_A [(h0, .inr (0, [.null, .null, .null, .null, .int 0]))] sz)) 4 120 (va_A [(h0, .inr (0, [.null, .null, .null, .null, .int 0]))] sz) := by
  refine Met.ofW (cc := cX0_init) (maxL := 1) (ret := none) (by decide) rfl ?_
  intro p e s m args below meth c s₁ B hml hv
  obtain ⟨rfl, hsz, hP, hK, hD0⟩ := hv
  have hx := B.exec
  have hb := B.bytes
  have hr := B.returns
  have hts0 := atoms_spec (ws := .code yX0_init cX0_init 1 none :: wsL_law) B.pre
  have hts := fun (w : Cond) (h : w ∈ wsL_law) => hts0 w (List.mem_cons_of_mem _ h)
  have hown : s.vm.findClass RX0 = some m.cls := findClass_of_methodNamed B.named
  have hlocks := B.notSynchronized
  have hin : meth.name = "<init>" := (name_of_methodNamed B.named B.method).1
  have hinX0 := inlX0
  subst hsz
  have hD := hD0.self (sz := s.heap.size)
  generalize hAe : va_A [(h0, .inr (0, [.null, .null, .null, .null, .int 0]))] s.heap.size = A at hD ⊢
  have hA : ∀ q : Nat, s.heap.size ≤ q → A q := fun q h => by rw [← hAe]; exact Or.inr h
  have hS : va_S A s.heap s.heap [] := va_S.rf
  have hP : va_P D vwCl [(h0, .inr (0, [.null, .null, .null, .null, .int 0]))] s.heap := hP
  have hl := lv_entry ([.ref h0]) (n := 1) (Nat.le_of_ble_eq_true rfl)
  rw [lg_entry_eq]
  generalize (lg_sl ([.ref h0]) ++ List.replicate (1 - (lg_sl ([.ref h0])).length) Slot.unset).toArray = ls at hl ⊢
  have hl : lv_has ls 1 [(0, .ref h0)] := hl
  refine lv_aload_n hx hb dX0_init_0 rfl (lv_at hl 0 rfl) ?_
  refine W.objInit hx hb hown (hts (.methodLink RX0 3 objectInit) (uc5 _ (List.mem_of_getElem? (i := 11) rfl))) (hts (.instanceMethod objectInit) (uc1 _ (List.mem_of_getElem? (i := 10) rfl))) (hts (.code objectInit ⟨#[0xb1]⟩ 1 none) (uc1 _ (List.mem_of_getElem? (i := 11) rfl))) rfl (by rw [hml]; exact hl.1) rfl dX0_init_1 (Nat.le_of_ble_eq_true rfl) (Nat.le_of_ble_eq_true rfl) ?_
  refine W.eq (g2 := F0 m 4 ls []) rfl ?_
  refine lv_aload_n hx hb dX0_init_4 rfl (lv_at hl 0 rfl) ?_
  refine lv_bipush (v := 30) hx hb dX0_init_5 (by decide) ?_
  refine pNewa (D := D) (cl := vwCl) (ty := .int) (N' := 30) (a0 := (30, .inl (fun _ => 0))) (cA := cI) hx hb (hts (.arrayClass .int) (uc3 _ (List.mem_of_getElem? (i := 13) rfl))) rfl hK hP hD hS hA (fun _ => rfl) (by decide) (by decide) (by decide) (Nat.le_of_ble_eq_true rfl) (Nat.le_of_ble_eq_true rfl) dX0_init_7 1 rfl (fun q_1 H_2 hP hD hS => ?_)
  have hP : va_P D vwCl [(h0, .inr (0, [.null, .null, .null, .null, .int 0])), (q_1, .inl (cI, 30, .inl (fun _ => 0)))] H_2 := hP
  have hD : va_D A [(h0, .inr (0, [.null, .null, .null, .null, .int 0])), (q_1, .inl (cI, 30, .inl (fun _ => 0)))] := hD
  refine W.widen (k := 1) (n := 30) (by decide) (by decide) ?_
  refine va_putF (D := D) (ci := 0) (v := .ref q_1) (ty := (.array .int)) (C := RX0) (T := TX0) (N := 5) hx hb hts hinX0 tyX0 tyX0_ok nmX0 hown hK hP hD hS 0 rfl rfl 0 (by decide) (hts (.fieldLink RX0 9 "TaleReader$Cast" "sexes" "[I") (uc5 _ (List.mem_of_getElem? (i := 12) rfl))) (fun _ h9 => h9) rfl hin rfl (by decide +kernel) rfl rfl (Nat.le_of_ble_eq_true rfl) dX0_init_9 (fun H_3 L_4 hP hD hS => ?_)
  have hP : va_P D vwCl [(h0, .inr (0, [.ref q_1, .null, .null, .null, .int 0])), (q_1, .inl (cI, 30, .inl (fun _ => 0)))] H_3 := hP
  have hD : va_D A [(h0, .inr (0, [.ref q_1, .null, .null, .null, .int 0])), (q_1, .inl (cI, 30, .inl (fun _ => 0)))] := hD
  refine lv_aload_n hx hb dX0_init_12 rfl (lv_at hl 0 rfl) ?_
  refine lv_bipush (v := 30) hx hb dX0_init_13 (by decide) ?_
  refine pNewa (D := D) (cl := vwCl) (ty := .int) (N' := 30) (a0 := (30, .inl (fun _ => 0))) (cA := cI) hx hb (hts (.arrayClass .int) (uc3 _ (List.mem_of_getElem? (i := 13) rfl))) rfl hK hP hD hS hA (fun _ => rfl) (by decide) (by decide) (by decide) (Nat.le_of_ble_eq_true rfl) (Nat.le_of_ble_eq_true rfl) dX0_init_15 1 rfl (fun q_5 H_6 hP hD hS => ?_)
  have hP : va_P D vwCl [(h0, .inr (0, [.ref q_1, .null, .null, .null, .int 0])), (q_1, .inl (cI, 30, .inl (fun _ => 0))), (q_5, .inl (cI, 30, .inl (fun _ => 0)))] H_6 := hP
  have hD : va_D A [(h0, .inr (0, [.ref q_1, .null, .null, .null, .int 0])), (q_1, .inl (cI, 30, .inl (fun _ => 0))), (q_5, .inl (cI, 30, .inl (fun _ => 0)))] := hD
  refine W.widen (k := 2) (n := 60) (by decide) (by decide) ?_
  refine va_putF (D := D) (ci := 0) (v := .ref q_5) (ty := (.array .int)) (C := RX0) (T := TX0) (N := 5) hx hb hts hinX0 tyX0 tyX0_ok nmX0 hown hK hP hD hS 0 rfl rfl 1 (by decide) (hts (.fieldLink RX0 15 "TaleReader$Cast" "joined" "[I") (uc5 _ (List.mem_of_getElem? (i := 13) rfl))) (fun _ h9 => h9) rfl hin rfl (by decide +kernel) rfl rfl (Nat.le_of_ble_eq_true rfl) dX0_init_17 (fun H_7 L_8 hP hD hS => ?_)
  have hP : va_P D vwCl [(h0, .inr (0, [.ref q_1, .ref q_5, .null, .null, .int 0])), (q_1, .inl (cI, 30, .inl (fun _ => 0))), (q_5, .inl (cI, 30, .inl (fun _ => 0)))] H_7 := hP
  have hD : va_D A [(h0, .inr (0, [.ref q_1, .ref q_5, .null, .null, .int 0])), (q_1, .inl (cI, 30, .inl (fun _ => 0))), (q_5, .inl (cI, 30, .inl (fun _ => 0)))] := hD
  refine lv_aload_n hx hb dX0_init_20 rfl (lv_at hl 0 rfl) ?_
  refine lv_bipush (v := 30) hx hb dX0_init_21 (by decide) ?_
  refine pNewa (D := D) (cl := vwCl) (ty := .int) (N' := 30) (a0 := (30, .inl (fun _ => 0))) (cA := cI) hx hb (hts (.arrayClass .int) (uc3 _ (List.mem_of_getElem? (i := 13) rfl))) rfl hK hP hD hS hA (fun _ => rfl) (by decide) (by decide) (by decide) (Nat.le_of_ble_eq_true rfl) (Nat.le_of_ble_eq_true rfl) dX0_init_23 1 rfl (fun q_9 H_10 hP hD hS => ?_)
  have hP : va_P D vwCl [(h0, .inr (0, [.ref q_1, .ref q_5, .null, .null, .int 0])), (q_1, .inl (cI, 30, .inl (fun _ => 0))), (q_5, .inl (cI, 30, .inl (fun _ => 0))), (q_9, .inl (cI, 30, .inl (fun _ => 0)))] H_10 := hP
  have hD : va_D A [(h0, .inr (0, [.ref q_1, .ref q_5, .null, .null, .int 0])), (q_1, .inl (cI, 30, .inl (fun _ => 0))), (q_5, .inl (cI, 30, .inl (fun _ => 0))), (q_9, .inl (cI, 30, .inl (fun _ => 0)))] := hD
  refine W.widen (k := 3) (n := 90) (by decide) (by decide) ?_
  refine va_putF (D := D) (ci := 0) (v := .ref q_9) (ty := (.array .int)) (C := RX0) (T := TX0) (N := 5) hx hb hts hinX0 tyX0 tyX0_ok nmX0 hown hK hP hD hS 0 rfl rfl 2 (by decide) (hts (.fieldLink RX0 18 "TaleReader$Cast" "members" "[I") (uc5 _ (List.mem_of_getElem? (i := 14) rfl))) (fun _ h9 => h9) rfl hin rfl (by decide +kernel) rfl rfl (Nat.le_of_ble_eq_true rfl) dX0_init_25 (fun H_11 L_12 hP hD hS => ?_)
  have hP : va_P D vwCl [(h0, .inr (0, [.ref q_1, .ref q_5, .ref q_9, .null, .int 0])), (q_1, .inl (cI, 30, .inl (fun _ => 0))), (q_5, .inl (cI, 30, .inl (fun _ => 0))), (q_9, .inl (cI, 30, .inl (fun _ => 0)))] H_11 := hP
  have hD : va_D A [(h0, .inr (0, [.ref q_1, .ref q_5, .ref q_9, .null, .int 0])), (q_1, .inl (cI, 30, .inl (fun _ => 0))), (q_5, .inl (cI, 30, .inl (fun _ => 0))), (q_9, .inl (cI, 30, .inl (fun _ => 0)))] := hD
  refine lv_aload_n hx hb dX0_init_28 rfl (lv_at hl 0 rfl) ?_
  refine lv_bipush (v := 30) hx hb dX0_init_29 (by decide) ?_
  refine pNewa (D := D) (cl := vwCl) (ty := .int) (N' := 30) (a0 := (30, .inl (fun _ => 0))) (cA := cI) hx hb (hts (.arrayClass .int) (uc3 _ (List.mem_of_getElem? (i := 13) rfl))) rfl hK hP hD hS hA (fun _ => rfl) (by decide) (by decide) (by decide) (Nat.le_of_ble_eq_true rfl) (Nat.le_of_ble_eq_true rfl) dX0_init_31 1 rfl (fun q_13 H_14 hP hD hS => ?_)
  have hP : va_P D vwCl [(h0, .inr (0, [.ref q_1, .ref q_5, .ref q_9, .null, .int 0])), (q_1, .inl (cI, 30, .inl (fun _ => 0))), (q_5, .inl (cI, 30, .inl (fun _ => 0))), (q_9, .inl (cI, 30, .inl (fun _ => 0))), (q_13, .inl (cI, 30, .inl (fun _ => 0)))] H_14 := hP
  have hD : va_D A [(h0, .inr (0, [.ref q_1, .ref q_5, .ref q_9, .null, .int 0])), (q_1, .inl (cI, 30, .inl (fun _ => 0))), (q_5, .inl (cI, 30, .inl (fun _ => 0))), (q_9, .inl (cI, 30, .inl (fun _ => 0))), (q_13, .inl (cI, 30, .inl (fun _ => 0)))] := hD
  refine W.widen (k := 4) (n := 120) (by decide) (by decide) ?_
  refine va_putF (D := D) (ci := 0) (v := .ref q_13) (ty := (.array .int)) (C := RX0) (T := TX0) (N := 5) hx hb hts hinX0 tyX0 tyX0_ok nmX0 hown hK hP hD hS 0 rfl rfl 3 (by decide) (hts (.fieldLink RX0 21 "TaleReader$Cast" "lastMentions" "[I") (uc5 _ (List.mem_of_getElem? (i := 15) rfl))) (fun _ h9 => h9) rfl hin rfl (by decide +kernel) rfl rfl (Nat.le_of_ble_eq_true rfl) dX0_init_33 (fun H_15 L_16 hP hD hS => ?_)
  have hP : va_P D vwCl [(h0, .inr (0, [.ref q_1, .ref q_5, .ref q_9, .ref q_13, .int 0])), (q_1, .inl (cI, 30, .inl (fun _ => 0))), (q_5, .inl (cI, 30, .inl (fun _ => 0))), (q_9, .inl (cI, 30, .inl (fun _ => 0))), (q_13, .inl (cI, 30, .inl (fun _ => 0)))] H_15 := hP
  have hD : va_D A [(h0, .inr (0, [.ref q_1, .ref q_5, .ref q_9, .ref q_13, .int 0])), (q_1, .inl (cI, 30, .inl (fun _ => 0))), (q_5, .inl (cI, 30, .inl (fun _ => 0))), (q_9, .inl (cI, 30, .inl (fun _ => 0))), (q_13, .inl (cI, 30, .inl (fun _ => 0)))] := hD
  refine lv_aload_n hx hb dX0_init_36 rfl (lv_at hl 0 rfl) ?_
  refine lv_iconst (v := 0) hx hb dX0_init_37 (by decide) ?_
  refine va_put (D := D) (ci := 0) (v := .int 0) (ty := .int) (C := RX0) (T := TX0) (N := 5) hx hb hts hinX0 tyX0 tyX0_ok nmX0 hown hK hP hD hS 0 rfl rfl 4 (by decide) (hts (.fieldLink RX0 24 "TaleReader$Cast" "count" "I") (uc5 _ (List.mem_of_getElem? (i := 16) rfl))) (fun _ h9 => h9) rfl (by decide +kernel) rfl rfl (Nat.le_of_ble_eq_true rfl) dX0_init_38 (fun H_17 L_18 hP hD hS => ?_)
  have hP : va_P D vwCl [(h0, .inr (0, [.ref q_1, .ref q_5, .ref q_9, .ref q_13, .int 0])), (q_1, .inl (cI, 30, .inl (fun _ => 0))), (q_5, .inl (cI, 30, .inl (fun _ => 0))), (q_9, .inl (cI, 30, .inl (fun _ => 0))), (q_13, .inl (cI, 30, .inl (fun _ => 0)))] H_17 := hP
  have hD : va_D A [(h0, .inr (0, [.ref q_1, .ref q_5, .ref q_9, .ref q_13, .int 0])), (q_1, .inl (cI, 30, .inl (fun _ => 0))), (q_5, .inl (cI, 30, .inl (fun _ => 0))), (q_9, .inl (cI, 30, .inl (fun _ => 0))), (q_13, .inl (cI, 30, .inl (fun _ => 0)))] := hD
  have hP9 := hP.sub (ws' := [(h0, .inr (0, [.ref q_1, .ref q_5, .ref q_9, .ref q_13, .int 0])), (q_1, .inl (cI, 30, .inl (fun _ => 0))), (q_5, .inl (cI, 30, .inl (fun _ => 0))), (q_9, .inl (cI, 30, .inl (fun _ => 0))), (q_13, .inl (cI, 30, .inl (fun _ => 0)))]) [0, 1, 2, 3, 4] rfl
  have hD9 := hD.sub (ws' := [(h0, .inr (0, [.ref q_1, .ref q_5, .ref q_9, .ref q_13, .int 0])), (q_1, .inl (cI, 30, .inl (fun _ => 0))), (q_5, .inl (cI, 30, .inl (fun _ => 0))), (q_9, .inl (cI, 30, .inl (fun _ => 0))), (q_13, .inl (cI, 30, .inl (fun _ => 0)))]) [0, 1, 2, 3, 4] (by decide) rfl
  exact W.vret hx hb hr (fun t ht hW => ⟨⟨(q_1, q_5, q_9, q_13), rfl, trivial, ⟨by rw [ht]; exact hP9, va_K.moved hW.alike hK, hD9⟩⟩, hS.F ht⟩) hS.2.2 dX0_init_41
set_option maxHeartbeats 4000000 in
set_option maxRecDepth 100000 in
theorem c_X0_size (l : Launch) (D : va_G) (cB cI cZ : ClassId) (sz : Nat) (h0 : Nat) (ca1 : Nat) (ca2 : Nat) (ca3 : Nat) (ca4 : Nat) (cnt : Int32) : Met l yX0_size (.code yX0_size cX0_size 1 (some .int) :: wsL_law) ({ frames := 0, cells := 0, slots := 0, locals := 0 } : Room) (va_Pc [.ref h0] (pIn D (pT cB cI cZ) sz [(h0, .inr (0, [.ref ca1, .ref ca2, .ref ca3, .ref ca4, .int cnt]))])) (va_Qi (fun (r : Int32) (u : Unit) => r = cnt) (fun (u : Unit) (t : State) => pAt D (pT cB cI cZ) (va_A [(h0, .inr (0, [.ref ca1, .ref ca2, .ref ca3, .ref ca4, .int cnt]))] sz) [(h0, .inr (0, [.ref ca1, .ref ca2, .ref ca3, .ref ca4, .int cnt]))] t) (va_A [(h0, .inr (0, [.ref ca1, .ref ca2, .ref ca3, .ref ca4, .int cnt]))] sz)) 0 0 (va_A [(h0, .inr (0, [.ref ca1, .ref ca2, .ref ca3, .ref ca4, .int cnt]))] sz) := by
  refine Met.ofW (cc := cX0_size) (maxL := 1) (ret := (some .int)) (by decide) rfl ?_
  intro p e s m args below meth c s₁ B hml hv
  obtain ⟨rfl, hsz, hP, hK, hD0⟩ := hv
  have hx := B.exec
  have hb := B.bytes
  have hr := B.returns
  have hts0 := atoms_spec (ws := .code yX0_size cX0_size 1 (some .int) :: wsL_law) B.pre
  have hts := fun (w : Cond) (h : w ∈ wsL_law) => hts0 w (List.mem_cons_of_mem _ h)
  have hown : s.vm.findClass RX0 = some m.cls := findClass_of_methodNamed B.named
  have hlocks := B.notSynchronized
  have hinX0 := inlX0
  subst hsz
  have hD := hD0.self (sz := s.heap.size)
  generalize hAe : va_A [(h0, .inr (0, [.ref ca1, .ref ca2, .ref ca3, .ref ca4, .int cnt]))] s.heap.size = A at hD ⊢
  have hA : ∀ q : Nat, s.heap.size ≤ q → A q := fun q h => by rw [← hAe]; exact Or.inr h
  have hS : va_S A s.heap s.heap [] := va_S.rf
  have hP : va_P D vwCl [(h0, .inr (0, [.ref ca1, .ref ca2, .ref ca3, .ref ca4, .int cnt]))] s.heap := hP
  have hl := lv_entry ([.ref h0]) (n := 1) (Nat.le_of_ble_eq_true rfl)
  rw [lg_entry_eq]
  generalize (lg_sl ([.ref h0]) ++ List.replicate (1 - (lg_sl ([.ref h0])).length) Slot.unset).toArray = ls at hl ⊢
  have hl : lv_has ls 1 [(0, .ref h0)] := hl
  refine lv_aload_n hx hb dX0_size_0 rfl (lv_at hl 0 rfl) ?_
  refine va_get (D := D) (ci := 0) (v := .int cnt) (C := RX0) (T := TX0) (N := 5) hx hb hts hinX0 hown hK hP 0 rfl rfl 4 (by decide) (hts (.fieldLink RX0 24 "TaleReader$Cast" "count" "I") (uc5 _ (List.mem_of_getElem? (i := 16) rfl))) (fun _ h9 => h9) rfl dX0_size_1 ?_
  have hP9 := hP.sub (ws' := [(h0, .inr (0, [.ref ca1, .ref ca2, .ref ca3, .ref ca4, .int cnt]))]) [0] rfl
  have hD9 := hD.sub (ws' := [(h0, .inr (0, [.ref ca1, .ref ca2, .ref ca3, .ref ca4, .int cnt]))]) [0] (by decide) rfl
  exact W.iret (v := cnt) hx hb hr (fun t ht hW => ⟨⟨cnt, (), rfl, rfl, ⟨by rw [ht]; exact hP9, va_K.moved hW.alike hK, hD9⟩⟩, hS.F ht⟩) hS.2.2 dX0_size_4
set_option maxHeartbeats 4000000 in
set_option maxRecDepth 100000 in
theorem c_X0_clear (l : Launch) (D : va_G) (cB cI cZ : ClassId) (sz : Nat) (h0 : Nat) (ca1 : Nat) (ca2 : Nat) (ca3 : Nat) (ca4 : Nat) (cnt : Int32) : Met l yX0_clear (.code yX0_clear cX0_clear 1 none :: wsL_law) ({ frames := 0, cells := 0, slots := 0, locals := 0 } : Room) (va_Pc [.ref h0] (pIn D (pT cB cI cZ) sz [(h0, .inr (0, [.ref ca1, .ref ca2, .ref ca3, .ref ca4, .int cnt]))])) (va_Qv (fun (u : Unit) => True) (fun (u : Unit) (t : State) => pAt D (pT cB cI cZ) (va_A [(h0, .inr (0, [.ref ca1, .ref ca2, .ref ca3, .ref ca4, .int cnt]))] sz) [(h0, .inr (0, [.ref ca1, .ref ca2, .ref ca3, .ref ca4, .int 0]))] t) (va_A [(h0, .inr (0, [.ref ca1, .ref ca2, .ref ca3, .ref ca4, .int cnt]))] sz)) 0 0 (va_A [(h0, .inr (0, [.ref ca1, .ref ca2, .ref ca3, .ref ca4, .int cnt]))] sz) := by
  refine Met.ofW (cc := cX0_clear) (maxL := 1) (ret := none) (by decide) rfl ?_
  intro p e s m args below meth c s₁ B hml hv
  obtain ⟨rfl, hsz, hP, hK, hD0⟩ := hv
  have hx := B.exec
  have hb := B.bytes
  have hr := B.returns
  have hts0 := atoms_spec (ws := .code yX0_clear cX0_clear 1 none :: wsL_law) B.pre
  have hts := fun (w : Cond) (h : w ∈ wsL_law) => hts0 w (List.mem_cons_of_mem _ h)
  have hown : s.vm.findClass RX0 = some m.cls := findClass_of_methodNamed B.named
  have hlocks := B.notSynchronized
  have hinX0 := inlX0
  subst hsz
  have hD := hD0.self (sz := s.heap.size)
  generalize hAe : va_A [(h0, .inr (0, [.ref ca1, .ref ca2, .ref ca3, .ref ca4, .int cnt]))] s.heap.size = A at hD ⊢
  have hA : ∀ q : Nat, s.heap.size ≤ q → A q := fun q h => by rw [← hAe]; exact Or.inr h
  have hS : va_S A s.heap s.heap [] := va_S.rf
  have hP : va_P D vwCl [(h0, .inr (0, [.ref ca1, .ref ca2, .ref ca3, .ref ca4, .int cnt]))] s.heap := hP
  have hl := lv_entry ([.ref h0]) (n := 1) (Nat.le_of_ble_eq_true rfl)
  rw [lg_entry_eq]
  generalize (lg_sl ([.ref h0]) ++ List.replicate (1 - (lg_sl ([.ref h0])).length) Slot.unset).toArray = ls at hl ⊢
  have hl : lv_has ls 1 [(0, .ref h0)] := hl
  refine lv_aload_n hx hb dX0_clear_0 rfl (lv_at hl 0 rfl) ?_
  refine lv_iconst (v := 0) hx hb dX0_clear_1 (by decide) ?_
  refine va_put (D := D) (ci := 0) (v := .int 0) (ty := .int) (C := RX0) (T := TX0) (N := 5) hx hb hts hinX0 tyX0 tyX0_ok nmX0 hown hK hP hD hS 0 rfl rfl 4 (by decide) (hts (.fieldLink RX0 24 "TaleReader$Cast" "count" "I") (uc5 _ (List.mem_of_getElem? (i := 16) rfl))) (fun _ h9 => h9) rfl (by decide +kernel) rfl rfl (Nat.le_of_ble_eq_true rfl) dX0_clear_2 (fun H_1 L_2 hP hD hS => ?_)
  have hP : va_P D vwCl [(h0, .inr (0, [.ref ca1, .ref ca2, .ref ca3, .ref ca4, .int 0]))] H_1 := hP
  have hD : va_D A [(h0, .inr (0, [.ref ca1, .ref ca2, .ref ca3, .ref ca4, .int 0]))] := hD
  have hP9 := hP.sub (ws' := [(h0, .inr (0, [.ref ca1, .ref ca2, .ref ca3, .ref ca4, .int 0]))]) [0] rfl
  have hD9 := hD.sub (ws' := [(h0, .inr (0, [.ref ca1, .ref ca2, .ref ca3, .ref ca4, .int 0]))]) [0] (by decide) rfl
  exact W.vret hx hb hr (fun t ht hW => ⟨⟨(), rfl, trivial, ⟨by rw [ht]; exact hP9, va_K.moved hW.alike hK, hD9⟩⟩, hS.F ht⟩) hS.2.2 dX0_clear_5
set_option maxHeartbeats 4000000 in
set_option maxRecDepth 100000 in
theorem c_X0_has (l : Launch) (D : va_G) (cB cI cZ : ClassId) (sz : Nat) (h0 : Nat) (ca1 : Nat) (ca2 : Nat) (ca3 : Nat) (ca4 : Nat) (cnt : Int32) (k : Int32) : Met l yX0_has (.code yX0_has cX0_has 2 (some .boolean) :: wsL_law) ({ frames := 0, cells := 0, slots := 0, locals := 0 } : Room) (va_Pc [.ref h0, .int k] (pIn D (pT cB cI cZ) sz [(h0, .inr (0, [.ref ca1, .ref ca2, .ref ca3, .ref ca4, .int cnt]))])) (va_Qi (fun (r : Int32) (u : Unit) => ((r = 0) ∧ (k < 0 ∨ cnt ≤ k)) ∨ ((r = 1) ∧ (¬ k < 0) ∧ (¬ cnt ≤ k))) (fun (u : Unit) (t : State) => pAt D (pT cB cI cZ) (va_A [(h0, .inr (0, [.ref ca1, .ref ca2, .ref ca3, .ref ca4, .int cnt]))] sz) [(h0, .inr (0, [.ref ca1, .ref ca2, .ref ca3, .ref ca4, .int cnt]))] t) (va_A [(h0, .inr (0, [.ref ca1, .ref ca2, .ref ca3, .ref ca4, .int cnt]))] sz)) 0 0 (va_A [(h0, .inr (0, [.ref ca1, .ref ca2, .ref ca3, .ref ca4, .int cnt]))] sz) := by
  refine Met.ofW (cc := cX0_has) (maxL := 2) (ret := (some .boolean)) (by decide) rfl ?_
  intro p e s m args below meth c s₁ B hml hv
  obtain ⟨rfl, hsz, hP, hK, hD0⟩ := hv
  have hx := B.exec
  have hb := B.bytes
  have hr := B.returns
  have hts0 := atoms_spec (ws := .code yX0_has cX0_has 2 (some .boolean) :: wsL_law) B.pre
  have hts := fun (w : Cond) (h : w ∈ wsL_law) => hts0 w (List.mem_cons_of_mem _ h)
  have hown : s.vm.findClass RX0 = some m.cls := findClass_of_methodNamed B.named
  have hlocks := B.notSynchronized
  have hinX0 := inlX0
  subst hsz
  have hD := hD0.self (sz := s.heap.size)
  generalize hAe : va_A [(h0, .inr (0, [.ref ca1, .ref ca2, .ref ca3, .ref ca4, .int cnt]))] s.heap.size = A at hD ⊢
  have hA : ∀ q : Nat, s.heap.size ≤ q → A q := fun q h => by rw [← hAe]; exact Or.inr h
  have hS : va_S A s.heap s.heap [] := va_S.rf
  have hP : va_P D vwCl [(h0, .inr (0, [.ref ca1, .ref ca2, .ref ca3, .ref ca4, .int cnt]))] s.heap := hP
  have hl := lv_entry ([.ref h0, .int k]) (n := 2) (Nat.le_of_ble_eq_true rfl)
  rw [lg_entry_eq]
  generalize (lg_sl ([.ref h0, .int k]) ++ List.replicate (2 - (lg_sl ([.ref h0, .int k])).length) Slot.unset).toArray = ls at hl ⊢
  have hl : lv_has ls 2 [(0, .ref h0), (1, .int k)] := hl
  refine lv_iload_n hx hb dX0_has_0 rfl (lv_at hl 1 rfl) ?_
  refine lv_if_lt (tgt := 16) hx hb dX0_has_1 (by decide) (fun c_1 => ?_) (fun c_1 => ?_)
  · refine lv_iconst (v := 0) hx hb dX0_has_16 (by decide) ?_
    have hP9 := hP.sub (ws' := [(h0, .inr (0, [.ref ca1, .ref ca2, .ref ca3, .ref ca4, .int cnt]))]) [0] rfl
    have hD9 := hD.sub (ws' := [(h0, .inr (0, [.ref ca1, .ref ca2, .ref ca3, .ref ca4, .int cnt]))]) [0] (by decide) rfl
    exact W.zret (v := 0) hx hb hr (rfl) (fun t ht hW => ⟨⟨0, (), rfl, Or.inl (⟨rfl, Or.inl c_1⟩), ⟨by rw [ht]; exact hP9, va_K.moved hW.alike hK, hD9⟩⟩, hS.F ht⟩) hS.2.2 dX0_has_17
  · refine lv_iload_n hx hb dX0_has_4 rfl (lv_at hl 1 rfl) ?_
    refine lv_aload_n hx hb dX0_has_5 rfl (lv_at hl 0 rfl) ?_
    refine va_get (D := D) (ci := 0) (v := .int cnt) (C := RX0) (T := TX0) (N := 5) hx hb hts hinX0 hown hK hP 0 rfl rfl 4 (by decide) (hts (.fieldLink RX0 24 "TaleReader$Cast" "count" "I") (uc5 _ (List.mem_of_getElem? (i := 16) rfl))) (fun _ h9 => h9) rfl dX0_has_6 ?_
    refine lv_icmp_ge (tgt := 16) hx hb dX0_has_9 (by decide) (fun c_2 => ?_) (fun c_2 => ?_)
    · refine lv_iconst (v := 0) hx hb dX0_has_16 (by decide) ?_
      have hP9 := hP.sub (ws' := [(h0, .inr (0, [.ref ca1, .ref ca2, .ref ca3, .ref ca4, .int cnt]))]) [0] rfl
      have hD9 := hD.sub (ws' := [(h0, .inr (0, [.ref ca1, .ref ca2, .ref ca3, .ref ca4, .int cnt]))]) [0] (by decide) rfl
      exact W.zret (v := 0) hx hb hr (rfl) (fun t ht hW => ⟨⟨0, (), rfl, Or.inl (⟨rfl, Or.inr c_2⟩), ⟨by rw [ht]; exact hP9, va_K.moved hW.alike hK, hD9⟩⟩, hS.F ht⟩) hS.2.2 dX0_has_17
    · refine lv_iconst (v := 1) hx hb dX0_has_12 (by decide) ?_
      refine lv_goto (tgt := 17) hx hb dX0_has_13 (by decide) ?_
      have hP9 := hP.sub (ws' := [(h0, .inr (0, [.ref ca1, .ref ca2, .ref ca3, .ref ca4, .int cnt]))]) [0] rfl
      have hD9 := hD.sub (ws' := [(h0, .inr (0, [.ref ca1, .ref ca2, .ref ca3, .ref ca4, .int cnt]))]) [0] (by decide) rfl
      exact W.zret (v := 1) hx hb hr (rfl) (fun t ht hW => ⟨⟨1, (), rfl, Or.inr ((⟨rfl, by first | assumption | rfl | omega, by first | assumption | rfl | omega⟩)), ⟨by rw [ht]; exact hP9, va_K.moved hW.alike hK, hD9⟩⟩, hS.F ht⟩) hS.2.2 dX0_has_17
set_option maxHeartbeats 4000000 in
set_option maxRecDepth 100000 in
theorem c_X0_nowOf_0 (l : Launch) (D : va_G) (cB cI cZ : ClassId) (sz : Nat) (h0 : Nat) (ca1 : Nat) (ca2 : Nat) (ca3 : Nat) (ca4 : Nat) (k : Int32) : Met l yX0_nowOf (.code yX0_nowOf cX0_nowOf 4 (some .int) :: wsL_law) ({ frames := 1, cells := 0, slots := 0, locals := 21 } : Room) (va_Pc [.ref h0, .int k] (pIn D (pT cB cI cZ) sz [(h0, .inr (0, [.ref ca1, .ref ca2, .ref ca3, .ref ca4, .int 0]))])) (va_Qi (fun (r : Int32) (u : Unit) => r = (-1)) (fun (u : Unit) (t : State) => pAt D (pT cB cI cZ) (va_A [(h0, .inr (0, [.ref ca1, .ref ca2, .ref ca3, .ref ca4, .int 0]))] sz) [(h0, .inr (0, [.ref ca1, .ref ca2, .ref ca3, .ref ca4, .int 0]))] t) (va_A [(h0, .inr (0, [.ref ca1, .ref ca2, .ref ca3, .ref ca4, .int 0]))] sz)) 0 0 (va_A [(h0, .inr (0, [.ref ca1, .ref ca2, .ref ca3, .ref ca4, .int 0]))] sz) := by
  refine Met.ofW (cc := cX0_nowOf) (maxL := 4) (ret := (some .int)) (by decide) rfl ?_
  intro p e s m args below meth c s₁ B hml hv
  obtain ⟨rfl, hsz, hP, hK, hD0⟩ := hv
  have hx := B.exec
  have hb := B.bytes
  have hr := B.returns
  have hts0 := atoms_spec (ws := .code yX0_nowOf cX0_nowOf 4 (some .int) :: wsL_law) B.pre
  have hts := fun (w : Cond) (h : w ∈ wsL_law) => hts0 w (List.mem_cons_of_mem _ h)
  have hown : s.vm.findClass RX0 = some m.cls := findClass_of_methodNamed B.named
  have hlocks := B.notSynchronized
  subst hsz
  have hD := hD0.self (sz := s.heap.size)
  generalize hAe : va_A [(h0, .inr (0, [.ref ca1, .ref ca2, .ref ca3, .ref ca4, .int 0]))] s.heap.size = A at hD ⊢
  have hA : ∀ q : Nat, s.heap.size ≤ q → A q := fun q h => by rw [← hAe]; exact Or.inr h
  have hS : va_S A s.heap s.heap [] := va_S.rf
  have hP : va_P D vwCl [(h0, .inr (0, [.ref ca1, .ref ca2, .ref ca3, .ref ca4, .int 0]))] s.heap := hP
  have hl := lv_entry ([.ref h0, .int k]) (n := 4) (Nat.le_of_ble_eq_true rfl)
  rw [lg_entry_eq]
  generalize (lg_sl ([.ref h0, .int k]) ++ List.replicate (4 - (lg_sl ([.ref h0, .int k])).length) Slot.unset).toArray = ls at hl ⊢
  have hl : lv_has ls 4 [(0, .ref h0), (1, .int k)] := hl
  refine lv_aload_n hx hb dX0_nowOf_0 rfl (lv_at hl 0 rfl) ?_
  refine lv_iload_n hx hb dX0_nowOf_1 rfl (lv_at hl 1 rfl) ?_
  have hPc := hP.sub (ws' := [(h0, .inr (0, [.ref ca1, .ref ca2, .ref ca3, .ref ca4, .int 0]))]) [0] rfl
  have hDc := hD.sub (ws' := [(h0, .inr (0, [.ref ca1, .ref ca2, .ref ca3, .ref ca4, .int 0]))]) [0] (by decide) rfl
  have hFc := va_free (wc := [(h0, .inr (0, [.ref ca1, .ref ca2, .ref ca3, .ref ca4, .int 0]))]) hD hS hA [0] rfl
  refine va_calli (va_runV (As := [.int k]) (rest := []) ⟨hx, hb, hml, hown, hts⟩ (c_X0_has l D cB cI cZ s.heap.size h0 ca1 ca2 ca3 ca4 0 k) (cwV 1 hts (uV (uc18 _ (List.mem_of_getElem? (i := 23) rfl)) (uc19 _ (List.mem_of_getElem? (i := 0) rfl)) (uc19 _ (List.mem_of_getElem? (i := 1) rfl)) (uc2 _ (List.mem_of_getElem? (i := 10) rfl)) (uc19 _ (List.mem_of_getElem? (i := 2) rfl))) rfl rfl rfl (by decide +kernel) ⟨Nat.le_of_ble_eq_true rfl, Nat.le_of_ble_eq_true rfl⟩) (pV hK hPc hDc 0 rfl rfl) rfl rfl hl.1 rfl (lv_room (Nat.le_of_ble_eq_true rfl)) dX0_nowOf_2 ⟨Nat.le_of_ble_eq_true rfl, Nat.le_of_ble_eq_true rfl⟩) hS (fun q _ h => hFc q h) hFc (fun r_1 u t H_2 L_3 ht hvm hw hB hz1 hk1 hS => ?_)
  obtain ⟨hP1, -, hD1⟩ := hB
  rw [ht] at hP1
  obtain ⟨hP, hD⟩ := va_join (wr := []) (w1 := [(h0, .inr (0, [.ref ca1, .ref ca2, .ref ca3, .ref ca4, .int 0]))]) hP hD [0] [] rfl rfl (by decide) (by decide) hk1 hFc hP1 hD1
  have hP : va_P D vwCl [(h0, .inr (0, [.ref ca1, .ref ca2, .ref ca3, .ref ca4, .int 0]))] H_2 := hP.sub [0] rfl
  have hD : va_D A [(h0, .inr (0, [.ref ca1, .ref ca2, .ref ca3, .ref ca4, .int 0]))] := hD.sub [0] (by decide) rfl
  try dsimp only at hw
  rcases hw with ⟨rfl, h_4⟩ | ⟨rfl, h_5, h_6⟩
  · refine lv_if_eq (tgt := 12) hx hb dX0_nowOf_5 (by decide) (fun c_7 => ?_) (fun c_7 => ?_)
    · refine lv_iconst (v := (-1)) hx hb dX0_nowOf_12 (by decide) ?_
      refine lv_istore_n (lv' := [(2, .int (-1)), (0, .ref h0), (1, .int k)]) hx hb dX0_nowOf_13 rfl hl (by decide) rfl (fun ls hl => ?_)
      refine lv_iconst (v := 0) hx hb dX0_nowOf_14 (by decide) ?_
      refine lv_istore_n (lv' := [(3, .int 0), (2, .int (-1)), (0, .ref h0), (1, .int k)]) hx hb dX0_nowOf_15 rfl hl (by decide) rfl (fun ls hl => ?_)
      refine lv_iload_n hx hb dX0_nowOf_16 rfl (lv_at hl 0 rfl) ?_
      refine lv_bipush (v := 30) hx hb dX0_nowOf_17 (by decide) ?_
      refine lv_icmp_ge (tgt := 53) hx hb dX0_nowOf_19 (by decide) (fun c_8 => ?_) (fun c_8 => ?_)
      · exact False.elim (by revert c_8; decide)
      · refine lv_aload_n hx hb dX0_nowOf_22 rfl (lv_at hl 2 rfl) ?_
        refine lv_iload_n hx hb dX0_nowOf_23 rfl (lv_at hl 1 rfl) ?_
        have hPc := hP.sub (ws' := [(h0, .inr (0, [.ref ca1, .ref ca2, .ref ca3, .ref ca4, .int 0]))]) [0] rfl
        have hDc := hD.sub (ws' := [(h0, .inr (0, [.ref ca1, .ref ca2, .ref ca3, .ref ca4, .int 0]))]) [0] (by decide) rfl
        have hFc := va_free (wc := [(h0, .inr (0, [.ref ca1, .ref ca2, .ref ca3, .ref ca4, .int 0]))]) hD hS hA [0] rfl
        refine va_calli (va_runV (As := [.int (-1)]) (rest := []) ⟨hx, hb, hml, hown, hts⟩ (c_X0_has l D cB cI cZ H_2.size h0 ca1 ca2 ca3 ca4 0 (-1)) (cwV 1 hts (uV (uc18 _ (List.mem_of_getElem? (i := 23) rfl)) (uc19 _ (List.mem_of_getElem? (i := 0) rfl)) (uc19 _ (List.mem_of_getElem? (i := 1) rfl)) (uc2 _ (List.mem_of_getElem? (i := 10) rfl)) (uc19 _ (List.mem_of_getElem? (i := 2) rfl))) rfl rfl rfl (by decide +kernel) ⟨Nat.le_of_ble_eq_true rfl, Nat.le_of_ble_eq_true rfl⟩) (pV hK hPc hDc 0 rfl rfl) rfl rfl hl.1 rfl (lv_room (Nat.le_of_ble_eq_true rfl)) dX0_nowOf_24 ⟨Nat.le_of_ble_eq_true rfl, Nat.le_of_ble_eq_true rfl⟩) hS (fun q _ h => hFc q h) hFc (fun r_9 u t H_10 L_11 ht hvm hw hB hz1 hk1 hS => ?_)
        obtain ⟨hP1, -, hD1⟩ := hB
        rw [ht] at hP1
        obtain ⟨hP, hD⟩ := va_join (wr := []) (w1 := [(h0, .inr (0, [.ref ca1, .ref ca2, .ref ca3, .ref ca4, .int 0]))]) hP hD [0] [] rfl rfl (by decide) (by decide) hk1 hFc hP1 hD1
        have hP : va_P D vwCl [(h0, .inr (0, [.ref ca1, .ref ca2, .ref ca3, .ref ca4, .int 0]))] H_10 := hP.sub [0] rfl
        have hD : va_D A [(h0, .inr (0, [.ref ca1, .ref ca2, .ref ca3, .ref ca4, .int 0]))] := hD.sub [0] (by decide) rfl
        try dsimp only at hw
        rcases hw with ⟨rfl, h_12⟩ | ⟨rfl, h_13, h_14⟩
        · refine lv_if_eq (tgt := 53) hx hb dX0_nowOf_27 (by decide) (fun c_15 => ?_) (fun c_15 => ?_)
          · refine lv_iload_n hx hb dX0_nowOf_53 rfl (lv_at hl 1 rfl) ?_
            have hP9 := hP.sub (ws' := [(h0, .inr (0, [.ref ca1, .ref ca2, .ref ca3, .ref ca4, .int 0]))]) [0] rfl
            have hD9 := hD.sub (ws' := [(h0, .inr (0, [.ref ca1, .ref ca2, .ref ca3, .ref ca4, .int 0]))]) [0] (by decide) rfl
            exact W.iret (v := (-1)) hx hb hr (fun t ht hW => ⟨⟨(-1), (), rfl, rfl, ⟨by rw [ht]; exact hP9, va_K.moved hW.alike hK, hD9⟩⟩, hS.F ht⟩) hS.2.2 dX0_nowOf_54
          · exact False.elim (by revert c_15; decide)
        · exact False.elim (by exact pE1 h_13 h_14)
    · exact False.elim (by revert c_7; decide)
  · exact False.elim (by exact pE1 h_5 h_6)
