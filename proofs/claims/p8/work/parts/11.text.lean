set_option maxHeartbeats 4000000 in
set_option maxRecDepth 100000 in
theorem s_X5_init_600 (l : Launch) (D : va_G) (cB cI cZ : ClassId) (E : pEt) (sz : Nat) (h0 : Nat) : Met l yX5_init (.code yX5_init cX5_init 2 none :: wsL_law) ({ frames := 1, cells := 1, slots := 600, locals := 14 } : Room) (va_Pc [.ref h0, .int 600] (pInE E D (pT cB cI cZ) sz [(h0, .inr (5, [.null, .int 0]))])) (va_Qv (fun (u : Nat) => True) (fun (u : Nat) (t : State) => pAt D (pT cB cI cZ) (va_A [(h0, .inr (5, [.null, .int 0]))] sz) [(h0, .inr (5, [.ref u, .int 0])), (u, .inl (cB, 600, .inl (fun _ => 0)))] t) (va_A [(h0, .inr (5, [.null, .int 0]))] sz)) 1 600 (va_A [(h0, .inr (5, [.null, .int 0]))] sz) := by
  refine Met.ofW (cc := cX5_init) (maxL := 2) (ret := none) (by decide) rfl ?_
  intro p e s m args below meth cd s₁ B hml hv
  obtain ⟨rfl, hsz, hP, hK, hD0, hE⟩ := hv
  have hx := B.exec
  have hb := B.bytes
  have hr := B.returns
  have hts0 := atoms_spec (ws := .code yX5_init cX5_init 2 none :: wsL_law) B.pre
  have hts := fun (w : Cond) (h : w ∈ wsL_law) => hts0 w (List.mem_cons_of_mem _ h)
  have hown : s.vm.findClass RX5 = some m.cls := findClass_of_methodNamed B.named
  have hlocks := B.notSynchronized
  have hin : meth.name = "<init>" := (name_of_methodNamed B.named B.method).1
  have hinX5 := inlX5
  subst hsz
  have hD := hD0.self (sz := s.heap.size)
  generalize hAe : va_A [(h0, .inr (5, [.null, .int 0]))] s.heap.size = A at hD hE ⊢
  have hA : ∀ q : Nat, s.heap.size ≤ q → A q := fun q h => by rw [← hAe]; exact Or.inr h
  have hS : va_S A s.heap s.heap [] := va_S.rf
  have hP : va_P D vwCl [(h0, .inr (5, [.null, .int 0]))] s.heap := hP
  have hl := lv_entry ([.ref h0, .int 600]) (n := 2) (Nat.le_of_ble_eq_true rfl)
  rw [lg_entry_eq]
  generalize (lg_sl ([.ref h0, .int 600]) ++ List.replicate (2 - (lg_sl ([.ref h0, .int 600])).length) Slot.unset).toArray = ls at hl ⊢
  have hl : lv_has ls 2 [(0, .ref h0), (1, .int 600)] := hl
  refine lv_aload_n hx hb dX5_init_0 rfl (lv_at hl 0 rfl) ?_
  refine W.objInit hx hb hown (hts (.methodLink RX5 3 objectInit) (uc2 _ (List.mem_of_getElem? (i := 23) rfl))) (hts (.instanceMethod objectInit) (uc1 _ (List.mem_of_getElem? (i := 10) rfl))) (hts (.code objectInit ⟨#[0xb1]⟩ 1 none) (uc1 _ (List.mem_of_getElem? (i := 11) rfl))) rfl (by rw [hml]; exact hl.1) rfl dX5_init_1 (Nat.le_of_ble_eq_true rfl) (Nat.le_of_ble_eq_true rfl) ?_
  refine W.eq (g2 := F0 m 4 ls []) rfl ?_
  refine lv_aload_n hx hb dX5_init_4 rfl (lv_at hl 0 rfl) ?_
  refine lv_iload_n hx hb dX5_init_5 rfl (lv_at hl 1 rfl) ?_
  refine lv_iconst (v := 0) hx hb dX5_init_6 (by decide) ?_
  refine va_mmax hx hb (by rw [hml]; exact hl.1.symm) hown (hts (.methodLink RX5 9 Lib.Math.max.name) (uc3 _ (List.mem_of_getElem? (i := 0) rfl))) (hts (.static Lib.Math.max.name) (uc3 _ (List.mem_of_getElem? (i := 1) rfl))) (hts (.initialized "java/lang/Math") (uc3 _ (List.mem_of_getElem? (i := 2) rfl))) (hts (.code Lib.Math.max.name Lib.Math.max.code 2 (some .int)) (uc3 _ (List.mem_of_getElem? (i := 3) rfl))) (Nat.le_of_ble_eq_true rfl) (Nat.le_of_ble_eq_true rfl) (Nat.le_of_ble_eq_true rfl) (Nat.le_of_ble_eq_true rfl) dX5_init_7 ?_
  refine lv_topi (fun z_1 ez_1 => ?_)
  obtain rfl : z_1 = 600 := ez_1.trans (by decide)
  refine pNewa (D := D) (cl := vwCl) (ty := .byte) (N' := 600) (a0 := (600, .inl (fun _ => 0))) (cA := cB) hx hb (hts (.arrayClass .byte) (uc3 _ (List.mem_of_getElem? (i := 4) rfl))) rfl hK hP hD hS hA (fun _ => rfl) (by decide) (by decide) (by decide) (Nat.le_of_ble_eq_true rfl) (Nat.le_of_ble_eq_true rfl) dX5_init_10 0 rfl (fun q_2 H_3 hP hD hS => ?_)
  have hP : va_P D vwCl [(h0, .inr (5, [.null, .int 0])), (q_2, .inl (cB, 600, .inl (fun _ => 0)))] H_3 := hP
  have hD : va_D A [(h0, .inr (5, [.null, .int 0])), (q_2, .inl (cB, 600, .inl (fun _ => 0)))] := hD
  refine W.widen (k := 1) (n := 600) (by decide) (by decide) ?_
  refine va_putF (D := D) (ci := 5) (v := .ref q_2) (ty := (.array .byte)) (C := RX5) (T := TX5) (N := 2) hx hb hts hinX5 tyX5 tyX5_ok nmX5 hown hK hP hD hS 0 rfl rfl 0 (by decide) (hts (.fieldLink RX5 15 "TaleReader$Text" "signs" "[B") (uc3 _ (List.mem_of_getElem? (i := 5) rfl))) (fun _ h9 => h9) rfl hin rfl (by decide +kernel) rfl rfl (Nat.le_of_ble_eq_true rfl) dX5_init_12 (fun H_4 L_5 hP hD hS => ?_)
  have hP : va_P D vwCl [(h0, .inr (5, [.ref q_2, .int 0])), (q_2, .inl (cB, 600, .inl (fun _ => 0)))] H_4 := hP
  have hD : va_D A [(h0, .inr (5, [.ref q_2, .int 0])), (q_2, .inl (cB, 600, .inl (fun _ => 0)))] := hD
  refine lv_aload_n hx hb dX5_init_15 rfl (lv_at hl 0 rfl) ?_
  refine lv_iconst (v := 0) hx hb dX5_init_16 (by decide) ?_
  refine va_put (D := D) (ci := 5) (v := .int 0) (ty := .int) (C := RX5) (T := TX5) (N := 2) hx hb hts hinX5 tyX5 tyX5_ok nmX5 hown hK hP hD hS 0 rfl rfl 1 (by decide) (hts (.fieldLink RX5 21 "TaleReader$Text" "size" "I") (uc3 _ (List.mem_of_getElem? (i := 6) rfl))) (fun _ h9 => h9) rfl (by decide +kernel) rfl rfl (Nat.le_of_ble_eq_true rfl) dX5_init_17 (fun H_6 L_7 hP hD hS => ?_)
  have hP : va_P D vwCl [(h0, .inr (5, [.ref q_2, .int 0])), (q_2, .inl (cB, 600, .inl (fun _ => 0)))] H_6 := hP
  have hD : va_D A [(h0, .inr (5, [.ref q_2, .int 0])), (q_2, .inl (cB, 600, .inl (fun _ => 0)))] := hD
  have hP9 := hP.sub (ws' := [(h0, .inr (5, [.ref q_2, .int 0])), (q_2, .inl (cB, 600, .inl (fun _ => 0)))]) [0, 1] rfl
  have hD9 := hD.sub (ws' := [(h0, .inr (5, [.ref q_2, .int 0])), (q_2, .inl (cB, 600, .inl (fun _ => 0)))]) [0, 1] (by decide) rfl
  exact W.vret hx hb hr (fun t ht hW => ⟨⟨q_2, rfl, trivial, ⟨by rw [ht]; exact hP9, va_K.moved hW.alike hK, hD9⟩⟩, hS.F ht⟩) hS.2.2 dX5_init_20
set_option maxHeartbeats 4000000 in
set_option maxRecDepth 100000 in
theorem s_X5_init_80 (l : Launch) (D : va_G) (cB cI cZ : ClassId) (E : pEt) (sz : Nat) (h0 : Nat) : Met l yX5_init (.code yX5_init cX5_init 2 none :: wsL_law) ({ frames := 1, cells := 1, slots := 80, locals := 14 } : Room) (va_Pc [.ref h0, .int 80] (pInE E D (pT cB cI cZ) sz [(h0, .inr (5, [.null, .int 0]))])) (va_Qv (fun (u : Nat) => True) (fun (u : Nat) (t : State) => pAt D (pT cB cI cZ) (va_A [(h0, .inr (5, [.null, .int 0]))] sz) [(h0, .inr (5, [.ref u, .int 0])), (u, .inl (cB, 80, .inl (fun _ => 0)))] t) (va_A [(h0, .inr (5, [.null, .int 0]))] sz)) 1 80 (va_A [(h0, .inr (5, [.null, .int 0]))] sz) := by
  refine Met.ofW (cc := cX5_init) (maxL := 2) (ret := none) (by decide) rfl ?_
  intro p e s m args below meth cd s₁ B hml hv
  obtain ⟨rfl, hsz, hP, hK, hD0, hE⟩ := hv
  have hx := B.exec
  have hb := B.bytes
  have hr := B.returns
  have hts0 := atoms_spec (ws := .code yX5_init cX5_init 2 none :: wsL_law) B.pre
  have hts := fun (w : Cond) (h : w ∈ wsL_law) => hts0 w (List.mem_cons_of_mem _ h)
  have hown : s.vm.findClass RX5 = some m.cls := findClass_of_methodNamed B.named
  have hlocks := B.notSynchronized
  have hin : meth.name = "<init>" := (name_of_methodNamed B.named B.method).1
  have hinX5 := inlX5
  subst hsz
  have hD := hD0.self (sz := s.heap.size)
  generalize hAe : va_A [(h0, .inr (5, [.null, .int 0]))] s.heap.size = A at hD hE ⊢
  have hA : ∀ q : Nat, s.heap.size ≤ q → A q := fun q h => by rw [← hAe]; exact Or.inr h
  have hS : va_S A s.heap s.heap [] := va_S.rf
  have hP : va_P D vwCl [(h0, .inr (5, [.null, .int 0]))] s.heap := hP
  have hl := lv_entry ([.ref h0, .int 80]) (n := 2) (Nat.le_of_ble_eq_true rfl)
  rw [lg_entry_eq]
  generalize (lg_sl ([.ref h0, .int 80]) ++ List.replicate (2 - (lg_sl ([.ref h0, .int 80])).length) Slot.unset).toArray = ls at hl ⊢
  have hl : lv_has ls 2 [(0, .ref h0), (1, .int 80)] := hl
  refine lv_aload_n hx hb dX5_init_0 rfl (lv_at hl 0 rfl) ?_
  refine W.objInit hx hb hown (hts (.methodLink RX5 3 objectInit) (uc2 _ (List.mem_of_getElem? (i := 23) rfl))) (hts (.instanceMethod objectInit) (uc1 _ (List.mem_of_getElem? (i := 10) rfl))) (hts (.code objectInit ⟨#[0xb1]⟩ 1 none) (uc1 _ (List.mem_of_getElem? (i := 11) rfl))) rfl (by rw [hml]; exact hl.1) rfl dX5_init_1 (Nat.le_of_ble_eq_true rfl) (Nat.le_of_ble_eq_true rfl) ?_
  refine W.eq (g2 := F0 m 4 ls []) rfl ?_
  refine lv_aload_n hx hb dX5_init_4 rfl (lv_at hl 0 rfl) ?_
  refine lv_iload_n hx hb dX5_init_5 rfl (lv_at hl 1 rfl) ?_
  refine lv_iconst (v := 0) hx hb dX5_init_6 (by decide) ?_
  refine va_mmax hx hb (by rw [hml]; exact hl.1.symm) hown (hts (.methodLink RX5 9 Lib.Math.max.name) (uc3 _ (List.mem_of_getElem? (i := 0) rfl))) (hts (.static Lib.Math.max.name) (uc3 _ (List.mem_of_getElem? (i := 1) rfl))) (hts (.initialized "java/lang/Math") (uc3 _ (List.mem_of_getElem? (i := 2) rfl))) (hts (.code Lib.Math.max.name Lib.Math.max.code 2 (some .int)) (uc3 _ (List.mem_of_getElem? (i := 3) rfl))) (Nat.le_of_ble_eq_true rfl) (Nat.le_of_ble_eq_true rfl) (Nat.le_of_ble_eq_true rfl) (Nat.le_of_ble_eq_true rfl) dX5_init_7 ?_
  refine lv_topi (fun z_1 ez_1 => ?_)
  obtain rfl : z_1 = 80 := ez_1.trans (by decide)
  refine pNewa (D := D) (cl := vwCl) (ty := .byte) (N' := 80) (a0 := (80, .inl (fun _ => 0))) (cA := cB) hx hb (hts (.arrayClass .byte) (uc3 _ (List.mem_of_getElem? (i := 4) rfl))) rfl hK hP hD hS hA (fun _ => rfl) (by decide) (by decide) (by decide) (Nat.le_of_ble_eq_true rfl) (Nat.le_of_ble_eq_true rfl) dX5_init_10 0 rfl (fun q_2 H_3 hP hD hS => ?_)
  have hP : va_P D vwCl [(h0, .inr (5, [.null, .int 0])), (q_2, .inl (cB, 80, .inl (fun _ => 0)))] H_3 := hP
  have hD : va_D A [(h0, .inr (5, [.null, .int 0])), (q_2, .inl (cB, 80, .inl (fun _ => 0)))] := hD
  refine W.widen (k := 1) (n := 80) (by decide) (by decide) ?_
  refine va_putF (D := D) (ci := 5) (v := .ref q_2) (ty := (.array .byte)) (C := RX5) (T := TX5) (N := 2) hx hb hts hinX5 tyX5 tyX5_ok nmX5 hown hK hP hD hS 0 rfl rfl 0 (by decide) (hts (.fieldLink RX5 15 "TaleReader$Text" "signs" "[B") (uc3 _ (List.mem_of_getElem? (i := 5) rfl))) (fun _ h9 => h9) rfl hin rfl (by decide +kernel) rfl rfl (Nat.le_of_ble_eq_true rfl) dX5_init_12 (fun H_4 L_5 hP hD hS => ?_)
  have hP : va_P D vwCl [(h0, .inr (5, [.ref q_2, .int 0])), (q_2, .inl (cB, 80, .inl (fun _ => 0)))] H_4 := hP
  have hD : va_D A [(h0, .inr (5, [.ref q_2, .int 0])), (q_2, .inl (cB, 80, .inl (fun _ => 0)))] := hD
  refine lv_aload_n hx hb dX5_init_15 rfl (lv_at hl 0 rfl) ?_
  refine lv_iconst (v := 0) hx hb dX5_init_16 (by decide) ?_
  refine va_put (D := D) (ci := 5) (v := .int 0) (ty := .int) (C := RX5) (T := TX5) (N := 2) hx hb hts hinX5 tyX5 tyX5_ok nmX5 hown hK hP hD hS 0 rfl rfl 1 (by decide) (hts (.fieldLink RX5 21 "TaleReader$Text" "size" "I") (uc3 _ (List.mem_of_getElem? (i := 6) rfl))) (fun _ h9 => h9) rfl (by decide +kernel) rfl rfl (Nat.le_of_ble_eq_true rfl) dX5_init_17 (fun H_6 L_7 hP hD hS => ?_)
  have hP : va_P D vwCl [(h0, .inr (5, [.ref q_2, .int 0])), (q_2, .inl (cB, 80, .inl (fun _ => 0)))] H_6 := hP
  have hD : va_D A [(h0, .inr (5, [.ref q_2, .int 0])), (q_2, .inl (cB, 80, .inl (fun _ => 0)))] := hD
  have hP9 := hP.sub (ws' := [(h0, .inr (5, [.ref q_2, .int 0])), (q_2, .inl (cB, 80, .inl (fun _ => 0)))]) [0, 1] rfl
  have hD9 := hD.sub (ws' := [(h0, .inr (5, [.ref q_2, .int 0])), (q_2, .inl (cB, 80, .inl (fun _ => 0)))]) [0, 1] (by decide) rfl
  exact W.vret hx hb hr (fun t ht hW => ⟨⟨q_2, rfl, trivial, ⟨by rw [ht]; exact hP9, va_K.moved hW.alike hK, hD9⟩⟩, hS.F ht⟩) hS.2.2 dX5_init_20
set_option maxHeartbeats 4000000 in
set_option maxRecDepth 100000 in
theorem s_X5_size (l : Launch) (D : va_G) (cB cI cZ : ClassId) (E : pEt) (sz : Nat) (h0 : Nat) (a : Nat) (v : Int32) : Met l yX5_size (.code yX5_size cX5_size 1 (some .int) :: wsL_law) ({ frames := 0, cells := 0, slots := 0, locals := 0 } : Room) (va_Pc [.ref h0] (pInE E D (pT cB cI cZ) sz [(h0, .inr (5, [.ref a, .int v]))])) (va_Qi (fun (r : Int32) (u : Unit) => v = r) (fun (u : Unit) (t : State) => pAt D (pT cB cI cZ) (va_A [(h0, .inr (5, [.ref a, .int v]))] sz) [(h0, .inr (5, [.ref a, .int v]))] t) (va_A [(h0, .inr (5, [.ref a, .int v]))] sz)) 0 0 (va_A [(h0, .inr (5, [.ref a, .int v]))] sz) := by
  refine Met.ofW (cc := cX5_size) (maxL := 1) (ret := (some .int)) (by decide) rfl ?_
  intro p e s m args below meth cd s₁ B hml hv
  obtain ⟨rfl, hsz, hP, hK, hD0, hE⟩ := hv
  have hx := B.exec
  have hb := B.bytes
  have hr := B.returns
  have hts0 := atoms_spec (ws := .code yX5_size cX5_size 1 (some .int) :: wsL_law) B.pre
  have hts := fun (w : Cond) (h : w ∈ wsL_law) => hts0 w (List.mem_cons_of_mem _ h)
  have hown : s.vm.findClass RX5 = some m.cls := findClass_of_methodNamed B.named
  have hlocks := B.notSynchronized
  have hinX5 := inlX5
  subst hsz
  have hD := hD0.self (sz := s.heap.size)
  generalize hAe : va_A [(h0, .inr (5, [.ref a, .int v]))] s.heap.size = A at hD hE ⊢
  have hA : ∀ q : Nat, s.heap.size ≤ q → A q := fun q h => by rw [← hAe]; exact Or.inr h
  have hS : va_S A s.heap s.heap [] := va_S.rf
  have hP : va_P D vwCl [(h0, .inr (5, [.ref a, .int v]))] s.heap := hP
  have hl := lv_entry ([.ref h0]) (n := 1) (Nat.le_of_ble_eq_true rfl)
  rw [lg_entry_eq]
  generalize (lg_sl ([.ref h0]) ++ List.replicate (1 - (lg_sl ([.ref h0])).length) Slot.unset).toArray = ls at hl ⊢
  have hl : lv_has ls 1 [(0, .ref h0)] := hl
  refine lv_aload_n hx hb dX5_size_0 rfl (lv_at hl 0 rfl) ?_
  refine va_get (D := D) (ci := 5) (v := .int v) (C := RX5) (T := TX5) (N := 2) hx hb hts hinX5 hown hK hP 0 rfl rfl 1 (by decide) (hts (.fieldLink RX5 21 "TaleReader$Text" "size" "I") (uc3 _ (List.mem_of_getElem? (i := 6) rfl))) (fun _ h9 => h9) rfl dX5_size_1 ?_
  have hP9 := hP.sub (ws' := [(h0, .inr (5, [.ref a, .int v]))]) [0] rfl
  have hD9 := hD.sub (ws' := [(h0, .inr (5, [.ref a, .int v]))]) [0] (by decide) rfl
  exact W.iret (v := v) hx hb hr (fun t ht hW => ⟨⟨v, (), rfl, rfl, ⟨by rw [ht]; exact hP9, va_K.moved hW.alike hK, hD9⟩⟩, hS.F ht⟩) hS.2.2 dX5_size_4
set_option maxHeartbeats 4000000 in
set_option maxRecDepth 100000 in
theorem s_X5_clear (l : Launch) (D : va_G) (cB cI cZ : ClassId) (E : pEt) (sz : Nat) (h0 : Nat) (a : Nat) (v : Int32) : Met l yX5_clear (.code yX5_clear cX5_clear 1 none :: wsL_law) ({ frames := 0, cells := 0, slots := 0, locals := 0 } : Room) (va_Pc [.ref h0] (pInE E D (pT cB cI cZ) sz [(h0, .inr (5, [.ref a, .int v]))])) (va_Qv (fun (u : Unit) => True) (fun (u : Unit) (t : State) => pAt D (pT cB cI cZ) (va_A [(h0, .inr (5, [.ref a, .int v]))] sz) [(h0, .inr (5, [.ref a, .int 0]))] t) (va_A [(h0, .inr (5, [.ref a, .int v]))] sz)) 0 0 (va_A [(h0, .inr (5, [.ref a, .int v]))] sz) := by
  refine Met.ofW (cc := cX5_clear) (maxL := 1) (ret := none) (by decide) rfl ?_
  intro p e s m args below meth cd s₁ B hml hv
  obtain ⟨rfl, hsz, hP, hK, hD0, hE⟩ := hv
  have hx := B.exec
  have hb := B.bytes
  have hr := B.returns
  have hts0 := atoms_spec (ws := .code yX5_clear cX5_clear 1 none :: wsL_law) B.pre
  have hts := fun (w : Cond) (h : w ∈ wsL_law) => hts0 w (List.mem_cons_of_mem _ h)
  have hown : s.vm.findClass RX5 = some m.cls := findClass_of_methodNamed B.named
  have hlocks := B.notSynchronized
  have hinX5 := inlX5
  subst hsz
  have hD := hD0.self (sz := s.heap.size)
  generalize hAe : va_A [(h0, .inr (5, [.ref a, .int v]))] s.heap.size = A at hD hE ⊢
  have hA : ∀ q : Nat, s.heap.size ≤ q → A q := fun q h => by rw [← hAe]; exact Or.inr h
  have hS : va_S A s.heap s.heap [] := va_S.rf
  have hP : va_P D vwCl [(h0, .inr (5, [.ref a, .int v]))] s.heap := hP
  have hl := lv_entry ([.ref h0]) (n := 1) (Nat.le_of_ble_eq_true rfl)
  rw [lg_entry_eq]
  generalize (lg_sl ([.ref h0]) ++ List.replicate (1 - (lg_sl ([.ref h0])).length) Slot.unset).toArray = ls at hl ⊢
  have hl : lv_has ls 1 [(0, .ref h0)] := hl
  refine lv_aload_n hx hb dX5_clear_0 rfl (lv_at hl 0 rfl) ?_
  refine lv_iconst (v := 0) hx hb dX5_clear_1 (by decide) ?_
  refine va_put (D := D) (ci := 5) (v := .int 0) (ty := .int) (C := RX5) (T := TX5) (N := 2) hx hb hts hinX5 tyX5 tyX5_ok nmX5 hown hK hP hD hS 0 rfl rfl 1 (by decide) (hts (.fieldLink RX5 21 "TaleReader$Text" "size" "I") (uc3 _ (List.mem_of_getElem? (i := 6) rfl))) (fun _ h9 => h9) rfl (by decide +kernel) rfl rfl (Nat.le_of_ble_eq_true rfl) dX5_clear_2 (fun H_1 L_2 hP hD hS => ?_)
  have hP : va_P D vwCl [(h0, .inr (5, [.ref a, .int 0]))] H_1 := hP
  have hD : va_D A [(h0, .inr (5, [.ref a, .int 0]))] := hD
  have hP9 := hP.sub (ws' := [(h0, .inr (5, [.ref a, .int 0]))]) [0] rfl
  have hD9 := hD.sub (ws' := [(h0, .inr (5, [.ref a, .int 0]))]) [0] (by decide) rfl
  exact W.vret hx hb hr (fun t ht hW => ⟨⟨(), rfl, trivial, ⟨by rw [ht]; exact hP9, va_K.moved hW.alike hK, hD9⟩⟩, hS.F ht⟩) hS.2.2 dX5_clear_5
set_option maxHeartbeats 4000000 in
set_option maxRecDepth 100000 in
theorem s_X5_shorten (l : Launch) (D : va_G) (cB cI cZ : ClassId) (E : pEt) (sz : Nat) (h0 : Nat) (a : Nat) (v : Int32) (k : Int32) : Met l yX5_shorten (.code yX5_shorten cX5_shorten 2 (some .boolean) :: wsL_law) ({ frames := 0, cells := 0, slots := 0, locals := 0 } : Room) (va_Pc [.ref h0, .int k] (pInE E D (pT cB cI cZ) sz [(h0, .inr (5, [.ref a, .int v]))])) (va_Qi (fun (r : Int32) (u : Int32) => ((0 = r) ∧ (v = u) ∧ (k < 0 ∨ ¬ k ≤ v)) ∨ ((1 = r) ∧ (k = u) ∧ (¬ k < 0) ∧ (k ≤ v))) (fun (u : Int32) (t : State) => pAt D (pT cB cI cZ) (va_A [(h0, .inr (5, [.ref a, .int v]))] sz) [(h0, .inr (5, [.ref a, .int u]))] t) (va_A [(h0, .inr (5, [.ref a, .int v]))] sz)) 0 0 (va_A [(h0, .inr (5, [.ref a, .int v]))] sz) := by
  refine Met.ofW (cc := cX5_shorten) (maxL := 2) (ret := (some .boolean)) (by decide) rfl ?_
  intro p e s m args below meth cd s₁ B hml hv
  obtain ⟨rfl, hsz, hP, hK, hD0, hE⟩ := hv
  have hx := B.exec
  have hb := B.bytes
  have hr := B.returns
  have hts0 := atoms_spec (ws := .code yX5_shorten cX5_shorten 2 (some .boolean) :: wsL_law) B.pre
  have hts := fun (w : Cond) (h : w ∈ wsL_law) => hts0 w (List.mem_cons_of_mem _ h)
  have hown : s.vm.findClass RX5 = some m.cls := findClass_of_methodNamed B.named
  have hlocks := B.notSynchronized
  have hinX5 := inlX5
  subst hsz
  have hD := hD0.self (sz := s.heap.size)
  generalize hAe : va_A [(h0, .inr (5, [.ref a, .int v]))] s.heap.size = A at hD hE ⊢
  have hA : ∀ q : Nat, s.heap.size ≤ q → A q := fun q h => by rw [← hAe]; exact Or.inr h
  have hS : va_S A s.heap s.heap [] := va_S.rf
  have hP : va_P D vwCl [(h0, .inr (5, [.ref a, .int v]))] s.heap := hP
  have hl := lv_entry ([.ref h0, .int k]) (n := 2) (Nat.le_of_ble_eq_true rfl)
  rw [lg_entry_eq]
  generalize (lg_sl ([.ref h0, .int k]) ++ List.replicate (2 - (lg_sl ([.ref h0, .int k])).length) Slot.unset).toArray = ls at hl ⊢
  have hl : lv_has ls 2 [(0, .ref h0), (1, .int k)] := hl
  refine lv_iload_n hx hb dX5_shorten_0 rfl (lv_at hl 1 rfl) ?_
  refine lv_if_lt (tgt := 12) hx hb dX5_shorten_1 (by decide) (fun c_1 => ?_) (fun c_1 => ?_)
  · refine lv_iconst (v := 0) hx hb dX5_shorten_12 (by decide) ?_
    have hP9 := hP.sub (ws' := [(h0, .inr (5, [.ref a, .int v]))]) [0] rfl
    have hD9 := hD.sub (ws' := [(h0, .inr (5, [.ref a, .int v]))]) [0] (by decide) rfl
    exact W.zret (v := 0) hx hb hr (rfl) (fun t ht hW => ⟨⟨0, v, rfl, Or.inl (⟨rfl, rfl, Or.inl c_1⟩), ⟨by rw [ht]; exact hP9, va_K.moved hW.alike hK, hD9⟩⟩, hS.F ht⟩) hS.2.2 dX5_shorten_13
  · refine lv_iload_n hx hb dX5_shorten_4 rfl (lv_at hl 1 rfl) ?_
    refine lv_aload_n hx hb dX5_shorten_5 rfl (lv_at hl 0 rfl) ?_
    refine va_get (D := D) (ci := 5) (v := .int v) (C := RX5) (T := TX5) (N := 2) hx hb hts hinX5 hown hK hP 0 rfl rfl 1 (by decide) (hts (.fieldLink RX5 21 "TaleReader$Text" "size" "I") (uc3 _ (List.mem_of_getElem? (i := 6) rfl))) (fun _ h9 => h9) rfl dX5_shorten_6 ?_
    refine lv_icmp_le (tgt := 14) hx hb dX5_shorten_9 (by decide) (fun c_2 => ?_) (fun c_2 => ?_)
    · refine lv_aload_n hx hb dX5_shorten_14 rfl (lv_at hl 0 rfl) ?_
      refine lv_iload_n hx hb dX5_shorten_15 rfl (lv_at hl 1 rfl) ?_
      refine va_put (D := D) (ci := 5) (v := .int k) (ty := .int) (C := RX5) (T := TX5) (N := 2) hx hb hts hinX5 tyX5 tyX5_ok nmX5 hown hK hP hD hS 0 rfl rfl 1 (by decide) (hts (.fieldLink RX5 21 "TaleReader$Text" "size" "I") (uc3 _ (List.mem_of_getElem? (i := 6) rfl))) (fun _ h9 => h9) rfl (by decide +kernel) rfl rfl (Nat.le_of_ble_eq_true rfl) dX5_shorten_16 (fun H_3 L_4 hP hD hS => ?_)
      have hP : va_P D vwCl [(h0, .inr (5, [.ref a, .int k]))] H_3 := hP
      have hD : va_D A [(h0, .inr (5, [.ref a, .int k]))] := hD
      refine lv_iconst (v := 1) hx hb dX5_shorten_19 (by decide) ?_
      have hP9 := hP.sub (ws' := [(h0, .inr (5, [.ref a, .int k]))]) [0] rfl
      have hD9 := hD.sub (ws' := [(h0, .inr (5, [.ref a, .int k]))]) [0] (by decide) rfl
      exact W.zret (v := 1) hx hb hr (rfl) (fun t ht hW => ⟨⟨1, k, rfl, Or.inr ((⟨rfl, by first | assumption | rfl | omega, by first | assumption | rfl | omega, by first | assumption | rfl | omega⟩)), ⟨by rw [ht]; exact hP9, va_K.moved hW.alike hK, hD9⟩⟩, hS.F ht⟩) hS.2.2 dX5_shorten_20
    · refine lv_iconst (v := 0) hx hb dX5_shorten_12 (by decide) ?_
      have hP9 := hP.sub (ws' := [(h0, .inr (5, [.ref a, .int v]))]) [0] rfl
      have hD9 := hD.sub (ws' := [(h0, .inr (5, [.ref a, .int v]))]) [0] (by decide) rfl
      exact W.zret (v := 0) hx hb hr (rfl) (fun t ht hW => ⟨⟨0, v, rfl, Or.inl (⟨rfl, rfl, Or.inr c_2⟩), ⟨by rw [ht]; exact hP9, va_K.moved hW.alike hK, hD9⟩⟩, hS.F ht⟩) hS.2.2 dX5_shorten_13
set_option maxHeartbeats 4000000 in
set_option maxRecDepth 100000 in
theorem s_X5_addSign (l : Launch) (D : va_G) (cB cI cZ : ClassId) (E : pEt) (sz : Nat) (h0 : Nat) (a : Nat) (n : Nat) (k : Nat) (f : Nat → Int32) (x : Int32) (hk : k ≤ n) (hn : n ≤ 600) : Met l yX5_addSign (.code yX5_addSign cX5_addSign 2 none :: wsL_law) ({ frames := 0, cells := 0, slots := 0, locals := 0 } : Room) (va_Pc [.ref h0, .int x] (pInE E D (pT cB cI cZ) sz [(h0, .inr (5, [.ref a, .int (nI k)])), (a, .inl (cB, n, .inl f))])) (va_Qv (fun (u : Nat × (Nat → Int32)) => ((k < n) ∧ (k + 1 = u.1) ∧ (upd f k x.toInt8.toInt32 = u.2)) ∨ ((¬ k < n) ∧ (k = u.1) ∧ (f = u.2))) (fun (u : Nat × (Nat → Int32)) (t : State) => pAt D (pT cB cI cZ) (va_A [(h0, .inr (5, [.ref a, .int (nI k)])), (a, .inl (cB, n, .inl f))] sz) [(h0, .inr (5, [.ref a, .int (nI u.1)])), (a, .inl (cB, n, .inl u.2))] t) (va_A [(h0, .inr (5, [.ref a, .int (nI k)])), (a, .inl (cB, n, .inl f))] sz)) 0 0 (va_A [(h0, .inr (5, [.ref a, .int (nI k)])), (a, .inl (cB, n, .inl f))] sz) := by
  refine Met.ofW (cc := cX5_addSign) (maxL := 2) (ret := none) (by decide) rfl ?_
  intro p e s m args below meth cd s₁ B hml hv
  obtain ⟨rfl, hsz, hP, hK, hD0, hE⟩ := hv
  have hx := B.exec
  have hb := B.bytes
  have hr := B.returns
  have hts0 := atoms_spec (ws := .code yX5_addSign cX5_addSign 2 none :: wsL_law) B.pre
  have hts := fun (w : Cond) (h : w ∈ wsL_law) => hts0 w (List.mem_cons_of_mem _ h)
  have hown : s.vm.findClass RX5 = some m.cls := findClass_of_methodNamed B.named
  have hlocks := B.notSynchronized
  have hinX5 := inlX5
  subst hsz
  have hD := hD0.self (sz := s.heap.size)
  generalize hAe : va_A [(h0, .inr (5, [.ref a, .int (nI k)])), (a, .inl (cB, n, .inl f))] s.heap.size = A at hD hE ⊢
  have hA : ∀ q : Nat, s.heap.size ≤ q → A q := fun q h => by rw [← hAe]; exact Or.inr h
  have hS : va_S A s.heap s.heap [] := va_S.rf
  have hP : va_P D vwCl [(h0, .inr (5, [.ref a, .int (nI k)])), (a, .inl (cB, n, .inl f))] s.heap := hP
  have hl := lv_entry ([.ref h0, .int x]) (n := 2) (Nat.le_of_ble_eq_true rfl)
  rw [lg_entry_eq]
  generalize (lg_sl ([.ref h0, .int x]) ++ List.replicate (2 - (lg_sl ([.ref h0, .int x])).length) Slot.unset).toArray = ls at hl ⊢
  have hl : lv_has ls 2 [(0, .ref h0), (1, .int x)] := hl
  refine lv_aload_n hx hb dX5_addSign_0 rfl (lv_at hl 0 rfl) ?_
  refine va_get (D := D) (ci := 5) (v := .int (nI k)) (C := RX5) (T := TX5) (N := 2) hx hb hts hinX5 hown hK hP 0 rfl rfl 1 (by decide) (hts (.fieldLink RX5 21 "TaleReader$Text" "size" "I") (uc3 _ (List.mem_of_getElem? (i := 6) rfl))) (fun _ h9 => h9) rfl dX5_addSign_1 ?_
  refine lv_aload_n hx hb dX5_addSign_4 rfl (lv_at hl 0 rfl) ?_
  refine va_get (D := D) (ci := 5) (v := .ref a) (C := RX5) (T := TX5) (N := 2) hx hb hts hinX5 hown hK hP 0 rfl rfl 0 (by decide) (hts (.fieldLink RX5 15 "TaleReader$Text" "signs" "[B") (uc3 _ (List.mem_of_getElem? (i := 5) rfl))) (fun _ h9 => h9) rfl dX5_addSign_5 ?_
  refine va_alen (D := D) (v := nI n) hx hb hK hP 1 0 rfl rfl rfl dX5_addSign_8 ?_
  refine lv_icmp_ge (tgt := 33) hx hb dX5_addSign_9 (by decide) (fun c_1 => ?_) (fun c_1 => ?_)
  · have hkn := (nI_leI (by omega) (by omega)).mp c_1
    have hP9 := hP.sub (ws' := [(h0, .inr (5, [.ref a, .int (nI k)])), (a, .inl (cB, n, .inl f))]) [0, 1] rfl
    have hD9 := hD.sub (ws' := [(h0, .inr (5, [.ref a, .int (nI k)])), (a, .inl (cB, n, .inl f))]) [0, 1] (by decide) rfl
    exact W.vret hx hb hr (fun t ht hW => ⟨⟨(k, f), rfl, Or.inr ((⟨by omega, rfl, rfl⟩)), ⟨by rw [ht]; exact hP9, va_K.moved hW.alike hK, hD9⟩⟩, hS.F ht⟩) hS.2.2 dX5_addSign_33
  · have hkn : k < n := Nat.lt_of_not_le (fun q => c_1 (nI_le q (by omega)))
    refine lv_aload_n hx hb dX5_addSign_12 rfl (lv_at hl 0 rfl) ?_
    refine va_get (D := D) (ci := 5) (v := .ref a) (C := RX5) (T := TX5) (N := 2) hx hb hts hinX5 hown hK hP 0 rfl rfl 0 (by decide) (hts (.fieldLink RX5 15 "TaleReader$Text" "signs" "[B") (uc3 _ (List.mem_of_getElem? (i := 5) rfl))) (fun _ h9 => h9) rfl dX5_addSign_13 ?_
    refine lv_aload_n hx hb dX5_addSign_16 rfl (lv_at hl 0 rfl) ?_
    refine va_get (D := D) (ci := 5) (v := .int (nI k)) (C := RX5) (T := TX5) (N := 2) hx hb hts hinX5 hown hK hP 0 rfl rfl 1 (by decide) (hts (.fieldLink RX5 21 "TaleReader$Text" "size" "I") (uc3 _ (List.mem_of_getElem? (i := 6) rfl))) (fun _ h9 => h9) rfl dX5_addSign_17 ?_
    refine lv_iload_n hx hb dX5_addSign_20 rfl (lv_at hl 1 rfl) ?_
    refine lv_i2b (v := x.toInt8.toInt32) hx hb dX5_addSign_21 rfl ?_
    refine va_bast (D := D) hx hb hK hP hD hS 1 0 rfl rfl (vp_in_nI (by omega) (by omega)) dX5_addSign_22 (fun H_2 L_3 hP hD hS => ?_)
    obtain ⟨g_4, eg_4⟩ : ∃ gg : Nat → Int32, gg = upd f ((nI k)).toNatClampNeg (vp_nar .byte x.toInt8.toInt32) := ⟨_, rfl⟩
    have hP : va_P D vwCl [(h0, .inr (5, [.ref a, .int (nI k)])), (a, .inl (cB, n, .inl g_4))] H_2 := by rw [eg_4]; exact hP
    have hD : va_D A [(h0, .inr (5, [.ref a, .int (nI k)])), (a, .inl (cB, n, .inl g_4))] := by rw [eg_4]; exact hD
    obtain rfl : g_4 = upd f k x.toInt8.toInt32 := eg_4.trans (by rw [nI_clamp (by omega), pk_vb])
    refine lv_aload_n hx hb dX5_addSign_23 rfl (lv_at hl 0 rfl) ?_
    refine lv_dup hx hb dX5_addSign_24 rfl ?_
    refine va_get (D := D) (ci := 5) (v := .int (nI k)) (C := RX5) (T := TX5) (N := 2) hx hb hts hinX5 hown hK hP 0 rfl rfl 1 (by decide) (hts (.fieldLink RX5 21 "TaleReader$Text" "size" "I") (uc3 _ (List.mem_of_getElem? (i := 6) rfl))) (fun _ h9 => h9) rfl dX5_addSign_25 ?_
    refine lv_iconst (v := 1) hx hb dX5_addSign_28 (by decide) ?_
    refine lv_iadd hx hb dX5_addSign_29 ?_
    refine lv_topi (fun z_5 ez_5 => ?_)
    obtain rfl : z_5 = nI (k + 1) := ez_5.trans (nI_add k 1)
    refine va_put (D := D) (ci := 5) (v := .int (nI (k + 1))) (ty := .int) (C := RX5) (T := TX5) (N := 2) hx hb hts hinX5 tyX5 tyX5_ok nmX5 hown hK hP hD hS 0 rfl rfl 1 (by decide) (hts (.fieldLink RX5 21 "TaleReader$Text" "size" "I") (uc3 _ (List.mem_of_getElem? (i := 6) rfl))) (fun _ h9 => h9) rfl (by decide +kernel) rfl rfl (Nat.le_of_ble_eq_true rfl) dX5_addSign_30 (fun H_6 L_7 hP hD hS => ?_)
    have hP : va_P D vwCl [(h0, .inr (5, [.ref a, .int (nI (k + 1))])), (a, .inl (cB, n, .inl (upd f k x.toInt8.toInt32)))] H_6 := hP
    have hD : va_D A [(h0, .inr (5, [.ref a, .int (nI (k + 1))])), (a, .inl (cB, n, .inl (upd f k x.toInt8.toInt32)))] := hD
    have hP9 := hP.sub (ws' := [(h0, .inr (5, [.ref a, .int (nI (k + 1))])), (a, .inl (cB, n, .inl (upd f k x.toInt8.toInt32)))]) [0, 1] rfl
    have hD9 := hD.sub (ws' := [(h0, .inr (5, [.ref a, .int (nI (k + 1))])), (a, .inl (cB, n, .inl (upd f k x.toInt8.toInt32)))]) [0, 1] (by decide) rfl
    exact W.vret hx hb hr (fun t ht hW => ⟨⟨(k + 1, upd f k x.toInt8.toInt32), rfl, Or.inl (⟨hkn, rfl, rfl⟩), ⟨by rw [ht]; exact hP9, va_K.moved hW.alike hK, hD9⟩⟩, hS.F ht⟩) hS.2.2 dX5_addSign_33
set_option maxHeartbeats 4000000 in
set_option maxRecDepth 100000 in
theorem s_X5_addNumber (l : Launch) (D : va_G) (cB cI cZ : ClassId) (E : pEt) (sz : Nat) (h0 : Nat) (a : Nat) (n : Nat) (k : Nat) (f : Nat → Int32) (x : Int32) (hk : k + 4 ≤ n) (hn : n ≤ 600) : Met l yX5_addNumber (.code yX5_addNumber cX5_addNumber 3 none :: wsL_law) ({ frames := 1, cells := 0, slots := 0, locals := 21 } : Room) (va_Pc [.ref h0, .int x] (pInE E D (pT cB cI cZ) sz [(h0, .inr (5, [.ref a, .int (nI k)])), (a, .inl (cB, n, .inl f))])) (va_Qv (fun (u : (Nat → Int32)) => True) (fun (u : (Nat → Int32)) (t : State) => pAt D (pT cB cI cZ) (va_A [(h0, .inr (5, [.ref a, .int (nI k)])), (a, .inl (cB, n, .inl f))] sz) [(h0, .inr (5, [.ref a, .int (nI (k + 4))])), (a, .inl (cB, n, .inl u))] t) (va_A [(h0, .inr (5, [.ref a, .int (nI k)])), (a, .inl (cB, n, .inl f))] sz)) 0 0 (va_A [(h0, .inr (5, [.ref a, .int (nI k)])), (a, .inl (cB, n, .inl f))] sz) := by
  refine Met.ofW (cc := cX5_addNumber) (maxL := 3) (ret := none) (by decide) rfl ?_
  intro p e s m args below meth cd s₁ B hml hv
  obtain ⟨rfl, hsz, hP, hK, hD0, hE⟩ := hv
  have hx := B.exec
  have hb := B.bytes
  have hr := B.returns
  have hts0 := atoms_spec (ws := .code yX5_addNumber cX5_addNumber 3 none :: wsL_law) B.pre
  have hts := fun (w : Cond) (h : w ∈ wsL_law) => hts0 w (List.mem_cons_of_mem _ h)
  have hown : s.vm.findClass RX5 = some m.cls := findClass_of_methodNamed B.named
  have hlocks := B.notSynchronized
  subst hsz
  have hD := hD0.self (sz := s.heap.size)
  generalize hAe : va_A [(h0, .inr (5, [.ref a, .int (nI k)])), (a, .inl (cB, n, .inl f))] s.heap.size = A at hD hE ⊢
  have hA : ∀ q : Nat, s.heap.size ≤ q → A q := fun q h => by rw [← hAe]; exact Or.inr h
  have hS : va_S A s.heap s.heap [] := va_S.rf
  have hP : va_P D vwCl [(h0, .inr (5, [.ref a, .int (nI k)])), (a, .inl (cB, n, .inl f))] s.heap := hP
  have hl := lv_entry ([.ref h0, .int x]) (n := 3) (Nat.le_of_ble_eq_true rfl)
  rw [lg_entry_eq]
  generalize (lg_sl ([.ref h0, .int x]) ++ List.replicate (3 - (lg_sl ([.ref h0, .int x])).length) Slot.unset).toArray = ls at hl ⊢
  have hl : lv_has ls 3 [(0, .ref h0), (1, .int x)] := hl
  refine lv_bipush (v := 24) hx hb dX5_addNumber_0 (by decide) ?_
  refine lv_istore_n (lv' := [(2, .int 24), (0, .ref h0), (1, .int x)]) hx hb dX5_addNumber_2 rfl hl (by decide) rfl (fun ls hl => ?_)
  refine lv_iload_n hx hb dX5_addNumber_3 rfl (lv_at hl 0 rfl) ?_
  refine lv_if_lt (tgt := 20) hx hb dX5_addNumber_4 (by decide) (fun c_1 => ?_) (fun c_1 => ?_)
  · exact False.elim (by revert c_1; decide)
  · refine lv_aload_n hx hb dX5_addNumber_7 rfl (lv_at hl 1 rfl) ?_
    refine lv_iload_n hx hb dX5_addNumber_8 rfl (lv_at hl 2 rfl) ?_
    refine lv_iload_n hx hb dX5_addNumber_9 rfl (lv_at hl 0 rfl) ?_
    refine lv_iushr (v := (x.toUInt32 >>> ((Int32.toUInt32 24) &&& Int32.toUInt32 31)).toInt32) hx hb dX5_addNumber_10 rfl ?_
    have hPc := hP.sub (ws' := [(h0, .inr (5, [.ref a, .int (nI k)])), (a, .inl (cB, n, .inl f))]) [0, 1] rfl
    have hDc := hD.sub (ws' := [(h0, .inr (5, [.ref a, .int (nI k)])), (a, .inl (cB, n, .inl f))]) [0, 1] (by decide) rfl
    have hFc := va_free (wc := [(h0, .inr (5, [.ref a, .int (nI k)])), (a, .inl (cB, n, .inl f))]) hD hS hA [0, 1] rfl
    refine va_callv (va_runV (As := [.int ((x.toUInt32 >>> ((Int32.toUInt32 24) &&& Int32.toUInt32 31)).toInt32)]) (rest := []) ⟨hx, hb, hml, hown, hts⟩ (s_X5_addSign l D cB cI cZ E s.heap.size h0 a n k f ((x.toUInt32 >>> ((Int32.toUInt32 24) &&& Int32.toUInt32 31)).toInt32) (by first | assumption | omega) (by first | assumption | omega)) (cwV 1 hts (uV (uc8 _ (List.mem_of_getElem? (i := 5) rfl)) (uc8 _ (List.mem_of_getElem? (i := 6) rfl)) (uc8 _ (List.mem_of_getElem? (i := 7) rfl)) (uc1 _ (List.mem_of_getElem? (i := 14) rfl)) (uc8 _ (List.mem_of_getElem? (i := 8) rfl))) rfl rfl rfl (by decide +kernel) ⟨Nat.le_of_ble_eq_true rfl, Nat.le_of_ble_eq_true rfl⟩) (pVE hE hS hFc hK hPc hDc 0 rfl rfl) rfl rfl hl.1 rfl (lv_room (Nat.le_of_ble_eq_true rfl)) dX5_addNumber_11 ⟨Nat.le_of_ble_eq_true rfl, Nat.le_of_ble_eq_true rfl⟩) hS (fun q _ h => hFc q h) hFc (fun u t H_3 L_4 ht hvm hw hB hz1 hk1 hS => ?_)
    obtain ⟨k_5, f_6⟩ := u
    obtain ⟨hP1, -, hD1⟩ := hB
    rw [ht] at hP1
    obtain ⟨hP, hD⟩ := va_join (wr := []) (w1 := [(h0, .inr (5, [.ref a, .int (nI k_5)])), (a, .inl (cB, n, .inl f_6))]) hP hD [0, 1] [] rfl rfl (by decide) (by decide) hk1 hFc hP1 hD1
    have hP : va_P D vwCl [(h0, .inr (5, [.ref a, .int (nI k_5)])), (a, .inl (cB, n, .inl f_6))] H_3 := hP.sub [0, 1] rfl
    have hD : va_D A [(h0, .inr (5, [.ref a, .int (nI k_5)])), (a, .inl (cB, n, .inl f_6))] := hD.sub [0, 1] (by decide) rfl
    try dsimp only at hw
    rcases hw with ⟨h_7, rfl, rfl⟩ | ⟨h_8, rfl, rfl⟩
    · refine lv_iinc (v := 16) (lv' := [(2, .int 16), (0, .ref h0), (1, .int x)]) hx hb dX5_addNumber_14 hl (k := 0) rfl (by decide) (by decide) rfl (fun ls hl => ?_)
      refine lv_goto (tgt := 3) hx hb dX5_addNumber_17 (by decide) ?_
      refine lv_iload_n hx hb dX5_addNumber_3 rfl (lv_at hl 0 rfl) ?_
      refine lv_if_lt (tgt := 20) hx hb dX5_addNumber_4 (by decide) (fun c_9 => ?_) (fun c_9 => ?_)
      · exact False.elim (by revert c_9; decide)
      · refine lv_aload_n hx hb dX5_addNumber_7 rfl (lv_at hl 1 rfl) ?_
        refine lv_iload_n hx hb dX5_addNumber_8 rfl (lv_at hl 2 rfl) ?_
        refine lv_iload_n hx hb dX5_addNumber_9 rfl (lv_at hl 0 rfl) ?_
        refine lv_iushr (v := (x.toUInt32 >>> ((Int32.toUInt32 16) &&& Int32.toUInt32 31)).toInt32) hx hb dX5_addNumber_10 rfl ?_
        have hPc := hP.sub (ws' := [(h0, .inr (5, [.ref a, .int (nI (k + 1))])), (a, .inl (cB, n, .inl (upd f k ((x.toUInt32 >>> ((Int32.toUInt32 24) &&& Int32.toUInt32 31)).toInt32).toInt8.toInt32)))]) [0, 1] rfl
        have hDc := hD.sub (ws' := [(h0, .inr (5, [.ref a, .int (nI (k + 1))])), (a, .inl (cB, n, .inl (upd f k ((x.toUInt32 >>> ((Int32.toUInt32 24) &&& Int32.toUInt32 31)).toInt32).toInt8.toInt32)))]) [0, 1] (by decide) rfl
        have hFc := va_free (wc := [(h0, .inr (5, [.ref a, .int (nI (k + 1))])), (a, .inl (cB, n, .inl (upd f k ((x.toUInt32 >>> ((Int32.toUInt32 24) &&& Int32.toUInt32 31)).toInt32).toInt8.toInt32)))]) hD hS hA [0, 1] rfl
        refine va_callv (va_runV (As := [.int ((x.toUInt32 >>> ((Int32.toUInt32 16) &&& Int32.toUInt32 31)).toInt32)]) (rest := []) ⟨hx, hb, hml, hown, hts⟩ (s_X5_addSign l D cB cI cZ E H_3.size h0 a n (k + 1) (upd f k ((x.toUInt32 >>> ((Int32.toUInt32 24) &&& Int32.toUInt32 31)).toInt32).toInt8.toInt32) ((x.toUInt32 >>> ((Int32.toUInt32 16) &&& Int32.toUInt32 31)).toInt32) (by first | assumption | omega) (by first | assumption | omega)) (cwV 1 hts (uV (uc8 _ (List.mem_of_getElem? (i := 5) rfl)) (uc8 _ (List.mem_of_getElem? (i := 6) rfl)) (uc8 _ (List.mem_of_getElem? (i := 7) rfl)) (uc1 _ (List.mem_of_getElem? (i := 14) rfl)) (uc8 _ (List.mem_of_getElem? (i := 8) rfl))) rfl rfl rfl (by decide +kernel) ⟨Nat.le_of_ble_eq_true rfl, Nat.le_of_ble_eq_true rfl⟩) (pVE hE hS hFc hK hPc hDc 0 rfl rfl) rfl rfl hl.1 rfl (lv_room (Nat.le_of_ble_eq_true rfl)) dX5_addNumber_11 ⟨Nat.le_of_ble_eq_true rfl, Nat.le_of_ble_eq_true rfl⟩) hS (fun q _ h => hFc q h) hFc (fun u t H_11 L_12 ht hvm hw hB hz1 hk1 hS => ?_)
        obtain ⟨k_13, f_14⟩ := u
        obtain ⟨hP1, -, hD1⟩ := hB
        rw [ht] at hP1
        obtain ⟨hP, hD⟩ := va_join (wr := []) (w1 := [(h0, .inr (5, [.ref a, .int (nI k_13)])), (a, .inl (cB, n, .inl f_14))]) hP hD [0, 1] [] rfl rfl (by decide) (by decide) hk1 hFc hP1 hD1
        have hP : va_P D vwCl [(h0, .inr (5, [.ref a, .int (nI k_13)])), (a, .inl (cB, n, .inl f_14))] H_11 := hP.sub [0, 1] rfl
        have hD : va_D A [(h0, .inr (5, [.ref a, .int (nI k_13)])), (a, .inl (cB, n, .inl f_14))] := hD.sub [0, 1] (by decide) rfl
        try dsimp only at hw
        rcases hw with ⟨h_15, rfl, rfl⟩ | ⟨h_16, rfl, rfl⟩
        · refine lv_iinc (v := 8) (lv' := [(2, .int 8), (0, .ref h0), (1, .int x)]) hx hb dX5_addNumber_14 hl (k := 0) rfl (by decide) (by decide) rfl (fun ls hl => ?_)
          refine lv_goto (tgt := 3) hx hb dX5_addNumber_17 (by decide) ?_
          refine lv_iload_n hx hb dX5_addNumber_3 rfl (lv_at hl 0 rfl) ?_
          refine lv_if_lt (tgt := 20) hx hb dX5_addNumber_4 (by decide) (fun c_17 => ?_) (fun c_17 => ?_)
          · exact False.elim (by revert c_17; decide)
          · refine lv_aload_n hx hb dX5_addNumber_7 rfl (lv_at hl 1 rfl) ?_
            refine lv_iload_n hx hb dX5_addNumber_8 rfl (lv_at hl 2 rfl) ?_
            refine lv_iload_n hx hb dX5_addNumber_9 rfl (lv_at hl 0 rfl) ?_
            refine lv_iushr (v := (x.toUInt32 >>> ((Int32.toUInt32 8) &&& Int32.toUInt32 31)).toInt32) hx hb dX5_addNumber_10 rfl ?_
            have hPc := hP.sub (ws' := [(h0, .inr (5, [.ref a, .int (nI (k + 2))])), (a, .inl (cB, n, .inl (upd (upd f k ((x.toUInt32 >>> ((Int32.toUInt32 24) &&& Int32.toUInt32 31)).toInt32).toInt8.toInt32) (k + 1) ((x.toUInt32 >>> ((Int32.toUInt32 16) &&& Int32.toUInt32 31)).toInt32).toInt8.toInt32)))]) [0, 1] rfl
            have hDc := hD.sub (ws' := [(h0, .inr (5, [.ref a, .int (nI (k + 2))])), (a, .inl (cB, n, .inl (upd (upd f k ((x.toUInt32 >>> ((Int32.toUInt32 24) &&& Int32.toUInt32 31)).toInt32).toInt8.toInt32) (k + 1) ((x.toUInt32 >>> ((Int32.toUInt32 16) &&& Int32.toUInt32 31)).toInt32).toInt8.toInt32)))]) [0, 1] (by decide) rfl
            have hFc := va_free (wc := [(h0, .inr (5, [.ref a, .int (nI (k + 2))])), (a, .inl (cB, n, .inl (upd (upd f k ((x.toUInt32 >>> ((Int32.toUInt32 24) &&& Int32.toUInt32 31)).toInt32).toInt8.toInt32) (k + 1) ((x.toUInt32 >>> ((Int32.toUInt32 16) &&& Int32.toUInt32 31)).toInt32).toInt8.toInt32)))]) hD hS hA [0, 1] rfl
            refine va_callv (va_runV (As := [.int ((x.toUInt32 >>> ((Int32.toUInt32 8) &&& Int32.toUInt32 31)).toInt32)]) (rest := []) ⟨hx, hb, hml, hown, hts⟩ (s_X5_addSign l D cB cI cZ E H_11.size h0 a n (k + 2) (upd (upd f k ((x.toUInt32 >>> ((Int32.toUInt32 24) &&& Int32.toUInt32 31)).toInt32).toInt8.toInt32) (k + 1) ((x.toUInt32 >>> ((Int32.toUInt32 16) &&& Int32.toUInt32 31)).toInt32).toInt8.toInt32) ((x.toUInt32 >>> ((Int32.toUInt32 8) &&& Int32.toUInt32 31)).toInt32) (by first | assumption | omega) (by first | assumption | omega)) (cwV 1 hts (uV (uc8 _ (List.mem_of_getElem? (i := 5) rfl)) (uc8 _ (List.mem_of_getElem? (i := 6) rfl)) (uc8 _ (List.mem_of_getElem? (i := 7) rfl)) (uc1 _ (List.mem_of_getElem? (i := 14) rfl)) (uc8 _ (List.mem_of_getElem? (i := 8) rfl))) rfl rfl rfl (by decide +kernel) ⟨Nat.le_of_ble_eq_true rfl, Nat.le_of_ble_eq_true rfl⟩) (pVE hE hS hFc hK hPc hDc 0 rfl rfl) rfl rfl hl.1 rfl (lv_room (Nat.le_of_ble_eq_true rfl)) dX5_addNumber_11 ⟨Nat.le_of_ble_eq_true rfl, Nat.le_of_ble_eq_true rfl⟩) hS (fun q _ h => hFc q h) hFc (fun u t H_19 L_20 ht hvm hw hB hz1 hk1 hS => ?_)
            obtain ⟨k_21, f_22⟩ := u
            obtain ⟨hP1, -, hD1⟩ := hB
            rw [ht] at hP1
            obtain ⟨hP, hD⟩ := va_join (wr := []) (w1 := [(h0, .inr (5, [.ref a, .int (nI k_21)])), (a, .inl (cB, n, .inl f_22))]) hP hD [0, 1] [] rfl rfl (by decide) (by decide) hk1 hFc hP1 hD1
            have hP : va_P D vwCl [(h0, .inr (5, [.ref a, .int (nI k_21)])), (a, .inl (cB, n, .inl f_22))] H_19 := hP.sub [0, 1] rfl
            have hD : va_D A [(h0, .inr (5, [.ref a, .int (nI k_21)])), (a, .inl (cB, n, .inl f_22))] := hD.sub [0, 1] (by decide) rfl
            try dsimp only at hw
            rcases hw with ⟨h_23, rfl, rfl⟩ | ⟨h_24, rfl, rfl⟩
            · refine lv_iinc (v := 0) (lv' := [(2, .int 0), (0, .ref h0), (1, .int x)]) hx hb dX5_addNumber_14 hl (k := 0) rfl (by decide) (by decide) rfl (fun ls hl => ?_)
              refine lv_goto (tgt := 3) hx hb dX5_addNumber_17 (by decide) ?_
              refine lv_iload_n hx hb dX5_addNumber_3 rfl (lv_at hl 0 rfl) ?_
              refine lv_if_lt (tgt := 20) hx hb dX5_addNumber_4 (by decide) (fun c_25 => ?_) (fun c_25 => ?_)
              · exact False.elim (by revert c_25; decide)
              · refine lv_aload_n hx hb dX5_addNumber_7 rfl (lv_at hl 1 rfl) ?_
                refine lv_iload_n hx hb dX5_addNumber_8 rfl (lv_at hl 2 rfl) ?_
                refine lv_iload_n hx hb dX5_addNumber_9 rfl (lv_at hl 0 rfl) ?_
                refine lv_iushr (v := (x.toUInt32 >>> ((Int32.toUInt32 0) &&& Int32.toUInt32 31)).toInt32) hx hb dX5_addNumber_10 rfl ?_
                have hPc := hP.sub (ws' := [(h0, .inr (5, [.ref a, .int (nI (k + 3))])), (a, .inl (cB, n, .inl (upd (upd (upd f k ((x.toUInt32 >>> ((Int32.toUInt32 24) &&& Int32.toUInt32 31)).toInt32).toInt8.toInt32) (k + 1) ((x.toUInt32 >>> ((Int32.toUInt32 16) &&& Int32.toUInt32 31)).toInt32).toInt8.toInt32) (k + 2) ((x.toUInt32 >>> ((Int32.toUInt32 8) &&& Int32.toUInt32 31)).toInt32).toInt8.toInt32)))]) [0, 1] rfl
                have hDc := hD.sub (ws' := [(h0, .inr (5, [.ref a, .int (nI (k + 3))])), (a, .inl (cB, n, .inl (upd (upd (upd f k ((x.toUInt32 >>> ((Int32.toUInt32 24) &&& Int32.toUInt32 31)).toInt32).toInt8.toInt32) (k + 1) ((x.toUInt32 >>> ((Int32.toUInt32 16) &&& Int32.toUInt32 31)).toInt32).toInt8.toInt32) (k + 2) ((x.toUInt32 >>> ((Int32.toUInt32 8) &&& Int32.toUInt32 31)).toInt32).toInt8.toInt32)))]) [0, 1] (by decide) rfl
                have hFc := va_free (wc := [(h0, .inr (5, [.ref a, .int (nI (k + 3))])), (a, .inl (cB, n, .inl (upd (upd (upd f k ((x.toUInt32 >>> ((Int32.toUInt32 24) &&& Int32.toUInt32 31)).toInt32).toInt8.toInt32) (k + 1) ((x.toUInt32 >>> ((Int32.toUInt32 16) &&& Int32.toUInt32 31)).toInt32).toInt8.toInt32) (k + 2) ((x.toUInt32 >>> ((Int32.toUInt32 8) &&& Int32.toUInt32 31)).toInt32).toInt8.toInt32)))]) hD hS hA [0, 1] rfl
                refine va_callv (va_runV (As := [.int ((x.toUInt32 >>> ((Int32.toUInt32 0) &&& Int32.toUInt32 31)).toInt32)]) (rest := []) ⟨hx, hb, hml, hown, hts⟩ (s_X5_addSign l D cB cI cZ E H_19.size h0 a n (k + 3) (upd (upd (upd f k ((x.toUInt32 >>> ((Int32.toUInt32 24) &&& Int32.toUInt32 31)).toInt32).toInt8.toInt32) (k + 1) ((x.toUInt32 >>> ((Int32.toUInt32 16) &&& Int32.toUInt32 31)).toInt32).toInt8.toInt32) (k + 2) ((x.toUInt32 >>> ((Int32.toUInt32 8) &&& Int32.toUInt32 31)).toInt32).toInt8.toInt32) ((x.toUInt32 >>> ((Int32.toUInt32 0) &&& Int32.toUInt32 31)).toInt32) (by first | assumption | omega) (by first | assumption | omega)) (cwV 1 hts (uV (uc8 _ (List.mem_of_getElem? (i := 5) rfl)) (uc8 _ (List.mem_of_getElem? (i := 6) rfl)) (uc8 _ (List.mem_of_getElem? (i := 7) rfl)) (uc1 _ (List.mem_of_getElem? (i := 14) rfl)) (uc8 _ (List.mem_of_getElem? (i := 8) rfl))) rfl rfl rfl (by decide +kernel) ⟨Nat.le_of_ble_eq_true rfl, Nat.le_of_ble_eq_true rfl⟩) (pVE hE hS hFc hK hPc hDc 0 rfl rfl) rfl rfl hl.1 rfl (lv_room (Nat.le_of_ble_eq_true rfl)) dX5_addNumber_11 ⟨Nat.le_of_ble_eq_true rfl, Nat.le_of_ble_eq_true rfl⟩) hS (fun q _ h => hFc q h) hFc (fun u t H_27 L_28 ht hvm hw hB hz1 hk1 hS => ?_)
                obtain ⟨k_29, f_30⟩ := u
                obtain ⟨hP1, -, hD1⟩ := hB
                rw [ht] at hP1
                obtain ⟨hP, hD⟩ := va_join (wr := []) (w1 := [(h0, .inr (5, [.ref a, .int (nI k_29)])), (a, .inl (cB, n, .inl f_30))]) hP hD [0, 1] [] rfl rfl (by decide) (by decide) hk1 hFc hP1 hD1
                have hP : va_P D vwCl [(h0, .inr (5, [.ref a, .int (nI k_29)])), (a, .inl (cB, n, .inl f_30))] H_27 := hP.sub [0, 1] rfl
                have hD : va_D A [(h0, .inr (5, [.ref a, .int (nI k_29)])), (a, .inl (cB, n, .inl f_30))] := hD.sub [0, 1] (by decide) rfl
                try dsimp only at hw
                rcases hw with ⟨h_31, rfl, rfl⟩ | ⟨h_32, rfl, rfl⟩
                · refine lv_iinc (v := (-8)) (lv' := [(2, .int (-8)), (0, .ref h0), (1, .int x)]) hx hb dX5_addNumber_14 hl (k := 0) rfl (by decide) (by decide) rfl (fun ls hl => ?_)
                  refine lv_goto (tgt := 3) hx hb dX5_addNumber_17 (by decide) ?_
                  refine lv_iload_n hx hb dX5_addNumber_3 rfl (lv_at hl 0 rfl) ?_
                  refine lv_if_lt (tgt := 20) hx hb dX5_addNumber_4 (by decide) (fun c_33 => ?_) (fun c_33 => ?_)
                  · have hP9 := hP.sub (ws' := [(h0, .inr (5, [.ref a, .int (nI (k + 4))])), (a, .inl (cB, n, .inl (upd (upd (upd (upd f k ((x.toUInt32 >>> ((Int32.toUInt32 24) &&& Int32.toUInt32 31)).toInt32).toInt8.toInt32) (k + 1) ((x.toUInt32 >>> ((Int32.toUInt32 16) &&& Int32.toUInt32 31)).toInt32).toInt8.toInt32) (k + 2) ((x.toUInt32 >>> ((Int32.toUInt32 8) &&& Int32.toUInt32 31)).toInt32).toInt8.toInt32) (k + 3) ((x.toUInt32 >>> ((Int32.toUInt32 0) &&& Int32.toUInt32 31)).toInt32).toInt8.toInt32)))]) [0, 1] rfl
                    have hD9 := hD.sub (ws' := [(h0, .inr (5, [.ref a, .int (nI (k + 4))])), (a, .inl (cB, n, .inl (upd (upd (upd (upd f k ((x.toUInt32 >>> ((Int32.toUInt32 24) &&& Int32.toUInt32 31)).toInt32).toInt8.toInt32) (k + 1) ((x.toUInt32 >>> ((Int32.toUInt32 16) &&& Int32.toUInt32 31)).toInt32).toInt8.toInt32) (k + 2) ((x.toUInt32 >>> ((Int32.toUInt32 8) &&& Int32.toUInt32 31)).toInt32).toInt8.toInt32) (k + 3) ((x.toUInt32 >>> ((Int32.toUInt32 0) &&& Int32.toUInt32 31)).toInt32).toInt8.toInt32)))]) [0, 1] (by decide) rfl
                    exact W.vret hx hb hr (fun t ht hW => ⟨⟨(upd (upd (upd (upd f k ((x.toUInt32 >>> ((Int32.toUInt32 24) &&& Int32.toUInt32 31)).toInt32).toInt8.toInt32) (k + 1) ((x.toUInt32 >>> ((Int32.toUInt32 16) &&& Int32.toUInt32 31)).toInt32).toInt8.toInt32) (k + 2) ((x.toUInt32 >>> ((Int32.toUInt32 8) &&& Int32.toUInt32 31)).toInt32).toInt8.toInt32) (k + 3) ((x.toUInt32 >>> ((Int32.toUInt32 0) &&& Int32.toUInt32 31)).toInt32).toInt8.toInt32), rfl, trivial, ⟨by rw [ht]; exact hP9, va_K.moved hW.alike hK, hD9⟩⟩, hS.F ht⟩) hS.2.2 dX5_addNumber_20
                  · exact False.elim (by revert c_33; decide)
                · exact False.elim (by exact h_32 (by omega))
            · exact False.elim (by exact h_24 (by omega))
        · exact False.elim (by exact h_16 (by omega))
    · exact False.elim (by exact h_8 (by omega))
set_option maxHeartbeats 4000000 in
set_option maxRecDepth 100000 in
theorem s_X5_holds (l : Launch) (D : va_G) (cB cI cZ : ClassId) (E : pEt) (sz : Nat) (h0 : Nat) (a : Nat) (k : Nat) (x : Int32) (y : Int32) (hk : k ≤ 600) : Met l yX5_holds (.code yX5_holds cX5_holds 3 (some .boolean) :: wsL_law) ({ frames := 0, cells := 0, slots := 0, locals := 0 } : Room) (va_Pc [.ref h0, .int x, .int y] (pInE E D (pT cB cI cZ) sz [(h0, .inr (5, [.ref a, .int (nI k)]))])) (va_Qi (fun (r : Int32) (u : Unit) => ((1 = r) ∧ (∃ X Y : Nat, x = nI X ∧ y = nI Y ∧ X + Y ≤ k)) ∨ ((0 = r) ∧ (¬ ∃ X Y : Nat, x = nI X ∧ y = nI Y ∧ X + Y ≤ k))) (fun (u : Unit) (t : State) => pAt D (pT cB cI cZ) (va_A [(h0, .inr (5, [.ref a, .int (nI k)]))] sz) [(h0, .inr (5, [.ref a, .int (nI k)]))] t) (va_A [(h0, .inr (5, [.ref a, .int (nI k)]))] sz)) 0 0 (va_A [(h0, .inr (5, [.ref a, .int (nI k)]))] sz) := by
  refine Met.ofW (cc := cX5_holds) (maxL := 3) (ret := (some .boolean)) (by decide) rfl ?_
  intro p e s m args below meth cd s₁ B hml hv
  obtain ⟨rfl, hsz, hP, hK, hD0, hE⟩ := hv
  have hx := B.exec
  have hb := B.bytes
  have hr := B.returns
  have hts0 := atoms_spec (ws := .code yX5_holds cX5_holds 3 (some .boolean) :: wsL_law) B.pre
  have hts := fun (w : Cond) (h : w ∈ wsL_law) => hts0 w (List.mem_cons_of_mem _ h)
  have hown : s.vm.findClass RX5 = some m.cls := findClass_of_methodNamed B.named
  have hlocks := B.notSynchronized
  have hinX5 := inlX5
  subst hsz
  have hD := hD0.self (sz := s.heap.size)
  generalize hAe : va_A [(h0, .inr (5, [.ref a, .int (nI k)]))] s.heap.size = A at hD hE ⊢
  have hA : ∀ q : Nat, s.heap.size ≤ q → A q := fun q h => by rw [← hAe]; exact Or.inr h
  have hS : va_S A s.heap s.heap [] := va_S.rf
  have hP : va_P D vwCl [(h0, .inr (5, [.ref a, .int (nI k)]))] s.heap := hP
  have hl := lv_entry ([.ref h0, .int x, .int y]) (n := 3) (Nat.le_of_ble_eq_true rfl)
  rw [lg_entry_eq]
  generalize (lg_sl ([.ref h0, .int x, .int y]) ++ List.replicate (3 - (lg_sl ([.ref h0, .int x, .int y])).length) Slot.unset).toArray = ls at hl ⊢
  have hl : lv_has ls 3 [(0, .ref h0), (1, .int x), (2, .int y)] := hl
  refine lv_iload_n hx hb dX5_holds_0 rfl (lv_at hl 1 rfl) ?_
  refine lv_if_lt (tgt := 30) hx hb dX5_holds_1 (by decide) (fun c_1 => ?_) (fun c_1 => ?_)
  · refine lv_iconst (v := 0) hx hb dX5_holds_30 (by decide) ?_
    have hP9 := hP.sub (ws' := [(h0, .inr (5, [.ref a, .int (nI k)]))]) [0] rfl
    have hD9 := hD.sub (ws' := [(h0, .inr (5, [.ref a, .int (nI k)]))]) [0] (by decide) rfl
    exact W.zret (v := 0) hx hb hr (rfl) (fun t ht hW => ⟨⟨0, (), rfl, Or.inr ((⟨rfl, pHoldX hk c_1⟩)), ⟨by rw [ht]; exact hP9, va_K.moved hW.alike hK, hD9⟩⟩, hS.F ht⟩) hS.2.2 dX5_holds_31
  · refine lv_iload_n hx hb dX5_holds_4 rfl (lv_at hl 2 rfl) ?_
    refine lv_if_lt (tgt := 30) hx hb dX5_holds_5 (by decide) (fun c_2 => ?_) (fun c_2 => ?_)
    · refine lv_iconst (v := 0) hx hb dX5_holds_30 (by decide) ?_
      have hP9 := hP.sub (ws' := [(h0, .inr (5, [.ref a, .int (nI k)]))]) [0] rfl
      have hD9 := hD.sub (ws' := [(h0, .inr (5, [.ref a, .int (nI k)]))]) [0] (by decide) rfl
      exact W.zret (v := 0) hx hb hr (rfl) (fun t ht hW => ⟨⟨0, (), rfl, Or.inr ((⟨rfl, pHoldY hk c_2⟩)), ⟨by rw [ht]; exact hP9, va_K.moved hW.alike hK, hD9⟩⟩, hS.F ht⟩) hS.2.2 dX5_holds_31
    · refine lv_iload_n hx hb dX5_holds_8 rfl (lv_at hl 2 rfl) ?_
      refine lv_aload_n hx hb dX5_holds_9 rfl (lv_at hl 0 rfl) ?_
      refine va_get (D := D) (ci := 5) (v := .int (nI k)) (C := RX5) (T := TX5) (N := 2) hx hb hts hinX5 hown hK hP 0 rfl rfl 1 (by decide) (hts (.fieldLink RX5 21 "TaleReader$Text" "size" "I") (uc3 _ (List.mem_of_getElem? (i := 6) rfl))) (fun _ h9 => h9) rfl dX5_holds_10 ?_
      refine lv_icmp_gt (tgt := 30) hx hb dX5_holds_13 (by decide) (fun c_3 => ?_) (fun c_3 => ?_)
      · refine lv_iconst (v := 0) hx hb dX5_holds_30 (by decide) ?_
        have hP9 := hP.sub (ws' := [(h0, .inr (5, [.ref a, .int (nI k)]))]) [0] rfl
        have hD9 := hD.sub (ws' := [(h0, .inr (5, [.ref a, .int (nI k)]))]) [0] (by decide) rfl
        exact W.zret (v := 0) hx hb hr (rfl) (fun t ht hW => ⟨⟨0, (), rfl, Or.inr ((⟨rfl, pHoldK hk c_3⟩)), ⟨by rw [ht]; exact hP9, va_K.moved hW.alike hK, hD9⟩⟩, hS.F ht⟩) hS.2.2 dX5_holds_31
      · refine lv_iload_n hx hb dX5_holds_16 rfl (lv_at hl 1 rfl) ?_
        refine lv_aload_n hx hb dX5_holds_17 rfl (lv_at hl 0 rfl) ?_
        refine va_get (D := D) (ci := 5) (v := .int (nI k)) (C := RX5) (T := TX5) (N := 2) hx hb hts hinX5 hown hK hP 0 rfl rfl 1 (by decide) (hts (.fieldLink RX5 21 "TaleReader$Text" "size" "I") (uc3 _ (List.mem_of_getElem? (i := 6) rfl))) (fun _ h9 => h9) rfl dX5_holds_18 ?_
        refine lv_iload_n hx hb dX5_holds_21 rfl (lv_at hl 2 rfl) ?_
        refine lv_isub hx hb dX5_holds_22 ?_
        refine lv_icmp_gt (tgt := 30) hx hb dX5_holds_23 (by decide) (fun c_4 => ?_) (fun c_4 => ?_)
        · refine lv_iconst (v := 0) hx hb dX5_holds_30 (by decide) ?_
          have hP9 := hP.sub (ws' := [(h0, .inr (5, [.ref a, .int (nI k)]))]) [0] rfl
          have hD9 := hD.sub (ws' := [(h0, .inr (5, [.ref a, .int (nI k)]))]) [0] (by decide) rfl
          exact W.zret (v := 0) hx hb hr (rfl) (fun t ht hW => ⟨⟨0, (), rfl, Or.inr ((⟨rfl, pHoldS hk c_4⟩)), ⟨by rw [ht]; exact hP9, va_K.moved hW.alike hK, hD9⟩⟩, hS.F ht⟩) hS.2.2 dX5_holds_31
        · refine lv_iconst (v := 1) hx hb dX5_holds_26 (by decide) ?_
          refine lv_goto (tgt := 31) hx hb dX5_holds_27 (by decide) ?_
          have hP9 := hP.sub (ws' := [(h0, .inr (5, [.ref a, .int (nI k)]))]) [0] rfl
          have hD9 := hD.sub (ws' := [(h0, .inr (5, [.ref a, .int (nI k)]))]) [0] (by decide) rfl
          exact W.zret (v := 1) hx hb hr (rfl) (fun t ht hW => ⟨⟨1, (), rfl, Or.inl (⟨rfl, pHold1 hk c_1 c_2 c_3 c_4⟩), ⟨by rw [ht]; exact hP9, va_K.moved hW.alike hK, hD9⟩⟩, hS.F ht⟩) hS.2.2 dX5_holds_31
set_option maxHeartbeats 4000000 in
set_option maxRecDepth 100000 in
theorem s_X5_signAt (l : Launch) (D : va_G) (cB cI cZ : ClassId) (E : pEt) (sz : Nat) (h0 : Nat) (a : Nat) (n : Nat) (k : Nat) (f : Nat → Int32) (x : Int32) (hk : k ≤ n) (hn : n ≤ 600) : Met l yX5_signAt (.code yX5_signAt cX5_signAt 2 (some .int) :: wsL_law) ({ frames := 1, cells := 0, slots := 0, locals := 22 } : Room) (va_Pc [.ref h0, .int x] (pInE E D (pT cB cI cZ) sz [(h0, .inr (5, [.ref a, .int (nI k)])), (a, .inl (cB, n, .inl f))])) (va_Qi (fun (r : Int32) (u : Unit) => True) (fun (u : Unit) (t : State) => pAt D (pT cB cI cZ) (va_A [(h0, .inr (5, [.ref a, .int (nI k)])), (a, .inl (cB, n, .inl f))] sz) [(h0, .inr (5, [.ref a, .int (nI k)])), (a, .inl (cB, n, .inl f))] t) (va_A [(h0, .inr (5, [.ref a, .int (nI k)])), (a, .inl (cB, n, .inl f))] sz)) 0 0 (va_A [(h0, .inr (5, [.ref a, .int (nI k)])), (a, .inl (cB, n, .inl f))] sz) := by
  refine Met.ofW (cc := cX5_signAt) (maxL := 2) (ret := (some .int)) (by decide) rfl ?_
  intro p e s m args below meth cd s₁ B hml hv
  obtain ⟨rfl, hsz, hP, hK, hD0, hE⟩ := hv
  have hx := B.exec
  have hb := B.bytes
  have hr := B.returns
  have hts0 := atoms_spec (ws := .code yX5_signAt cX5_signAt 2 (some .int) :: wsL_law) B.pre
  have hts := fun (w : Cond) (h : w ∈ wsL_law) => hts0 w (List.mem_cons_of_mem _ h)
  have hown : s.vm.findClass RX5 = some m.cls := findClass_of_methodNamed B.named
  have hlocks := B.notSynchronized
  have hinX5 := inlX5
  subst hsz
  have hD := hD0.self (sz := s.heap.size)
  generalize hAe : va_A [(h0, .inr (5, [.ref a, .int (nI k)])), (a, .inl (cB, n, .inl f))] s.heap.size = A at hD hE ⊢
  have hA : ∀ q : Nat, s.heap.size ≤ q → A q := fun q h => by rw [← hAe]; exact Or.inr h
  have hS : va_S A s.heap s.heap [] := va_S.rf
  have hP : va_P D vwCl [(h0, .inr (5, [.ref a, .int (nI k)])), (a, .inl (cB, n, .inl f))] s.heap := hP
  have hl := lv_entry ([.ref h0, .int x]) (n := 2) (Nat.le_of_ble_eq_true rfl)
  rw [lg_entry_eq]
  generalize (lg_sl ([.ref h0, .int x]) ++ List.replicate (2 - (lg_sl ([.ref h0, .int x])).length) Slot.unset).toArray = ls at hl ⊢
  have hl : lv_has ls 2 [(0, .ref h0), (1, .int x)] := hl
  refine lv_aload_n hx hb dX5_signAt_0 rfl (lv_at hl 0 rfl) ?_
  refine lv_iload_n hx hb dX5_signAt_1 rfl (lv_at hl 1 rfl) ?_
  refine lv_iconst (v := 1) hx hb dX5_signAt_2 (by decide) ?_
  have hPc := hP.sub (ws' := [(h0, .inr (5, [.ref a, .int (nI k)]))]) [0] rfl
  have hDc := hD.sub (ws' := [(h0, .inr (5, [.ref a, .int (nI k)]))]) [0] (by decide) rfl
  have hFc := va_free (wc := [(h0, .inr (5, [.ref a, .int (nI k)]))]) hD hS hA [0] rfl
  refine va_calli (va_runV (As := [.int x, .int 1]) (rest := []) ⟨hx, hb, hml, hown, hts⟩ (s_X5_holds l D cB cI cZ E s.heap.size h0 a k x 1 (by first | assumption | omega)) (cwV 2 hts (uV (uc10 _ (List.mem_of_getElem? (i := 1) rfl)) (uc10 _ (List.mem_of_getElem? (i := 2) rfl)) (uc10 _ (List.mem_of_getElem? (i := 3) rfl)) (uc1 _ (List.mem_of_getElem? (i := 14) rfl)) (uc10 _ (List.mem_of_getElem? (i := 4) rfl))) rfl rfl rfl (by decide +kernel) ⟨Nat.le_of_ble_eq_true rfl, Nat.le_of_ble_eq_true rfl⟩) (pVE hE hS hFc hK hPc hDc 0 rfl rfl) rfl rfl hl.1 rfl (lv_room (Nat.le_of_ble_eq_true rfl)) dX5_signAt_3 ⟨Nat.le_of_ble_eq_true rfl, Nat.le_of_ble_eq_true rfl⟩) hS (fun q _ h => hFc q h) hFc (fun r_1 u t H_2 L_3 ht hvm hw hB hz1 hk1 hS => ?_)
  obtain ⟨hP1, -, hD1⟩ := hB
  rw [ht] at hP1
  obtain ⟨hP, hD⟩ := va_join (wr := [(a, .inl (cB, n, .inl f))]) (w1 := [(h0, .inr (5, [.ref a, .int (nI k)]))]) hP hD [0] [1] rfl rfl (by decide) (by decide) hk1 hFc hP1 hD1
  have hP : va_P D vwCl [(h0, .inr (5, [.ref a, .int (nI k)])), (a, .inl (cB, n, .inl f))] H_2 := hP.sub [1, 0] rfl
  have hD : va_D A [(h0, .inr (5, [.ref a, .int (nI k)])), (a, .inl (cB, n, .inl f))] := hD.sub [1, 0] (by decide) rfl
  try dsimp only at hw
  rcases hw with ⟨rfl, h_4⟩ | ⟨rfl, h_5⟩
  · obtain ⟨X, Y, rfl, hY, hXY⟩ := h_4
    have hY1 : Y = 1 := ((nI_eq (a := 1) (by omega) (by omega)).mp hY).symm
    refine lv_if_eq (tgt := 18) hx hb dX5_signAt_6 (by decide) (fun c_6 => ?_) (fun c_6 => ?_)
    · exact False.elim (by revert c_6; decide)
    · refine lv_aload_n hx hb dX5_signAt_9 rfl (lv_at hl 0 rfl) ?_
      refine va_get (D := D) (ci := 5) (v := .ref a) (C := RX5) (T := TX5) (N := 2) hx hb hts hinX5 hown hK hP 0 rfl rfl 0 (by decide) (hts (.fieldLink RX5 15 "TaleReader$Text" "signs" "[B") (uc3 _ (List.mem_of_getElem? (i := 5) rfl))) (fun _ h9 => h9) rfl dX5_signAt_10 ?_
      refine lv_iload_n hx hb dX5_signAt_13 rfl (lv_at hl 1 rfl) ?_
      refine va_bald (D := D) hx hb hK hP 1 0 rfl rfl (vp_in_nI (by omega) (by omega)) dX5_signAt_14 ?_
      refine lv_topi (fun z_7 ez_7 => ?_)
      obtain rfl : z_7 = f X := ez_7.trans (congrArg f (nI_clamp (by omega)))
      refine lv_goto (tgt := 19) hx hb dX5_signAt_15 (by decide) ?_
      have hP9 := hP.sub (ws' := [(h0, .inr (5, [.ref a, .int (nI k)])), (a, .inl (cB, n, .inl f))]) [0, 1] rfl
      have hD9 := hD.sub (ws' := [(h0, .inr (5, [.ref a, .int (nI k)])), (a, .inl (cB, n, .inl f))]) [0, 1] (by decide) rfl
      exact W.iret (v := f X) hx hb hr (fun t ht hW => ⟨⟨f X, (), rfl, trivial, ⟨by rw [ht]; exact hP9, va_K.moved hW.alike hK, hD9⟩⟩, hS.F ht⟩) hS.2.2 dX5_signAt_19
  · refine lv_if_eq (tgt := 18) hx hb dX5_signAt_6 (by decide) (fun c_8 => ?_) (fun c_8 => ?_)
    · refine lv_iconst (v := 0) hx hb dX5_signAt_18 (by decide) ?_
      have hP9 := hP.sub (ws' := [(h0, .inr (5, [.ref a, .int (nI k)])), (a, .inl (cB, n, .inl f))]) [0, 1] rfl
      have hD9 := hD.sub (ws' := [(h0, .inr (5, [.ref a, .int (nI k)])), (a, .inl (cB, n, .inl f))]) [0, 1] (by decide) rfl
      exact W.iret (v := 0) hx hb hr (fun t ht hW => ⟨⟨0, (), rfl, trivial, ⟨by rw [ht]; exact hP9, va_K.moved hW.alike hK, hD9⟩⟩, hS.F ht⟩) hS.2.2 dX5_signAt_19
    · exact False.elim (by revert c_8; decide)
set_option maxHeartbeats 4000000 in
set_option maxRecDepth 100000 in
theorem s_X5_addAll (l : Launch) (D : va_G) (cB cI cZ : ClassId) (E : pEt) (sz : Nat) (h0 : Nat) (a : Nat) (n : Nat) (k : Nat) (f : Nat → Int32) (h1 : Nat) (a1 : Nat) (n1 : Nat) (k1 : Nat) (f1 : Nat → Int32) (hk : k ≤ n) (hn : n ≤ 600) (hk1 : k1 ≤ n1) (hn1 : n1 ≤ 600) : Met l yX5_addAll (.code yX5_addAll cX5_addAll 3 none :: wsL_law) ({ frames := 2, cells := 0, slots := 0, locals := 43 } : Room) (va_Pc [.ref h0, .ref h1] (pInE E D (pT cB cI cZ) sz [(h0, .inr (5, [.ref a, .int (nI k)])), (a, .inl (cB, n, .inl f)), (h1, .inr (5, [.ref a1, .int (nI k1)])), (a1, .inl (cB, n1, .inl f1))])) (va_Qv (fun (u : Nat × (Nat → Int32)) => u.1 ≤ n) (fun (u : Nat × (Nat → Int32)) (t : State) => pAt D (pT cB cI cZ) (va_A [(h0, .inr (5, [.ref a, .int (nI k)])), (a, .inl (cB, n, .inl f)), (h1, .inr (5, [.ref a1, .int (nI k1)])), (a1, .inl (cB, n1, .inl f1))] sz) [(h0, .inr (5, [.ref a, .int (nI u.1)])), (a, .inl (cB, n, .inl u.2)), (h1, .inr (5, [.ref a1, .int (nI k1)])), (a1, .inl (cB, n1, .inl f1))] t) (va_A [(h0, .inr (5, [.ref a, .int (nI k)])), (a, .inl (cB, n, .inl f)), (h1, .inr (5, [.ref a1, .int (nI k1)])), (a1, .inl (cB, n1, .inl f1))] sz)) 0 0 (va_A [(h0, .inr (5, [.ref a, .int (nI k)])), (a, .inl (cB, n, .inl f)), (h1, .inr (5, [.ref a1, .int (nI k1)])), (a1, .inl (cB, n1, .inl f1))] sz) := by
  refine Met.ofW (cc := cX5_addAll) (maxL := 3) (ret := none) (by decide) rfl ?_
  intro p e s m args below meth cd s₁ B hml hv
  obtain ⟨rfl, hsz, hP, hK, hD0, hE⟩ := hv
  have hx := B.exec
  have hb := B.bytes
  have hr := B.returns
  have hts0 := atoms_spec (ws := .code yX5_addAll cX5_addAll 3 none :: wsL_law) B.pre
  have hts := fun (w : Cond) (h : w ∈ wsL_law) => hts0 w (List.mem_cons_of_mem _ h)
  have hown : s.vm.findClass RX5 = some m.cls := findClass_of_methodNamed B.named
  have hlocks := B.notSynchronized
  have hinX5 := inlX5
  subst hsz
  have hD := hD0.self (sz := s.heap.size)
  generalize hAe : va_A [(h0, .inr (5, [.ref a, .int (nI k)])), (a, .inl (cB, n, .inl f)), (h1, .inr (5, [.ref a1, .int (nI k1)])), (a1, .inl (cB, n1, .inl f1))] s.heap.size = A at hD hE ⊢
  have hA : ∀ q : Nat, s.heap.size ≤ q → A q := fun q h => by rw [← hAe]; exact Or.inr h
  have hS : va_S A s.heap s.heap [] := va_S.rf
  have hP : va_P D vwCl [(h0, .inr (5, [.ref a, .int (nI k)])), (a, .inl (cB, n, .inl f)), (h1, .inr (5, [.ref a1, .int (nI k1)])), (a1, .inl (cB, n1, .inl f1))] s.heap := hP
  have hl := lv_entry ([.ref h0, .ref h1]) (n := 3) (Nat.le_of_ble_eq_true rfl)
  rw [lg_entry_eq]
  generalize (lg_sl ([.ref h0, .ref h1]) ++ List.replicate (3 - (lg_sl ([.ref h0, .ref h1])).length) Slot.unset).toArray = ls at hl ⊢
  have hl : lv_has ls 3 [(0, .ref h0), (1, .ref h1)] := hl
  generalize hQ : MQ below _ _ _ _ _ _ = Q
  refine lv_iconst (v := 0) hx hb dX5_addAll_0 (by decide) ?_
  refine lv_istore_n (lv' := [(2, .int 0), (0, .ref h0), (1, .ref h1)]) hx hb dX5_addAll_1 rfl hl (by decide) rfl (fun ls hl => ?_)
  have loop_1 : ∀ (nn_3 : Nat) (i : Nat) (kk : Nat) (g : Nat → Int32), (i ≤ k1) → (kk ≤ n) → (k1 - i < nn_3) → ∀ (H : Heap) (locs : List Loc) (ls : Array Slot), va_P D vwCl [(h0, .inr (5, [.ref a, .int (nI kk)])), (a, .inl (cB, n, .inl g)), (h1, .inr (5, [.ref a1, .int (nI k1)])), (a1, .inl (cB, n1, .inl f1))] H → va_D A [(h0, .inr (5, [.ref a, .int (nI kk)])), (a, .inl (cB, n, .inl g)), (h1, .inr (5, [.ref a1, .int (nI k1)])), (a1, .inl (cB, n1, .inl f1))] → va_S A s.heap H locs → lv_has ls 3 [(0, .ref h0), (1, .ref h1), (2, .int (nI i))] → W p l e ({ frames := 2, cells := 0, slots := 0, locals := 43 } : Room) s m ([.ref h0, .ref h1] : List Value).toArray below meth cd H locs 0 0 Q (F0 m 2 ls []) := by
    intro nn_3
    induction nn_3 with
    | zero => intros; exact absurd ‹_ < 0› (Nat.not_lt_zero _)
    | succ nn_3 ih_2 =>
      intro i kk g hi hkk hmu H locs ls hP hD hS hl
      refine lv_iload_n hx hb dX5_addAll_2 rfl (lv_at hl 2 rfl) ?_
      refine lv_aload_n hx hb dX5_addAll_3 rfl (lv_at hl 1 rfl) ?_
      refine va_get (D := D) (ci := 5) (v := .int (nI k1)) (C := RX5) (T := TX5) (N := 2) hx hb hts hinX5 hown hK hP 2 rfl rfl 1 (by decide) (hts (.fieldLink RX5 21 "TaleReader$Text" "size" "I") (uc3 _ (List.mem_of_getElem? (i := 6) rfl))) (fun _ h9 => h9) rfl dX5_addAll_4 ?_
      refine lv_icmp_ge (tgt := 25) hx hb dX5_addAll_7 (by decide) (fun c_4 => ?_) (fun c_4 => ?_)
      · have hP9 := hP.sub (ws' := [(h0, .inr (5, [.ref a, .int (nI kk)])), (a, .inl (cB, n, .inl g)), (h1, .inr (5, [.ref a1, .int (nI k1)])), (a1, .inl (cB, n1, .inl f1))]) [0, 1, 2, 3] rfl
        have hD9 := hD.sub (ws' := [(h0, .inr (5, [.ref a, .int (nI kk)])), (a, .inl (cB, n, .inl g)), (h1, .inr (5, [.ref a1, .int (nI k1)])), (a1, .inl (cB, n1, .inl f1))]) [0, 1, 2, 3] (by decide) rfl
        rw [← hQ]
        exact W.vret hx hb hr (fun t ht hW => ⟨⟨(kk, g), rfl, (by first | assumption | rfl | omega), ⟨by rw [ht]; exact hP9, va_K.moved hW.alike hK, hD9⟩⟩, hS.F ht⟩) hS.2.2 dX5_addAll_25
      · have hik : i < k1 := Nat.lt_of_not_le (fun q => c_4 (nI_le q (by omega)))
        refine lv_aload_n hx hb dX5_addAll_10 rfl (lv_at hl 0 rfl) ?_
        refine lv_aload_n hx hb dX5_addAll_11 rfl (lv_at hl 1 rfl) ?_
        refine lv_iload_n hx hb dX5_addAll_12 rfl (lv_at hl 2 rfl) ?_
        have hPc := hP.sub (ws' := [(h1, .inr (5, [.ref a1, .int (nI k1)])), (a1, .inl (cB, n1, .inl f1))]) [2, 3] rfl
        have hDc := hD.sub (ws' := [(h1, .inr (5, [.ref a1, .int (nI k1)])), (a1, .inl (cB, n1, .inl f1))]) [2, 3] (by decide) rfl
        have hFc := va_free (wc := [(h1, .inr (5, [.ref a1, .int (nI k1)])), (a1, .inl (cB, n1, .inl f1))]) hD hS hA [2, 3] rfl
        refine va_calli (va_runV (As := [.int (nI i)]) (rest := [.ref h0]) ⟨hx, hb, hml, hown, hts⟩ (s_X5_signAt l D cB cI cZ E H.size h1 a1 n1 k1 f1 (nI i) (by first | assumption | omega) (by first | assumption | omega)) (cwV 1 hts (uV (uc9 _ (List.mem_of_getElem? (i := 21) rfl)) (uc9 _ (List.mem_of_getElem? (i := 22) rfl)) (uc9 _ (List.mem_of_getElem? (i := 23) rfl)) (uc1 _ (List.mem_of_getElem? (i := 14) rfl)) (uc10 _ (List.mem_of_getElem? (i := 0) rfl))) rfl rfl rfl (by decide +kernel) ⟨Nat.le_of_ble_eq_true rfl, Nat.le_of_ble_eq_true rfl⟩) (pVE hE hS hFc hK hPc hDc 0 rfl rfl) rfl rfl hl.1 rfl (lv_room (Nat.le_of_ble_eq_true rfl)) dX5_addAll_13 ⟨Nat.le_of_ble_eq_true rfl, Nat.le_of_ble_eq_true rfl⟩) hS (fun q _ h => hFc q h) hFc (fun r_5 u t H_6 L_7 ht hvm hw hB hz1 hk1 hS => ?_)
        obtain ⟨hP1, -, hD1⟩ := hB
        rw [ht] at hP1
        obtain ⟨hP, hD⟩ := va_join (wr := [(h0, .inr (5, [.ref a, .int (nI kk)])), (a, .inl (cB, n, .inl g))]) (w1 := [(h1, .inr (5, [.ref a1, .int (nI k1)])), (a1, .inl (cB, n1, .inl f1))]) hP hD [2, 3] [0, 1] rfl rfl (by decide) (by decide) hk1 hFc hP1 hD1
        have hP : va_P D vwCl [(h0, .inr (5, [.ref a, .int (nI kk)])), (a, .inl (cB, n, .inl g)), (h1, .inr (5, [.ref a1, .int (nI k1)])), (a1, .inl (cB, n1, .inl f1))] H_6 := hP.sub [0, 1, 2, 3] rfl
        have hD : va_D A [(h0, .inr (5, [.ref a, .int (nI kk)])), (a, .inl (cB, n, .inl g)), (h1, .inr (5, [.ref a1, .int (nI k1)])), (a1, .inl (cB, n1, .inl f1))] := hD.sub [0, 1, 2, 3] (by decide) rfl
        try dsimp only at hw
        have hPc := hP.sub (ws' := [(h0, .inr (5, [.ref a, .int (nI kk)])), (a, .inl (cB, n, .inl g))]) [0, 1] rfl
        have hDc := hD.sub (ws' := [(h0, .inr (5, [.ref a, .int (nI kk)])), (a, .inl (cB, n, .inl g))]) [0, 1] (by decide) rfl
        have hFc := va_free (wc := [(h0, .inr (5, [.ref a, .int (nI kk)])), (a, .inl (cB, n, .inl g))]) hD hS hA [0, 1] rfl
        refine va_callv (va_runV (As := [.int r_5]) (rest := []) ⟨hx, hb, hml, hown, hts⟩ (s_X5_addSign l D cB cI cZ E H_6.size h0 a n kk g r_5 (by first | assumption | omega) (by first | assumption | omega)) (cwV 1 hts (uV (uc8 _ (List.mem_of_getElem? (i := 5) rfl)) (uc8 _ (List.mem_of_getElem? (i := 6) rfl)) (uc8 _ (List.mem_of_getElem? (i := 7) rfl)) (uc1 _ (List.mem_of_getElem? (i := 14) rfl)) (uc8 _ (List.mem_of_getElem? (i := 8) rfl))) rfl rfl rfl (by decide +kernel) ⟨Nat.le_of_ble_eq_true rfl, Nat.le_of_ble_eq_true rfl⟩) (pVE hE hS hFc hK hPc hDc 0 rfl rfl) rfl rfl hl.1 rfl (lv_room (Nat.le_of_ble_eq_true rfl)) dX5_addAll_16 ⟨Nat.le_of_ble_eq_true rfl, Nat.le_of_ble_eq_true rfl⟩) hS (fun q _ h => hFc q h) hFc (fun u t H_9 L_10 ht hvm hw hB hz1 hk1 hS => ?_)
        obtain ⟨k_11, f_12⟩ := u
        obtain ⟨hP1, -, hD1⟩ := hB
        rw [ht] at hP1
        obtain ⟨hP, hD⟩ := va_join (wr := [(h1, .inr (5, [.ref a1, .int (nI k1)])), (a1, .inl (cB, n1, .inl f1))]) (w1 := [(h0, .inr (5, [.ref a, .int (nI k_11)])), (a, .inl (cB, n, .inl f_12))]) hP hD [0, 1] [2, 3] rfl rfl (by decide) (by decide) hk1 hFc hP1 hD1
        have hP : va_P D vwCl [(h0, .inr (5, [.ref a, .int (nI k_11)])), (a, .inl (cB, n, .inl f_12)), (h1, .inr (5, [.ref a1, .int (nI k1)])), (a1, .inl (cB, n1, .inl f1))] H_9 := hP.sub [2, 3, 0, 1] rfl
        have hD : va_D A [(h0, .inr (5, [.ref a, .int (nI k_11)])), (a, .inl (cB, n, .inl f_12)), (h1, .inr (5, [.ref a1, .int (nI k1)])), (a1, .inl (cB, n1, .inl f1))] := hD.sub [2, 3, 0, 1] (by decide) rfl
        try dsimp only at hw
        rcases hw with ⟨h_13, rfl, rfl⟩ | ⟨h_14, rfl, rfl⟩
        · refine lv_iinc (v := nI (i + 1)) (lv' := [(2, .int (nI (i + 1))), (0, .ref h0), (1, .ref h1)]) hx hb dX5_addAll_19 hl (k := 2) rfl (nI_add i 1) (by decide) rfl (fun ls hl => ?_)
          refine lv_goto (tgt := 2) hx hb dX5_addAll_22 (by decide) ?_
          exact ih_2 (i + 1) (kk + 1) (upd g kk r_5.toInt8.toInt32) (by first | assumption | exact Or.inl rfl | exact Or.inr rfl | omega) (by first | assumption | exact Or.inl rfl | exact Or.inr rfl | omega) (by omega) H_9 _ ls (hP.sub (ws' := [(h0, .inr (5, [.ref a, .int (nI (kk + 1))])), (a, .inl (cB, n, .inl (upd g kk r_5.toInt8.toInt32))), (h1, .inr (5, [.ref a1, .int (nI k1)])), (a1, .inl (cB, n1, .inl f1))]) [0, 1, 2, 3] rfl) (hD.sub (ws' := [(h0, .inr (5, [.ref a, .int (nI (kk + 1))])), (a, .inl (cB, n, .inl (upd g kk r_5.toInt8.toInt32))), (h1, .inr (5, [.ref a1, .int (nI k1)])), (a1, .inl (cB, n1, .inl f1))]) [0, 1, 2, 3] (by decide) rfl) hS (lv_sub hl [1, 2, 0] rfl)
        · refine lv_iinc (v := nI (i + 1)) (lv' := [(2, .int (nI (i + 1))), (0, .ref h0), (1, .ref h1)]) hx hb dX5_addAll_19 hl (k := 2) rfl (nI_add i 1) (by decide) rfl (fun ls hl => ?_)
          refine lv_goto (tgt := 2) hx hb dX5_addAll_22 (by decide) ?_
          exact ih_2 (i + 1) kk g (by first | assumption | exact Or.inl rfl | exact Or.inr rfl | omega) (by first | assumption | exact Or.inl rfl | exact Or.inr rfl | omega) (by omega) H_9 _ ls (hP.sub (ws' := [(h0, .inr (5, [.ref a, .int (nI kk)])), (a, .inl (cB, n, .inl g)), (h1, .inr (5, [.ref a1, .int (nI k1)])), (a1, .inl (cB, n1, .inl f1))]) [0, 1, 2, 3] rfl) (hD.sub (ws' := [(h0, .inr (5, [.ref a, .int (nI kk)])), (a, .inl (cB, n, .inl g)), (h1, .inr (5, [.ref a1, .int (nI k1)])), (a1, .inl (cB, n1, .inl f1))]) [0, 1, 2, 3] (by decide) rfl) hS (lv_sub hl [1, 2, 0] rfl)
  exact loop_1 _ 0 k f (by first | assumption | exact Or.inl rfl | exact Or.inr rfl | omega) (by first | assumption | exact Or.inl rfl | exact Or.inr rfl | omega) (Nat.lt_succ_self _) s.heap _ ls (hP.sub (ws' := [(h0, .inr (5, [.ref a, .int (nI k)])), (a, .inl (cB, n, .inl f)), (h1, .inr (5, [.ref a1, .int (nI k1)])), (a1, .inl (cB, n1, .inl f1))]) [0, 1, 2, 3] rfl) (hD.sub (ws' := [(h0, .inr (5, [.ref a, .int (nI k)])), (a, .inl (cB, n, .inl f)), (h1, .inr (5, [.ref a1, .int (nI k1)])), (a1, .inl (cB, n1, .inl f1))]) [0, 1, 2, 3] (by decide) rfl) hS (lv_sub hl [1, 2, 0] rfl)
set_option maxHeartbeats 4000000 in
set_option maxRecDepth 100000 in
theorem s_X5_lettersFrom (l : Launch) (D : va_G) (cB cI cZ : ClassId) (E : pEt) (sz : Nat) (h0 : Nat) (a : Nat) (n : Nat) (k : Nat) (f : Nat → Int32) (X : Nat) (hk : k ≤ n) (hn : n ≤ 600) (hX : X ≤ k) : Met l yX5_lettersFrom (.code yX5_lettersFrom cX5_lettersFrom 5 (some .int) :: wsL_law) ({ frames := 2, cells := 0, slots := 0, locals := 43 } : Room) (va_Pc [.ref h0, .int (nI X)] (pInE E D (pT cB cI cZ) sz [(h0, .inr (5, [.ref a, .int (nI k)])), (a, .inl (cB, n, .inl f))])) (va_Qi (fun (r : Int32) (u : Nat) => ((nI u) = r) ∧ (X + u ≤ k)) (fun (u : Nat) (t : State) => pAt D (pT cB cI cZ) (va_A [(h0, .inr (5, [.ref a, .int (nI k)])), (a, .inl (cB, n, .inl f))] sz) [(h0, .inr (5, [.ref a, .int (nI k)])), (a, .inl (cB, n, .inl f))] t) (va_A [(h0, .inr (5, [.ref a, .int (nI k)])), (a, .inl (cB, n, .inl f))] sz)) 0 0 (va_A [(h0, .inr (5, [.ref a, .int (nI k)])), (a, .inl (cB, n, .inl f))] sz) := by
  refine Met.ofW (cc := cX5_lettersFrom) (maxL := 5) (ret := (some .int)) (by decide) rfl ?_
  intro p e s m args below meth cd s₁ B hml hv
  obtain ⟨rfl, hsz, hP, hK, hD0, hE⟩ := hv
  have hx := B.exec
  have hb := B.bytes
  have hr := B.returns
  have hts0 := atoms_spec (ws := .code yX5_lettersFrom cX5_lettersFrom 5 (some .int) :: wsL_law) B.pre
  have hts := fun (w : Cond) (h : w ∈ wsL_law) => hts0 w (List.mem_cons_of_mem _ h)
  have hown : s.vm.findClass RX5 = some m.cls := findClass_of_methodNamed B.named
  have hlocks := B.notSynchronized
  have hinX5 := inlX5
  subst hsz
  have hD := hD0.self (sz := s.heap.size)
  generalize hAe : va_A [(h0, .inr (5, [.ref a, .int (nI k)])), (a, .inl (cB, n, .inl f))] s.heap.size = A at hD hE ⊢
  have hA : ∀ q : Nat, s.heap.size ≤ q → A q := fun q h => by rw [← hAe]; exact Or.inr h
  have hS : va_S A s.heap s.heap [] := va_S.rf
  have hP : va_P D vwCl [(h0, .inr (5, [.ref a, .int (nI k)])), (a, .inl (cB, n, .inl f))] s.heap := hP
  have hl := lv_entry ([.ref h0, .int (nI X)]) (n := 5) (Nat.le_of_ble_eq_true rfl)
  rw [lg_entry_eq]
  generalize (lg_sl ([.ref h0, .int (nI X)]) ++ List.replicate (5 - (lg_sl ([.ref h0, .int (nI X)])).length) Slot.unset).toArray = ls at hl ⊢
  have hl : lv_has ls 5 [(0, .ref h0), (1, .int (nI X))] := hl
  generalize hQ : MQ below _ _ _ _ _ _ = Q
  refine lv_iconst (v := 0) hx hb dX5_lettersFrom_0 (by decide) ?_
  refine lv_istore_n (lv' := [(2, .int 0), (0, .ref h0), (1, .int (nI X))]) hx hb dX5_lettersFrom_1 rfl hl (by decide) rfl (fun ls hl => ?_)
  refine lv_iload_n hx hb dX5_lettersFrom_2 rfl (lv_at hl 2 rfl) ?_
  refine lv_istore_n (lv' := [(3, .int (nI X)), (2, .int 0), (0, .ref h0), (1, .int (nI X))]) hx hb dX5_lettersFrom_3 rfl hl (by decide) rfl (fun ls hl => ?_)
  have loop_1 : ∀ (nn_3 : Nat) (L : Nat), (X + L ≤ k) → (k - (X + L) < nn_3) → ∀ (H : Heap) (locs : List Loc) (ls : Array Slot), va_P D vwCl [(h0, .inr (5, [.ref a, .int (nI k)])), (a, .inl (cB, n, .inl f))] H → va_D A [(h0, .inr (5, [.ref a, .int (nI k)])), (a, .inl (cB, n, .inl f))] → va_S A s.heap H locs → lv_has ls 5 [(0, .ref h0), (1, .int (nI X)), (2, .int (nI L)), (3, .int (nI (X + L)))] → W p l e ({ frames := 2, cells := 0, slots := 0, locals := 43 } : Room) s m ([.ref h0, .int (nI X)] : List Value).toArray below meth cd H locs 0 0 Q (F0 m 4 ls []) := by
    intro nn_3
    induction nn_3 with
    | zero => intros; exact absurd ‹_ < 0› (Nat.not_lt_zero _)
    | succ nn_3 ih_2 =>
      intro L hL hmu H locs ls hP hD hS hl
      refine lv_iload_n hx hb dX5_lettersFrom_4 rfl (lv_at hl 3 rfl) ?_
      refine lv_aload_n hx hb dX5_lettersFrom_5 rfl (lv_at hl 0 rfl) ?_
      refine va_get (D := D) (ci := 5) (v := .int (nI k)) (C := RX5) (T := TX5) (N := 2) hx hb hts hinX5 hown hK hP 0 rfl rfl 1 (by decide) (hts (.fieldLink RX5 21 "TaleReader$Text" "size" "I") (uc3 _ (List.mem_of_getElem? (i := 6) rfl))) (fun _ h9 => h9) rfl dX5_lettersFrom_6 ?_
      refine lv_icmp_ge (tgt := 47) hx hb dX5_lettersFrom_9 (by decide) (fun c_4 => ?_) (fun c_4 => ?_)
      · refine lv_iload_n hx hb dX5_lettersFrom_47 rfl (lv_at hl 2 rfl) ?_
        have hP9 := hP.sub (ws' := [(h0, .inr (5, [.ref a, .int (nI k)])), (a, .inl (cB, n, .inl f))]) [0, 1] rfl
        have hD9 := hD.sub (ws' := [(h0, .inr (5, [.ref a, .int (nI k)])), (a, .inl (cB, n, .inl f))]) [0, 1] (by decide) rfl
        rw [← hQ]
        exact W.iret (v := nI L) hx hb hr (fun t ht hW => ⟨⟨nI L, L, rfl, ⟨rfl, hL⟩, ⟨by rw [ht]; exact hP9, va_K.moved hW.alike hK, hD9⟩⟩, hS.F ht⟩) hS.2.2 dX5_lettersFrom_48
      · have hlt : X + L < k := Nat.lt_of_not_le (fun q => c_4 (nI_le q (by omega)))
        refine lv_aload_n hx hb dX5_lettersFrom_12 rfl (lv_at hl 0 rfl) ?_
        refine lv_iload_n hx hb dX5_lettersFrom_13 rfl (lv_at hl 3 rfl) ?_
        have hPc := hP.sub (ws' := [(h0, .inr (5, [.ref a, .int (nI k)])), (a, .inl (cB, n, .inl f))]) [0, 1] rfl
        have hDc := hD.sub (ws' := [(h0, .inr (5, [.ref a, .int (nI k)])), (a, .inl (cB, n, .inl f))]) [0, 1] (by decide) rfl
        have hFc := va_free (wc := [(h0, .inr (5, [.ref a, .int (nI k)])), (a, .inl (cB, n, .inl f))]) hD hS hA [0, 1] rfl
        refine va_calli (va_runV (As := [.int (nI (X + L))]) (rest := []) ⟨hx, hb, hml, hown, hts⟩ (s_X5_signAt l D cB cI cZ E H.size h0 a n k f (nI (X + L)) (by first | assumption | omega) (by first | assumption | omega)) (cwV 1 hts (uV (uc9 _ (List.mem_of_getElem? (i := 21) rfl)) (uc9 _ (List.mem_of_getElem? (i := 22) rfl)) (uc9 _ (List.mem_of_getElem? (i := 23) rfl)) (uc1 _ (List.mem_of_getElem? (i := 14) rfl)) (uc10 _ (List.mem_of_getElem? (i := 0) rfl))) rfl rfl rfl (by decide +kernel) ⟨Nat.le_of_ble_eq_true rfl, Nat.le_of_ble_eq_true rfl⟩) (pVE hE hS hFc hK hPc hDc 0 rfl rfl) rfl rfl hl.1 rfl (lv_room (Nat.le_of_ble_eq_true rfl)) dX5_lettersFrom_14 ⟨Nat.le_of_ble_eq_true rfl, Nat.le_of_ble_eq_true rfl⟩) hS (fun q _ h => hFc q h) hFc (fun r_5 u t H_6 L_7 ht hvm hw hB hz1 hk1 hS => ?_)
        obtain ⟨hP1, -, hD1⟩ := hB
        rw [ht] at hP1
        obtain ⟨hP, hD⟩ := va_join (wr := []) (w1 := [(h0, .inr (5, [.ref a, .int (nI k)])), (a, .inl (cB, n, .inl f))]) hP hD [0, 1] [] rfl rfl (by decide) (by decide) hk1 hFc hP1 hD1
        have hP : va_P D vwCl [(h0, .inr (5, [.ref a, .int (nI k)])), (a, .inl (cB, n, .inl f))] H_6 := hP.sub [0, 1] rfl
        have hD : va_D A [(h0, .inr (5, [.ref a, .int (nI k)])), (a, .inl (cB, n, .inl f))] := hD.sub [0, 1] (by decide) rfl
        try dsimp only at hw
        refine lv_istore (lv' := [(4, .int r_5), (0, .ref h0), (1, .int (nI X)), (2, .int (nI L)), (3, .int (nI (X + L)))]) hx hb dX5_lettersFrom_17 hl (by decide) rfl (fun ls hl => ?_)
        refine lv_iload hx hb dX5_lettersFrom_19 (lv_at hl 0 rfl) ?_
        have hPc := hP.sub (ws' := []) [] rfl
        have hDc := hD.sub (ws' := []) [] (by decide) rfl
        have hFc := va_free (wc := []) hD hS hA [] rfl
        refine va_calli (va_runSN (As := [.int r_5]) (rest := []) ⟨hx, hb, hml, hown, hts⟩ (s_isSmall l D cB cI cZ E H_6.size r_5) ⟨va_cnB 1 hts (uI (uc10 _ (List.mem_of_getElem? (i := 16) rfl))) rfl rfl rfl (pN_RX5_37 hE) (hts (.initialized RX8) (uc1 _ (List.mem_of_getElem? (i := 2) rfl))) (by decide +kernel) ⟨Nat.le_of_ble_eq_true rfl, Nat.le_of_ble_eq_true rfl⟩, (hts (.static yX8_isSmall) (uc10 _ (List.mem_of_getElem? (i := 15) rfl))), trivial⟩ (pSE hE hS hFc hK hPc hDc) rfl rfl hl.1 rfl (lv_room (Nat.le_of_ble_eq_true rfl)) dX5_lettersFrom_21 ⟨Nat.le_of_ble_eq_true rfl, Nat.le_of_ble_eq_true rfl⟩) hS (fun q _ h => hFc q h) hFc (fun r_8 u t H_9 L_10 ht hvm hw hB hz1 hk1 hS => ?_)
        obtain ⟨hP1, -, hD1⟩ := hB
        rw [ht] at hP1
        obtain ⟨hP, hD⟩ := va_join (wr := [(h0, .inr (5, [.ref a, .int (nI k)])), (a, .inl (cB, n, .inl f))]) (w1 := []) hP hD [] [0, 1] rfl rfl (by decide) (by decide) hk1 hFc hP1 hD1
        have hP : va_P D vwCl [(h0, .inr (5, [.ref a, .int (nI k)])), (a, .inl (cB, n, .inl f))] H_9 := hP.sub [0, 1] rfl
        have hD : va_D A [(h0, .inr (5, [.ref a, .int (nI k)])), (a, .inl (cB, n, .inl f))] := hD.sub [0, 1] (by decide) rfl
        try dsimp only at hw
        rcases hw with ⟨rfl, h_11⟩ | ⟨rfl, h_12, h_13⟩
        · refine lv_if_ne (tgt := 38) hx hb dX5_lettersFrom_24 (by decide) (fun c_14 => ?_) (fun c_14 => ?_)
          · exact False.elim (by revert c_14; decide)
          · refine lv_iload hx hb dX5_lettersFrom_27 (lv_at hl 0 rfl) ?_
            have hPc := hP.sub (ws' := []) [] rfl
            have hDc := hD.sub (ws' := []) [] (by decide) rfl
            have hFc := va_free (wc := []) hD hS hA [] rfl
            refine va_calli (va_runSN (As := [.int r_5]) (rest := []) ⟨hx, hb, hml, hown, hts⟩ (s_isCapital l D cB cI cZ E H_9.size r_5) ⟨va_cnB 1 hts (uI (uc10 _ (List.mem_of_getElem? (i := 18) rfl))) rfl rfl rfl (pN_RX5_41 hE) (hts (.initialized RX8) (uc1 _ (List.mem_of_getElem? (i := 2) rfl))) (by decide +kernel) ⟨Nat.le_of_ble_eq_true rfl, Nat.le_of_ble_eq_true rfl⟩, (hts (.static yX8_isCapital) (uc10 _ (List.mem_of_getElem? (i := 17) rfl))), trivial⟩ (pSE hE hS hFc hK hPc hDc) rfl rfl hl.1 rfl (lv_room (Nat.le_of_ble_eq_true rfl)) dX5_lettersFrom_29 ⟨Nat.le_of_ble_eq_true rfl, Nat.le_of_ble_eq_true rfl⟩) hS (fun q _ h => hFc q h) hFc (fun r_15 u t H_16 L_17 ht hvm hw hB hz1 hk1 hS => ?_)
            obtain ⟨hP1, -, hD1⟩ := hB
            rw [ht] at hP1
            obtain ⟨hP, hD⟩ := va_join (wr := [(h0, .inr (5, [.ref a, .int (nI k)])), (a, .inl (cB, n, .inl f))]) (w1 := []) hP hD [] [0, 1] rfl rfl (by decide) (by decide) hk1 hFc hP1 hD1
            have hP : va_P D vwCl [(h0, .inr (5, [.ref a, .int (nI k)])), (a, .inl (cB, n, .inl f))] H_16 := hP.sub [0, 1] rfl
            have hD : va_D A [(h0, .inr (5, [.ref a, .int (nI k)])), (a, .inl (cB, n, .inl f))] := hD.sub [0, 1] (by decide) rfl
            try dsimp only at hw
            rcases hw with ⟨rfl, h_18⟩ | ⟨rfl, h_19, h_20⟩
            · refine lv_if_ne (tgt := 38) hx hb dX5_lettersFrom_32 (by decide) (fun c_21 => ?_) (fun c_21 => ?_)
              · exact False.elim (by revert c_21; decide)
              · refine lv_goto (tgt := 47) hx hb dX5_lettersFrom_35 (by decide) ?_
                refine lv_iload_n hx hb dX5_lettersFrom_47 rfl (lv_at hl 3 rfl) ?_
                have hP9 := hP.sub (ws' := [(h0, .inr (5, [.ref a, .int (nI k)])), (a, .inl (cB, n, .inl f))]) [0, 1] rfl
                have hD9 := hD.sub (ws' := [(h0, .inr (5, [.ref a, .int (nI k)])), (a, .inl (cB, n, .inl f))]) [0, 1] (by decide) rfl
                rw [← hQ]
                exact W.iret (v := nI L) hx hb hr (fun t ht hW => ⟨⟨nI L, L, rfl, ⟨rfl, hL⟩, ⟨by rw [ht]; exact hP9, va_K.moved hW.alike hK, hD9⟩⟩, hS.F ht⟩) hS.2.2 dX5_lettersFrom_48
            · refine lv_if_ne (tgt := 38) hx hb dX5_lettersFrom_32 (by decide) (fun c_22 => ?_) (fun c_22 => ?_)
              · refine lv_iinc (v := nI (L + 1)) (lv' := [(2, .int (nI (L + 1))), (4, .int r_5), (0, .ref h0), (1, .int (nI X)), (3, .int (nI (X + L)))]) hx hb dX5_lettersFrom_38 hl (k := 3) rfl (nI_add L 1) (by decide) rfl (fun ls hl => ?_)
                refine lv_iinc (v := nI (X + L + 1)) (lv' := [(3, .int (nI (X + L + 1))), (2, .int (nI (L + 1))), (4, .int r_5), (0, .ref h0), (1, .int (nI X))]) hx hb dX5_lettersFrom_41 hl (k := 4) rfl (nI_add (X + L) 1) (by decide) rfl (fun ls hl => ?_)
                refine lv_goto (tgt := 4) hx hb dX5_lettersFrom_44 (by decide) ?_
                exact ih_2 (L + 1) (by first | assumption | exact Or.inl rfl | exact Or.inr rfl | omega) (by omega) H_16 _ ls (hP.sub (ws' := [(h0, .inr (5, [.ref a, .int (nI k)])), (a, .inl (cB, n, .inl f))]) [0, 1] rfl) (hD.sub (ws' := [(h0, .inr (5, [.ref a, .int (nI k)])), (a, .inl (cB, n, .inl f))]) [0, 1] (by decide) rfl) hS (lv_sub hl [3, 4, 1, 0] rfl)
              · exact False.elim (by revert c_22; decide)
        · refine lv_if_ne (tgt := 38) hx hb dX5_lettersFrom_24 (by decide) (fun c_23 => ?_) (fun c_23 => ?_)
          · refine lv_iinc (v := nI (L + 1)) (lv' := [(2, .int (nI (L + 1))), (4, .int r_5), (0, .ref h0), (1, .int (nI X)), (3, .int (nI (X + L)))]) hx hb dX5_lettersFrom_38 hl (k := 3) rfl (nI_add L 1) (by decide) rfl (fun ls hl => ?_)
            refine lv_iinc (v := nI (X + L + 1)) (lv' := [(3, .int (nI (X + L + 1))), (2, .int (nI (L + 1))), (4, .int r_5), (0, .ref h0), (1, .int (nI X))]) hx hb dX5_lettersFrom_41 hl (k := 4) rfl (nI_add (X + L) 1) (by decide) rfl (fun ls hl => ?_)
            refine lv_goto (tgt := 4) hx hb dX5_lettersFrom_44 (by decide) ?_
            exact ih_2 (L + 1) (by first | assumption | exact Or.inl rfl | exact Or.inr rfl | omega) (by omega) H_9 _ ls (hP.sub (ws' := [(h0, .inr (5, [.ref a, .int (nI k)])), (a, .inl (cB, n, .inl f))]) [0, 1] rfl) (hD.sub (ws' := [(h0, .inr (5, [.ref a, .int (nI k)])), (a, .inl (cB, n, .inl f))]) [0, 1] (by decide) rfl) hS (lv_sub hl [3, 4, 1, 0] rfl)
          · exact False.elim (by revert c_23; decide)
  exact loop_1 _ 0 (by first | assumption | exact Or.inl rfl | exact Or.inr rfl | omega) (Nat.lt_succ_self _) s.heap _ ls (hP.sub (ws' := [(h0, .inr (5, [.ref a, .int (nI k)])), (a, .inl (cB, n, .inl f))]) [0, 1] rfl) (hD.sub (ws' := [(h0, .inr (5, [.ref a, .int (nI k)])), (a, .inl (cB, n, .inl f))]) [0, 1] (by decide) rfl) hS (lv_sub hl [2, 3, 1, 0] rfl)
set_option maxHeartbeats 4000000 in
set_option maxRecDepth 100000 in
theorem s_X5_looksLikeName (l : Launch) (D : va_G) (cB cI cZ : ClassId) (E : pEt) (sz : Nat) (h0 : Nat) (a : Nat) (n : Nat) (k : Nat) (f : Nat → Int32) (x : Int32) (y : Int32) (hk : k ≤ n) (hn : n ≤ 600) : Met l yX5_looksLikeName (.code yX5_looksLikeName cX5_looksLikeName 4 (some .boolean) :: wsL_law) ({ frames := 1, cells := 0, slots := 0, locals := 22 } : Room) (va_Pc [.ref h0, .int x, .int y] (pInE E D (pT cB cI cZ) sz [(h0, .inr (5, [.ref a, .int (nI k)])), (a, .inl (cB, n, .inl f))])) (va_Qi (fun (r : Int32) (u : Unit) => True) (fun (u : Unit) (t : State) => pAt D (pT cB cI cZ) (va_A [(h0, .inr (5, [.ref a, .int (nI k)])), (a, .inl (cB, n, .inl f))] sz) [(h0, .inr (5, [.ref a, .int (nI k)])), (a, .inl (cB, n, .inl f))] t) (va_A [(h0, .inr (5, [.ref a, .int (nI k)])), (a, .inl (cB, n, .inl f))] sz)) 0 0 (va_A [(h0, .inr (5, [.ref a, .int (nI k)])), (a, .inl (cB, n, .inl f))] sz) := by
  refine Met.ofW (cc := cX5_looksLikeName) (maxL := 4) (ret := (some .boolean)) (by decide) rfl ?_
  intro p e s m args below meth cd s₁ B hml hv
  obtain ⟨rfl, hsz, hP, hK, hD0, hE⟩ := hv
  have hx := B.exec
  have hb := B.bytes
  have hr := B.returns
  have hts0 := atoms_spec (ws := .code yX5_looksLikeName cX5_looksLikeName 4 (some .boolean) :: wsL_law) B.pre
  have hts := fun (w : Cond) (h : w ∈ wsL_law) => hts0 w (List.mem_cons_of_mem _ h)
  have hown : s.vm.findClass RX5 = some m.cls := findClass_of_methodNamed B.named
  have hlocks := B.notSynchronized
  have hinX5 := inlX5
  subst hsz
  have hD := hD0.self (sz := s.heap.size)
  generalize hAe : va_A [(h0, .inr (5, [.ref a, .int (nI k)])), (a, .inl (cB, n, .inl f))] s.heap.size = A at hD hE ⊢
  have hA : ∀ q : Nat, s.heap.size ≤ q → A q := fun q h => by rw [← hAe]; exact Or.inr h
  have hS : va_S A s.heap s.heap [] := va_S.rf
  have hP : va_P D vwCl [(h0, .inr (5, [.ref a, .int (nI k)])), (a, .inl (cB, n, .inl f))] s.heap := hP
  have hl := lv_entry ([.ref h0, .int x, .int y]) (n := 4) (Nat.le_of_ble_eq_true rfl)
  rw [lg_entry_eq]
  generalize (lg_sl ([.ref h0, .int x, .int y]) ++ List.replicate (4 - (lg_sl ([.ref h0, .int x, .int y])).length) Slot.unset).toArray = ls at hl ⊢
  have hl : lv_has ls 4 [(0, .ref h0), (1, .int x), (2, .int y)] := hl
  generalize hQ : MQ below _ _ _ _ _ _ = Q
  refine lv_iload_n hx hb dX5_looksLikeName_0 rfl (lv_at hl 2 rfl) ?_
  refine lv_iconst (v := 2) hx hb dX5_looksLikeName_1 (by decide) ?_
  refine lv_icmp_lt (tgt := 20) hx hb dX5_looksLikeName_2 (by decide) (fun c_1 => ?_) (fun c_1 => ?_)
  · refine lv_iconst (v := 0) hx hb dX5_looksLikeName_20 (by decide) ?_
    have hP9 := hP.sub (ws' := [(h0, .inr (5, [.ref a, .int (nI k)])), (a, .inl (cB, n, .inl f))]) [0, 1] rfl
    have hD9 := hD.sub (ws' := [(h0, .inr (5, [.ref a, .int (nI k)])), (a, .inl (cB, n, .inl f))]) [0, 1] (by decide) rfl
    rw [← hQ]
    exact W.zret (v := 0) hx hb hr (rfl) (fun t ht hW => ⟨⟨0, (), rfl, trivial, ⟨by rw [ht]; exact hP9, va_K.moved hW.alike hK, hD9⟩⟩, hS.F ht⟩) hS.2.2 dX5_looksLikeName_21
  · refine lv_iload_n hx hb dX5_looksLikeName_5 rfl (lv_at hl 2 rfl) ?_
    refine lv_bipush (v := 10) hx hb dX5_looksLikeName_6 (by decide) ?_
    refine lv_icmp_gt (tgt := 20) hx hb dX5_looksLikeName_8 (by decide) (fun c_2 => ?_) (fun c_2 => ?_)
    · refine lv_iconst (v := 0) hx hb dX5_looksLikeName_20 (by decide) ?_
      have hP9 := hP.sub (ws' := [(h0, .inr (5, [.ref a, .int (nI k)])), (a, .inl (cB, n, .inl f))]) [0, 1] rfl
      have hD9 := hD.sub (ws' := [(h0, .inr (5, [.ref a, .int (nI k)])), (a, .inl (cB, n, .inl f))]) [0, 1] (by decide) rfl
      rw [← hQ]
      exact W.zret (v := 0) hx hb hr (rfl) (fun t ht hW => ⟨⟨0, (), rfl, trivial, ⟨by rw [ht]; exact hP9, va_K.moved hW.alike hK, hD9⟩⟩, hS.F ht⟩) hS.2.2 dX5_looksLikeName_21
    · refine lv_aload_n hx hb dX5_looksLikeName_11 rfl (lv_at hl 0 rfl) ?_
      refine lv_iload_n hx hb dX5_looksLikeName_12 rfl (lv_at hl 1 rfl) ?_
      refine lv_iload_n hx hb dX5_looksLikeName_13 rfl (lv_at hl 2 rfl) ?_
      have hPc := hP.sub (ws' := [(h0, .inr (5, [.ref a, .int (nI k)]))]) [0] rfl
      have hDc := hD.sub (ws' := [(h0, .inr (5, [.ref a, .int (nI k)]))]) [0] (by decide) rfl
      have hFc := va_free (wc := [(h0, .inr (5, [.ref a, .int (nI k)]))]) hD hS hA [0] rfl
      refine va_calli (va_runV (As := [.int x, .int y]) (rest := []) ⟨hx, hb, hml, hown, hts⟩ (s_X5_holds l D cB cI cZ E s.heap.size h0 a k x y (by first | assumption | omega)) (cwV 2 hts (uV (uc10 _ (List.mem_of_getElem? (i := 1) rfl)) (uc10 _ (List.mem_of_getElem? (i := 2) rfl)) (uc10 _ (List.mem_of_getElem? (i := 3) rfl)) (uc1 _ (List.mem_of_getElem? (i := 14) rfl)) (uc10 _ (List.mem_of_getElem? (i := 4) rfl))) rfl rfl rfl (by decide +kernel) ⟨Nat.le_of_ble_eq_true rfl, Nat.le_of_ble_eq_true rfl⟩) (pVE hE hS hFc hK hPc hDc 0 rfl rfl) rfl rfl hl.1 rfl (lv_room (Nat.le_of_ble_eq_true rfl)) dX5_looksLikeName_14 ⟨Nat.le_of_ble_eq_true rfl, Nat.le_of_ble_eq_true rfl⟩) hS (fun q _ h => hFc q h) hFc (fun r_3 u t H_4 L_5 ht hvm hw hB hz1 hk1 hS => ?_)
      obtain ⟨hP1, -, hD1⟩ := hB
      rw [ht] at hP1
      obtain ⟨hP, hD⟩ := va_join (wr := [(a, .inl (cB, n, .inl f))]) (w1 := [(h0, .inr (5, [.ref a, .int (nI k)]))]) hP hD [0] [1] rfl rfl (by decide) (by decide) hk1 hFc hP1 hD1
      have hP : va_P D vwCl [(h0, .inr (5, [.ref a, .int (nI k)])), (a, .inl (cB, n, .inl f))] H_4 := hP.sub [1, 0] rfl
      have hD : va_D A [(h0, .inr (5, [.ref a, .int (nI k)])), (a, .inl (cB, n, .inl f))] := hD.sub [1, 0] (by decide) rfl
      try dsimp only at hw
      rcases hw with ⟨rfl, h_6⟩ | ⟨rfl, h_7⟩
      · obtain ⟨X, Y, rfl, rfl, hXY⟩ := h_6
        refine lv_if_ne (tgt := 22) hx hb dX5_looksLikeName_17 (by decide) (fun c_8 => ?_) (fun c_8 => ?_)
        · refine lv_aload_n hx hb dX5_looksLikeName_22 rfl (lv_at hl 0 rfl) ?_
          refine va_get (D := D) (ci := 5) (v := .ref a) (C := RX5) (T := TX5) (N := 2) hx hb hts hinX5 hown hK hP 0 rfl rfl 0 (by decide) (hts (.fieldLink RX5 15 "TaleReader$Text" "signs" "[B") (uc3 _ (List.mem_of_getElem? (i := 5) rfl))) (fun _ h9 => h9) rfl dX5_looksLikeName_23 ?_
          refine lv_iload_n hx hb dX5_looksLikeName_26 rfl (lv_at hl 1 rfl) ?_
          refine va_bald (D := D) hx hb hK hP 1 0 rfl rfl (pY2 c_1 hXY ⟨hk, hn⟩) dX5_looksLikeName_27 ?_
          refine lv_topi (fun z_9 ez_9 => ?_)
          obtain rfl : z_9 = f X := ez_9.trans (congrArg f (nI_clamp (by omega)))
          have hPc := hP.sub (ws' := []) [] rfl
          have hDc := hD.sub (ws' := []) [] (by decide) rfl
          have hFc := va_free (wc := []) hD hS hA [] rfl
          refine va_calli (va_runSN (As := [.int (f X)]) (rest := []) ⟨hx, hb, hml, hown, hts⟩ (s_isCapital l D cB cI cZ E H_4.size (f X)) ⟨va_cnB 1 hts (uI (uc10 _ (List.mem_of_getElem? (i := 18) rfl))) rfl rfl rfl (pN_RX5_41 hE) (hts (.initialized RX8) (uc1 _ (List.mem_of_getElem? (i := 2) rfl))) (by decide +kernel) ⟨Nat.le_of_ble_eq_true rfl, Nat.le_of_ble_eq_true rfl⟩, (hts (.static yX8_isCapital) (uc10 _ (List.mem_of_getElem? (i := 17) rfl))), trivial⟩ (pSE hE hS hFc hK hPc hDc) rfl rfl hl.1 rfl (lv_room (Nat.le_of_ble_eq_true rfl)) dX5_looksLikeName_28 ⟨Nat.le_of_ble_eq_true rfl, Nat.le_of_ble_eq_true rfl⟩) hS (fun q _ h => hFc q h) hFc (fun r_10 u t H_11 L_12 ht hvm hw hB hz1 hk1 hS => ?_)
          obtain ⟨hP1, -, hD1⟩ := hB
          rw [ht] at hP1
          obtain ⟨hP, hD⟩ := va_join (wr := [(h0, .inr (5, [.ref a, .int (nI k)])), (a, .inl (cB, n, .inl f))]) (w1 := []) hP hD [] [0, 1] rfl rfl (by decide) (by decide) hk1 hFc hP1 hD1
          have hP : va_P D vwCl [(h0, .inr (5, [.ref a, .int (nI k)])), (a, .inl (cB, n, .inl f))] H_11 := hP.sub [0, 1] rfl
          have hD : va_D A [(h0, .inr (5, [.ref a, .int (nI k)])), (a, .inl (cB, n, .inl f))] := hD.sub [0, 1] (by decide) rfl
          try dsimp only at hw
          rcases hw with ⟨rfl, h_13⟩ | ⟨rfl, h_14, h_15⟩
          · refine lv_if_ne (tgt := 36) hx hb dX5_looksLikeName_31 (by decide) (fun c_16 => ?_) (fun c_16 => ?_)
            · exact False.elim (by revert c_16; decide)
            · refine lv_iconst (v := 0) hx hb dX5_looksLikeName_34 (by decide) ?_
              have hP9 := hP.sub (ws' := [(h0, .inr (5, [.ref a, .int (nI k)])), (a, .inl (cB, n, .inl f))]) [0, 1] rfl
              have hD9 := hD.sub (ws' := [(h0, .inr (5, [.ref a, .int (nI k)])), (a, .inl (cB, n, .inl f))]) [0, 1] (by decide) rfl
              rw [← hQ]
              exact W.zret (v := 0) hx hb hr (rfl) (fun t ht hW => ⟨⟨0, (), rfl, trivial, ⟨by rw [ht]; exact hP9, va_K.moved hW.alike hK, hD9⟩⟩, hS.F ht⟩) hS.2.2 dX5_looksLikeName_35
          · refine lv_if_ne (tgt := 36) hx hb dX5_looksLikeName_31 (by decide) (fun c_17 => ?_) (fun c_17 => ?_)
            · refine lv_iconst (v := 1) hx hb dX5_looksLikeName_36 (by decide) ?_
              refine lv_istore_n (lv' := [(3, .int 1), (0, .ref h0), (1, .int (nI X)), (2, .int (nI Y))]) hx hb dX5_looksLikeName_37 rfl hl (by decide) rfl (fun ls hl => ?_)
              have loop_18 : ∀ (nn_20 : Nat) (i : Nat), (1 ≤ i) → (i ≤ Y + 1) → (Y - i < nn_20) → ∀ (H : Heap) (locs : List Loc) (ls : Array Slot), va_P D vwCl [(h0, .inr (5, [.ref a, .int (nI k)])), (a, .inl (cB, n, .inl f))] H → va_D A [(h0, .inr (5, [.ref a, .int (nI k)])), (a, .inl (cB, n, .inl f))] → va_S A s.heap H locs → lv_has ls 4 [(0, .ref h0), (1, .int (nI X)), (2, .int (nI Y)), (3, .int (nI i))] → W p l e ({ frames := 1, cells := 0, slots := 0, locals := 22 } : Room) s m ([.ref h0, .int (nI X), .int (nI Y)] : List Value).toArray below meth cd H locs 0 0 Q (F0 m 38 ls []) := by
                intro nn_20
                induction nn_20 with
                | zero => intros; exact absurd ‹_ < 0› (Nat.not_lt_zero _)
                | succ nn_20 ih_19 =>
                  intro i hi hi2 hmu H locs ls hP hD hS hl
                  refine lv_iload_n hx hb dX5_looksLikeName_38 rfl (lv_at hl 3 rfl) ?_
                  refine lv_iload_n hx hb dX5_looksLikeName_39 rfl (lv_at hl 2 rfl) ?_
                  refine lv_icmp_ge (tgt := 65) hx hb dX5_looksLikeName_40 (by decide) (fun c_21 => ?_) (fun c_21 => ?_)
                  · refine lv_iconst (v := 1) hx hb dX5_looksLikeName_65 (by decide) ?_
                    have hP9 := hP.sub (ws' := [(h0, .inr (5, [.ref a, .int (nI k)])), (a, .inl (cB, n, .inl f))]) [0, 1] rfl
                    have hD9 := hD.sub (ws' := [(h0, .inr (5, [.ref a, .int (nI k)])), (a, .inl (cB, n, .inl f))]) [0, 1] (by decide) rfl
                    rw [← hQ]
                    exact W.zret (v := 1) hx hb hr (rfl) (fun t ht hW => ⟨⟨1, (), rfl, trivial, ⟨by rw [ht]; exact hP9, va_K.moved hW.alike hK, hD9⟩⟩, hS.F ht⟩) hS.2.2 dX5_looksLikeName_66
                  · have hiY : i < Y := Nat.lt_of_not_le (fun q => c_21 (nI_le q (by omega)))
                    refine lv_aload_n hx hb dX5_looksLikeName_43 rfl (lv_at hl 0 rfl) ?_
                    refine va_get (D := D) (ci := 5) (v := .ref a) (C := RX5) (T := TX5) (N := 2) hx hb hts hinX5 hown hK hP 0 rfl rfl 0 (by decide) (hts (.fieldLink RX5 15 "TaleReader$Text" "signs" "[B") (uc3 _ (List.mem_of_getElem? (i := 5) rfl))) (fun _ h9 => h9) rfl dX5_looksLikeName_44 ?_
                    refine lv_iload_n hx hb dX5_looksLikeName_47 rfl (lv_at hl 1 rfl) ?_
                    refine lv_iload_n hx hb dX5_looksLikeName_48 rfl (lv_at hl 3 rfl) ?_
                    refine lv_iadd hx hb dX5_looksLikeName_49 ?_
                    refine lv_topi (fun z_22 ez_22 => ?_)
                    obtain rfl : z_22 = nI (X + i) := ez_22.trans (nI_add X i)
                    refine va_bald (D := D) hx hb hK hP 1 0 rfl rfl (vp_in_nI (by omega) (by omega)) dX5_looksLikeName_50 ?_
                    refine lv_topi (fun z_23 ez_23 => ?_)
                    obtain rfl : z_23 = f (X + i) := ez_23.trans (congrArg f (nI_clamp (by omega)))
                    have hPc := hP.sub (ws' := []) [] rfl
                    have hDc := hD.sub (ws' := []) [] (by decide) rfl
                    have hFc := va_free (wc := []) hD hS hA [] rfl
                    refine va_calli (va_runSN (As := [.int (f (X + i))]) (rest := []) ⟨hx, hb, hml, hown, hts⟩ (s_isSmall l D cB cI cZ E H.size (f (X + i))) ⟨va_cnB 1 hts (uI (uc10 _ (List.mem_of_getElem? (i := 16) rfl))) rfl rfl rfl (pN_RX5_37 hE) (hts (.initialized RX8) (uc1 _ (List.mem_of_getElem? (i := 2) rfl))) (by decide +kernel) ⟨Nat.le_of_ble_eq_true rfl, Nat.le_of_ble_eq_true rfl⟩, (hts (.static yX8_isSmall) (uc10 _ (List.mem_of_getElem? (i := 15) rfl))), trivial⟩ (pSE hE hS hFc hK hPc hDc) rfl rfl hl.1 rfl (lv_room (Nat.le_of_ble_eq_true rfl)) dX5_looksLikeName_51 ⟨Nat.le_of_ble_eq_true rfl, Nat.le_of_ble_eq_true rfl⟩) hS (fun q _ h => hFc q h) hFc (fun r_24 u t H_25 L_26 ht hvm hw hB hz1 hk1 hS => ?_)
                    obtain ⟨hP1, -, hD1⟩ := hB
                    rw [ht] at hP1
                    obtain ⟨hP, hD⟩ := va_join (wr := [(h0, .inr (5, [.ref a, .int (nI k)])), (a, .inl (cB, n, .inl f))]) (w1 := []) hP hD [] [0, 1] rfl rfl (by decide) (by decide) hk1 hFc hP1 hD1
                    have hP : va_P D vwCl [(h0, .inr (5, [.ref a, .int (nI k)])), (a, .inl (cB, n, .inl f))] H_25 := hP.sub [0, 1] rfl
                    have hD : va_D A [(h0, .inr (5, [.ref a, .int (nI k)])), (a, .inl (cB, n, .inl f))] := hD.sub [0, 1] (by decide) rfl
                    try dsimp only at hw
                    rcases hw with ⟨rfl, h_27⟩ | ⟨rfl, h_28, h_29⟩
                    · refine lv_if_ne (tgt := 59) hx hb dX5_looksLikeName_54 (by decide) (fun c_30 => ?_) (fun c_30 => ?_)
                      · exact False.elim (by revert c_30; decide)
                      · refine lv_iconst (v := 0) hx hb dX5_looksLikeName_57 (by decide) ?_
                        have hP9 := hP.sub (ws' := [(h0, .inr (5, [.ref a, .int (nI k)])), (a, .inl (cB, n, .inl f))]) [0, 1] rfl
                        have hD9 := hD.sub (ws' := [(h0, .inr (5, [.ref a, .int (nI k)])), (a, .inl (cB, n, .inl f))]) [0, 1] (by decide) rfl
                        rw [← hQ]
                        exact W.zret (v := 0) hx hb hr (rfl) (fun t ht hW => ⟨⟨0, (), rfl, trivial, ⟨by rw [ht]; exact hP9, va_K.moved hW.alike hK, hD9⟩⟩, hS.F ht⟩) hS.2.2 dX5_looksLikeName_58
                    · refine lv_if_ne (tgt := 59) hx hb dX5_looksLikeName_54 (by decide) (fun c_31 => ?_) (fun c_31 => ?_)
                      · refine lv_iinc (v := nI (i + 1)) (lv' := [(3, .int (nI (i + 1))), (0, .ref h0), (1, .int (nI X)), (2, .int (nI Y))]) hx hb dX5_looksLikeName_59 hl (k := 3) rfl (nI_add i 1) (by decide) rfl (fun ls hl => ?_)
                        refine lv_goto (tgt := 38) hx hb dX5_looksLikeName_62 (by decide) ?_
                        exact ih_19 (i + 1) (by first | assumption | exact Or.inl rfl | exact Or.inr rfl | omega) (by first | assumption | exact Or.inl rfl | exact Or.inr rfl | omega) (by omega) H_25 _ ls (hP.sub (ws' := [(h0, .inr (5, [.ref a, .int (nI k)])), (a, .inl (cB, n, .inl f))]) [0, 1] rfl) (hD.sub (ws' := [(h0, .inr (5, [.ref a, .int (nI k)])), (a, .inl (cB, n, .inl f))]) [0, 1] (by decide) rfl) hS (lv_sub hl [1, 2, 3, 0] rfl)
                      · exact False.elim (by revert c_31; decide)
              exact loop_18 _ 1 (by first | assumption | exact Or.inl rfl | exact Or.inr rfl | omega) (by first | assumption | exact Or.inl rfl | exact Or.inr rfl | omega) (Nat.lt_succ_self _) H_11 _ ls (hP.sub (ws' := [(h0, .inr (5, [.ref a, .int (nI k)])), (a, .inl (cB, n, .inl f))]) [0, 1] rfl) (hD.sub (ws' := [(h0, .inr (5, [.ref a, .int (nI k)])), (a, .inl (cB, n, .inl f))]) [0, 1] (by decide) rfl) hS (lv_sub hl [1, 2, 3, 0] rfl)
            · exact False.elim (by revert c_17; decide)
        · exact False.elim (by revert c_8; decide)
      · refine lv_if_ne (tgt := 22) hx hb dX5_looksLikeName_17 (by decide) (fun c_32 => ?_) (fun c_32 => ?_)
        · exact False.elim (by revert c_32; decide)
        · refine lv_iconst (v := 0) hx hb dX5_looksLikeName_20 (by decide) ?_
          have hP9 := hP.sub (ws' := [(h0, .inr (5, [.ref a, .int (nI k)])), (a, .inl (cB, n, .inl f))]) [0, 1] rfl
          have hD9 := hD.sub (ws' := [(h0, .inr (5, [.ref a, .int (nI k)])), (a, .inl (cB, n, .inl f))]) [0, 1] (by decide) rfl
          rw [← hQ]
          exact W.zret (v := 0) hx hb hr (rfl) (fun t ht hW => ⟨⟨0, (), rfl, trivial, ⟨by rw [ht]; exact hP9, va_K.moved hW.alike hK, hD9⟩⟩, hS.F ht⟩) hS.2.2 dX5_looksLikeName_21
set_option maxHeartbeats 4000000 in
set_option maxRecDepth 100000 in
theorem s_X5_spellsWithAnyFirst (l : Launch) (D : va_G) (cB cI cZ : ClassId) (E : pEt) (sz : Nat) (h0 : Nat) (a : Nat) (n : Nat) (k : Nat) (f : Nat → Int32) (x : Int32) (y : Int32) (i : Nat) (hk : k ≤ n) (hn : n ≤ 600) (hi14 : i < 14) : Met l yX5_spellsWithAnyFirst (.code yX5_spellsWithAnyFirst cX5_spellsWithAnyFirst 7 (some .boolean) :: wsL_law) ({ frames := 4, cells := 0, slots := 0, locals := 85 } : Room) (va_Pc [.ref h0, .int x, .int y, .ref (E.1 i)] (pInE E D (pT cB cI cZ) sz [(h0, .inr (5, [.ref a, .int (nI k)])), (a, .inl (cB, n, .inl f))])) (va_Qi (fun (r : Int32) (u : Unit) => True) (fun (u : Unit) (t : State) => pAt D (pT cB cI cZ) (va_A [(h0, .inr (5, [.ref a, .int (nI k)])), (a, .inl (cB, n, .inl f))] sz) [(h0, .inr (5, [.ref a, .int (nI k)])), (a, .inl (cB, n, .inl f))] t) (va_A [(h0, .inr (5, [.ref a, .int (nI k)])), (a, .inl (cB, n, .inl f))] sz)) 0 0 (va_A [(h0, .inr (5, [.ref a, .int (nI k)])), (a, .inl (cB, n, .inl f))] sz) := by
  refine Met.ofW (cc := cX5_spellsWithAnyFirst) (maxL := 7) (ret := (some .boolean)) (by decide) rfl ?_
  intro p e s m args below meth cd s₁ B hml hv
  obtain ⟨rfl, hsz, hP, hK, hD0, hE⟩ := hv
  have hx := B.exec
  have hb := B.bytes
  have hr := B.returns
  have hts0 := atoms_spec (ws := .code yX5_spellsWithAnyFirst cX5_spellsWithAnyFirst 7 (some .boolean) :: wsL_law) B.pre
  have hts := fun (w : Cond) (h : w ∈ wsL_law) => hts0 w (List.mem_cons_of_mem _ h)
  have hown : s.vm.findClass RX5 = some m.cls := findClass_of_methodNamed B.named
  have hlocks := B.notSynchronized
  have hinX5 := inlX5
  subst hsz
  have hD := hD0.self (sz := s.heap.size)
  generalize hAe : va_A [(h0, .inr (5, [.ref a, .int (nI k)])), (a, .inl (cB, n, .inl f))] s.heap.size = A at hD hE ⊢
  have hA : ∀ q : Nat, s.heap.size ≤ q → A q := fun q h => by rw [← hAe]; exact Or.inr h
  have hS : va_S A s.heap s.heap [] := va_S.rf
  have hP : va_P D vwCl [(h0, .inr (5, [.ref a, .int (nI k)])), (a, .inl (cB, n, .inl f))] s.heap := hP
  have hl := lv_entry ([.ref h0, .int x, .int y, .ref (E.1 i)]) (n := 7) (Nat.le_of_ble_eq_true rfl)
  rw [lg_entry_eq]
  generalize (lg_sl ([.ref h0, .int x, .int y, .ref (E.1 i)]) ++ List.replicate (7 - (lg_sl ([.ref h0, .int x, .int y, .ref (E.1 i)])).length) Slot.unset).toArray = ls at hl ⊢
  have hl : lv_has ls 7 [(0, .ref h0), (1, .int x), (2, .int y), (3, .ref (E.1 i))] := hl
  generalize hQ : MQ below _ _ _ _ _ _ = Q
  refine lv_iload_n hx hb dX5_spellsWithAnyFirst_0 rfl (lv_at hl 2 rfl) ?_
  refine lv_aload_n hx hb dX5_spellsWithAnyFirst_1 rfl (lv_at hl 3 rfl) ?_
  have hPc := hP.sub (ws' := []) [] rfl
  have hDc := hD.sub (ws' := []) [] (by decide) rfl
  have hFc := va_free (wc := []) hD hS hA [] rfl
  refine va_calli (va_runV (As := []) (rest := [.int y]) ⟨hx, hb, hml, hown, hts⟩ (s_length l D cB cI cZ E s.heap.size i (by first | assumption | omega)) (cwV 0 hts (uV (uc12 _ (List.mem_of_getElem? (i := 4) rfl)) (uc12 _ (List.mem_of_getElem? (i := 5) rfl)) (uc12 _ (List.mem_of_getElem? (i := 6) rfl)) (uc12 _ (List.mem_of_getElem? (i := 7) rfl)) (uc12 _ (List.mem_of_getElem? (i := 8) rfl))) rfl rfl rfl (by decide +kernel) ⟨Nat.le_of_ble_eq_true rfl, Nat.le_of_ble_eq_true rfl⟩) (pVS hE hS hFc hK hPc hDc (i := i) (by omega)) rfl rfl hl.1 rfl (lv_room (Nat.le_of_ble_eq_true rfl)) dX5_spellsWithAnyFirst_2 ⟨Nat.le_of_ble_eq_true rfl, Nat.le_of_ble_eq_true rfl⟩) hS (fun q _ h => hFc q h) hFc (fun r_1 u t H_2 L_3 ht hvm hw hB hz1 hk1 hS => ?_)
  obtain ⟨hP1, -, hD1⟩ := hB
  rw [ht] at hP1
  obtain ⟨hP, hD⟩ := va_join (wr := [(h0, .inr (5, [.ref a, .int (nI k)])), (a, .inl (cB, n, .inl f))]) (w1 := []) hP hD [] [0, 1] rfl rfl (by decide) (by decide) hk1 hFc hP1 hD1
  have hP : va_P D vwCl [(h0, .inr (5, [.ref a, .int (nI k)])), (a, .inl (cB, n, .inl f))] H_2 := hP.sub [0, 1] rfl
  have hD : va_D A [(h0, .inr (5, [.ref a, .int (nI k)])), (a, .inl (cB, n, .inl f))] := hD.sub [0, 1] (by decide) rfl
  try dsimp only at hw
  subst hw
  refine lv_icmp_ne (tgt := 21) hx hb dX5_spellsWithAnyFirst_5 (by decide) (fun c_4 => ?_) (fun c_4 => ?_)
  · refine lv_iconst (v := 0) hx hb dX5_spellsWithAnyFirst_21 (by decide) ?_
    have hP9 := hP.sub (ws' := [(h0, .inr (5, [.ref a, .int (nI k)])), (a, .inl (cB, n, .inl f))]) [0, 1] rfl
    have hD9 := hD.sub (ws' := [(h0, .inr (5, [.ref a, .int (nI k)])), (a, .inl (cB, n, .inl f))]) [0, 1] (by decide) rfl
    rw [← hQ]
    exact W.zret (v := 0) hx hb hr (rfl) (fun t ht hW => ⟨⟨0, (), rfl, trivial, ⟨by rw [ht]; exact hP9, va_K.moved hW.alike hK, hD9⟩⟩, hS.F ht⟩) hS.2.2 dX5_spellsWithAnyFirst_22
  · obtain rfl := c_4
    have hLen := pLenB hi14
    refine lv_iload_n hx hb dX5_spellsWithAnyFirst_8 rfl (lv_at hl 2 rfl) ?_
    refine lv_if_eq (tgt := 21) hx hb dX5_spellsWithAnyFirst_9 (by decide) (fun c_5 => ?_) (fun c_5 => ?_)
    · exact False.elim (by exact nI_ne0 (by omega) (by omega) c_5)
    · refine lv_aload_n hx hb dX5_spellsWithAnyFirst_12 rfl (lv_at hl 0 rfl) ?_
      refine lv_iload_n hx hb dX5_spellsWithAnyFirst_13 rfl (lv_at hl 1 rfl) ?_
      refine lv_iload_n hx hb dX5_spellsWithAnyFirst_14 rfl (lv_at hl 2 rfl) ?_
      have hPc := hP.sub (ws' := [(h0, .inr (5, [.ref a, .int (nI k)]))]) [0] rfl
      have hDc := hD.sub (ws' := [(h0, .inr (5, [.ref a, .int (nI k)]))]) [0] (by decide) rfl
      have hFc := va_free (wc := [(h0, .inr (5, [.ref a, .int (nI k)]))]) hD hS hA [0] rfl
      refine va_calli (va_runV (As := [.int x, .int (nI (pLen.getD i 0))]) (rest := []) ⟨hx, hb, hml, hown, hts⟩ (s_X5_holds l D cB cI cZ E H_2.size h0 a k x (nI (pLen.getD i 0)) (by first | assumption | omega)) (cwV 2 hts (uV (uc10 _ (List.mem_of_getElem? (i := 1) rfl)) (uc10 _ (List.mem_of_getElem? (i := 2) rfl)) (uc10 _ (List.mem_of_getElem? (i := 3) rfl)) (uc1 _ (List.mem_of_getElem? (i := 14) rfl)) (uc10 _ (List.mem_of_getElem? (i := 4) rfl))) rfl rfl rfl (by decide +kernel) ⟨Nat.le_of_ble_eq_true rfl, Nat.le_of_ble_eq_true rfl⟩) (pVE hE hS hFc hK hPc hDc 0 rfl rfl) rfl rfl hl.1 rfl (lv_room (Nat.le_of_ble_eq_true rfl)) dX5_spellsWithAnyFirst_15 ⟨Nat.le_of_ble_eq_true rfl, Nat.le_of_ble_eq_true rfl⟩) hS (fun q _ h => hFc q h) hFc (fun r_6 u t H_7 L_8 ht hvm hw hB hz1 hk1 hS => ?_)
      obtain ⟨hP1, -, hD1⟩ := hB
      rw [ht] at hP1
      obtain ⟨hP, hD⟩ := va_join (wr := [(a, .inl (cB, n, .inl f))]) (w1 := [(h0, .inr (5, [.ref a, .int (nI k)]))]) hP hD [0] [1] rfl rfl (by decide) (by decide) hk1 hFc hP1 hD1
      have hP : va_P D vwCl [(h0, .inr (5, [.ref a, .int (nI k)])), (a, .inl (cB, n, .inl f))] H_7 := hP.sub [1, 0] rfl
      have hD : va_D A [(h0, .inr (5, [.ref a, .int (nI k)])), (a, .inl (cB, n, .inl f))] := hD.sub [1, 0] (by decide) rfl
      try dsimp only at hw
      rcases hw with ⟨rfl, h_9⟩ | ⟨rfl, h_10⟩
      · obtain ⟨X, Y, rfl, hY, hXY⟩ := h_9
        have hYl := (nI_eq (by omega) (by omega)).mp hY
        refine lv_if_ne (tgt := 23) hx hb dX5_spellsWithAnyFirst_18 (by decide) (fun c_11 => ?_) (fun c_11 => ?_)
        · refine lv_aload_n hx hb dX5_spellsWithAnyFirst_23 rfl (lv_at hl 0 rfl) ?_
          refine va_get (D := D) (ci := 5) (v := .ref a) (C := RX5) (T := TX5) (N := 2) hx hb hts hinX5 hown hK hP 0 rfl rfl 0 (by decide) (hts (.fieldLink RX5 15 "TaleReader$Text" "signs" "[B") (uc3 _ (List.mem_of_getElem? (i := 5) rfl))) (fun _ h9 => h9) rfl dX5_spellsWithAnyFirst_24 ?_
          refine lv_iload_n hx hb dX5_spellsWithAnyFirst_27 rfl (lv_at hl 1 rfl) ?_
          refine va_bald (D := D) hx hb hK hP 1 0 rfl rfl (vp_in_nI (by omega) (by omega)) dX5_spellsWithAnyFirst_28 ?_
          refine lv_topi (fun z_12 ez_12 => ?_)
          obtain rfl : z_12 = f X := ez_12.trans (congrArg f (nI_clamp (by omega)))
          refine lv_istore (lv' := [(4, .int (f X)), (0, .ref h0), (1, .int (nI X)), (2, .int (nI (pLen.getD i 0))), (3, .ref (E.1 i))]) hx hb dX5_spellsWithAnyFirst_29 hl (by decide) rfl (fun ls hl => ?_)
          refine lv_iload hx hb dX5_spellsWithAnyFirst_31 (lv_at hl 0 rfl) ?_
          have hPc := hP.sub (ws' := []) [] rfl
          have hDc := hD.sub (ws' := []) [] (by decide) rfl
          have hFc := va_free (wc := []) hD hS hA [] rfl
          refine va_calli (va_runSN (As := [.int (f X)]) (rest := []) ⟨hx, hb, hml, hown, hts⟩ (s_isCapital l D cB cI cZ E H_7.size (f X)) ⟨va_cnB 1 hts (uI (uc10 _ (List.mem_of_getElem? (i := 18) rfl))) rfl rfl rfl (pN_RX5_41 hE) (hts (.initialized RX8) (uc1 _ (List.mem_of_getElem? (i := 2) rfl))) (by decide +kernel) ⟨Nat.le_of_ble_eq_true rfl, Nat.le_of_ble_eq_true rfl⟩, (hts (.static yX8_isCapital) (uc10 _ (List.mem_of_getElem? (i := 17) rfl))), trivial⟩ (pSE hE hS hFc hK hPc hDc) rfl rfl hl.1 rfl (lv_room (Nat.le_of_ble_eq_true rfl)) dX5_spellsWithAnyFirst_33 ⟨Nat.le_of_ble_eq_true rfl, Nat.le_of_ble_eq_true rfl⟩) hS (fun q _ h => hFc q h) hFc (fun r_13 u t H_14 L_15 ht hvm hw hB hz1 hk1 hS => ?_)
          obtain ⟨hP1, -, hD1⟩ := hB
          rw [ht] at hP1
          obtain ⟨hP, hD⟩ := va_join (wr := [(h0, .inr (5, [.ref a, .int (nI k)])), (a, .inl (cB, n, .inl f))]) (w1 := []) hP hD [] [0, 1] rfl rfl (by decide) (by decide) hk1 hFc hP1 hD1
          have hP : va_P D vwCl [(h0, .inr (5, [.ref a, .int (nI k)])), (a, .inl (cB, n, .inl f))] H_14 := hP.sub [0, 1] rfl
          have hD : va_D A [(h0, .inr (5, [.ref a, .int (nI k)])), (a, .inl (cB, n, .inl f))] := hD.sub [0, 1] (by decide) rfl
          try dsimp only at hw
          rcases hw with ⟨rfl, h_16⟩ | ⟨rfl, h_17, h_18⟩
          · refine lv_if_eq (tgt := 50) hx hb dX5_spellsWithAnyFirst_36 (by decide) (fun c_19 => ?_) (fun c_19 => ?_)
            · refine lv_iload hx hb dX5_spellsWithAnyFirst_50 (lv_at hl 0 rfl) ?_
              refine lv_istore (lv' := [(5, .int (f X)), (4, .int (f X)), (0, .ref h0), (1, .int (nI X)), (2, .int (nI (pLen.getD i 0))), (3, .ref (E.1 i))]) hx hb dX5_spellsWithAnyFirst_52 hl (by decide) rfl (fun ls hl => ?_)
              refine lv_iload hx hb dX5_spellsWithAnyFirst_54 (lv_at hl 0 rfl) ?_
              refine lv_aload_n hx hb dX5_spellsWithAnyFirst_56 rfl (lv_at hl 5 rfl) ?_
              refine lv_iconst (v := 0) hx hb dX5_spellsWithAnyFirst_57 (by decide) ?_
              have hPc := hP.sub (ws' := []) [] rfl
              have hDc := hD.sub (ws' := []) [] (by decide) rfl
              have hFc := va_free (wc := []) hD hS hA [] rfl
              refine va_calli (va_runV (As := [.int 0]) (rest := [.int (f X)]) ⟨hx, hb, hml, hown, hts⟩ (s_charAt l D cB cI cZ E H_14.size i 0 (by first | assumption | omega) (by omega) (by omega)) (cwV 1 hts (uV (uc12 _ (List.mem_of_getElem? (i := 16) rfl)) (uc12 _ (List.mem_of_getElem? (i := 17) rfl)) (uc12 _ (List.mem_of_getElem? (i := 18) rfl)) (uc12 _ (List.mem_of_getElem? (i := 7) rfl)) (uc12 _ (List.mem_of_getElem? (i := 19) rfl))) rfl rfl rfl (by decide +kernel) ⟨Nat.le_of_ble_eq_true rfl, Nat.le_of_ble_eq_true rfl⟩) (pVS hE hS hFc hK hPc hDc (i := i) (by omega)) rfl rfl hl.1 rfl (lv_room (Nat.le_of_ble_eq_true rfl)) dX5_spellsWithAnyFirst_58 ⟨Nat.le_of_ble_eq_true rfl, Nat.le_of_ble_eq_true rfl⟩) hS (fun q _ h => hFc q h) hFc (fun r_20 u t H_21 L_22 ht hvm hw hB hz1 hk1 hS => ?_)
              obtain ⟨hP1, -, hD1⟩ := hB
              rw [ht] at hP1
              obtain ⟨hP, hD⟩ := va_join (wr := [(h0, .inr (5, [.ref a, .int (nI k)])), (a, .inl (cB, n, .inl f))]) (w1 := []) hP hD [] [0, 1] rfl rfl (by decide) (by decide) hk1 hFc hP1 hD1
              have hP : va_P D vwCl [(h0, .inr (5, [.ref a, .int (nI k)])), (a, .inl (cB, n, .inl f))] H_21 := hP.sub [0, 1] rfl
              have hD : va_D A [(h0, .inr (5, [.ref a, .int (nI k)])), (a, .inl (cB, n, .inl f))] := hD.sub [0, 1] (by decide) rfl
              try dsimp only at hw
              subst hw
              refine lv_icmp_eq (tgt := 66) hx hb dX5_spellsWithAnyFirst_61 (by decide) (fun c_23 => ?_) (fun c_23 => ?_)
              · refine lv_iconst (v := 1) hx hb dX5_spellsWithAnyFirst_66 (by decide) ?_
                refine lv_istore (lv' := [(6, .int 1), (5, .int (f X)), (4, .int (f X)), (0, .ref h0), (1, .int (nI X)), (2, .int (nI (pLen.getD i 0))), (3, .ref (E.1 i))]) hx hb dX5_spellsWithAnyFirst_67 hl (by decide) rfl (fun ls hl => ?_)
                have loop_24 : ∀ (nn_26 : Nat) (j : Nat) (w4 : Int32) (w5 : Int32), (1 ≤ j) → (j ≤ 7) → (pLen.getD i 0 - j < nn_26) → ∀ (H : Heap) (locs : List Loc) (ls : Array Slot), va_P D vwCl [(h0, .inr (5, [.ref a, .int (nI k)])), (a, .inl (cB, n, .inl f))] H → va_D A [(h0, .inr (5, [.ref a, .int (nI k)])), (a, .inl (cB, n, .inl f))] → va_S A s.heap H locs → lv_has ls 7 [(0, .ref h0), (1, .int (nI X)), (2, .int (nI (pLen.getD i 0))), (3, .ref (E.1 i)), (4, .int w4), (5, .int w5), (6, .int (nI j))] → W p l e ({ frames := 4, cells := 0, slots := 0, locals := 85 } : Room) s m ([.ref h0, .int (nI X), .int (nI (pLen.getD i 0)), .ref (E.1 i)] : List Value).toArray below meth cd H locs 0 0 Q (F0 m 69 ls []) := by
                  intro nn_26
                  induction nn_26 with
                  | zero => intros; exact absurd ‹_ < 0› (Nat.not_lt_zero _)
                  | succ nn_26 ih_25 =>
                    intro j w4 w5 hj hj2 hmu H locs ls hP hD hS hl
                    refine lv_iload hx hb dX5_spellsWithAnyFirst_69 (lv_at hl 6 rfl) ?_
                    refine lv_iload_n hx hb dX5_spellsWithAnyFirst_71 rfl (lv_at hl 2 rfl) ?_
                    refine lv_icmp_ge (tgt := 101) hx hb dX5_spellsWithAnyFirst_72 (by decide) (fun c_27 => ?_) (fun c_27 => ?_)
                    · refine lv_iconst (v := 1) hx hb dX5_spellsWithAnyFirst_101 (by decide) ?_
                      have hP9 := hP.sub (ws' := [(h0, .inr (5, [.ref a, .int (nI k)])), (a, .inl (cB, n, .inl f))]) [0, 1] rfl
                      have hD9 := hD.sub (ws' := [(h0, .inr (5, [.ref a, .int (nI k)])), (a, .inl (cB, n, .inl f))]) [0, 1] (by decide) rfl
                      rw [← hQ]
                      exact W.zret (v := 1) hx hb hr (rfl) (fun t ht hW => ⟨⟨1, (), rfl, trivial, ⟨by rw [ht]; exact hP9, va_K.moved hW.alike hK, hD9⟩⟩, hS.F ht⟩) hS.2.2 dX5_spellsWithAnyFirst_102
                    · have hjl : j < pLen.getD i 0 := Nat.lt_of_not_le (fun q => c_27 (nI_le q (by omega)))
                      refine lv_aload_n hx hb dX5_spellsWithAnyFirst_75 rfl (lv_at hl 0 rfl) ?_
                      refine va_get (D := D) (ci := 5) (v := .ref a) (C := RX5) (T := TX5) (N := 2) hx hb hts hinX5 hown hK hP 0 rfl rfl 0 (by decide) (hts (.fieldLink RX5 15 "TaleReader$Text" "signs" "[B") (uc3 _ (List.mem_of_getElem? (i := 5) rfl))) (fun _ h9 => h9) rfl dX5_spellsWithAnyFirst_76 ?_
                      refine lv_iload_n hx hb dX5_spellsWithAnyFirst_79 rfl (lv_at hl 1 rfl) ?_
                      refine lv_iload hx hb dX5_spellsWithAnyFirst_80 (lv_at hl 6 rfl) ?_
                      refine lv_iadd hx hb dX5_spellsWithAnyFirst_82 ?_
                      refine lv_topi (fun z_28 ez_28 => ?_)
                      obtain rfl : z_28 = nI (X + j) := ez_28.trans (nI_add X j)
                      refine va_bald (D := D) hx hb hK hP 1 0 rfl rfl (vp_in_nI (by omega) (by omega)) dX5_spellsWithAnyFirst_83 ?_
                      refine lv_topi (fun z_29 ez_29 => ?_)
                      obtain rfl : z_29 = f (X + j) := ez_29.trans (congrArg f (nI_clamp (by omega)))
                      refine lv_aload_n hx hb dX5_spellsWithAnyFirst_84 rfl (lv_at hl 3 rfl) ?_
                      refine lv_iload hx hb dX5_spellsWithAnyFirst_85 (lv_at hl 6 rfl) ?_
                      have hPc := hP.sub (ws' := []) [] rfl
                      have hDc := hD.sub (ws' := []) [] (by decide) rfl
                      have hFc := va_free (wc := []) hD hS hA [] rfl
                      refine va_calli (va_runV (As := [.int (nI j)]) (rest := [.int (f (X + j))]) ⟨hx, hb, hml, hown, hts⟩ (s_charAt l D cB cI cZ E H.size i j (by first | assumption | omega) (by omega) (by omega)) (cwV 1 hts (uV (uc12 _ (List.mem_of_getElem? (i := 16) rfl)) (uc12 _ (List.mem_of_getElem? (i := 17) rfl)) (uc12 _ (List.mem_of_getElem? (i := 18) rfl)) (uc12 _ (List.mem_of_getElem? (i := 7) rfl)) (uc12 _ (List.mem_of_getElem? (i := 19) rfl))) rfl rfl rfl (by decide +kernel) ⟨Nat.le_of_ble_eq_true rfl, Nat.le_of_ble_eq_true rfl⟩) (pVS hE hS hFc hK hPc hDc (i := i) (by omega)) rfl rfl hl.1 rfl (lv_room (Nat.le_of_ble_eq_true rfl)) dX5_spellsWithAnyFirst_87 ⟨Nat.le_of_ble_eq_true rfl, Nat.le_of_ble_eq_true rfl⟩) hS (fun q _ h => hFc q h) hFc (fun r_30 u t H_31 L_32 ht hvm hw hB hz1 hk1 hS => ?_)
                      obtain ⟨hP1, -, hD1⟩ := hB
                      rw [ht] at hP1
                      obtain ⟨hP, hD⟩ := va_join (wr := [(h0, .inr (5, [.ref a, .int (nI k)])), (a, .inl (cB, n, .inl f))]) (w1 := []) hP hD [] [0, 1] rfl rfl (by decide) (by decide) hk1 hFc hP1 hD1
                      have hP : va_P D vwCl [(h0, .inr (5, [.ref a, .int (nI k)])), (a, .inl (cB, n, .inl f))] H_31 := hP.sub [0, 1] rfl
                      have hD : va_D A [(h0, .inr (5, [.ref a, .int (nI k)])), (a, .inl (cB, n, .inl f))] := hD.sub [0, 1] (by decide) rfl
                      try dsimp only at hw
                      subst hw
                      refine lv_icmp_eq (tgt := 95) hx hb dX5_spellsWithAnyFirst_90 (by decide) (fun c_33 => ?_) (fun c_33 => ?_)
                      · refine lv_iinc (v := nI (j + 1)) (lv' := [(6, .int (nI (j + 1))), (0, .ref h0), (1, .int (nI X)), (2, .int (nI (pLen.getD i 0))), (3, .ref (E.1 i)), (4, .int w4), (5, .int w5)]) hx hb dX5_spellsWithAnyFirst_95 hl (k := 6) rfl (nI_add j 1) (by decide) rfl (fun ls hl => ?_)
                        refine lv_goto (tgt := 69) hx hb dX5_spellsWithAnyFirst_98 (by decide) ?_
                        exact ih_25 (j + 1) w4 w5 (by first | assumption | exact Or.inl rfl | exact Or.inr rfl | omega) (by first | assumption | exact Or.inl rfl | exact Or.inr rfl | omega) (by omega) H_31 _ ls (hP.sub (ws' := [(h0, .inr (5, [.ref a, .int (nI k)])), (a, .inl (cB, n, .inl f))]) [0, 1] rfl) (hD.sub (ws' := [(h0, .inr (5, [.ref a, .int (nI k)])), (a, .inl (cB, n, .inl f))]) [0, 1] (by decide) rfl) hS (lv_sub hl [1, 2, 3, 4, 5, 6, 0] rfl)
                      · refine lv_iconst (v := 0) hx hb dX5_spellsWithAnyFirst_93 (by decide) ?_
                        have hP9 := hP.sub (ws' := [(h0, .inr (5, [.ref a, .int (nI k)])), (a, .inl (cB, n, .inl f))]) [0, 1] rfl
                        have hD9 := hD.sub (ws' := [(h0, .inr (5, [.ref a, .int (nI k)])), (a, .inl (cB, n, .inl f))]) [0, 1] (by decide) rfl
                        rw [← hQ]
                        exact W.zret (v := 0) hx hb hr (rfl) (fun t ht hW => ⟨⟨0, (), rfl, trivial, ⟨by rw [ht]; exact hP9, va_K.moved hW.alike hK, hD9⟩⟩, hS.F ht⟩) hS.2.2 dX5_spellsWithAnyFirst_94
                exact loop_24 _ 1 (f X) (f X) (by first | assumption | exact Or.inl rfl | exact Or.inr rfl | omega) (by first | assumption | exact Or.inl rfl | exact Or.inr rfl | omega) (Nat.lt_succ_self _) H_21 _ ls (hP.sub (ws' := [(h0, .inr (5, [.ref a, .int (nI k)])), (a, .inl (cB, n, .inl f))]) [0, 1] rfl) (hD.sub (ws' := [(h0, .inr (5, [.ref a, .int (nI k)])), (a, .inl (cB, n, .inl f))]) [0, 1] (by decide) rfl) hS (lv_sub hl [3, 4, 5, 6, 2, 1, 0] rfl)
              · refine lv_iconst (v := 0) hx hb dX5_spellsWithAnyFirst_64 (by decide) ?_
                have hP9 := hP.sub (ws' := [(h0, .inr (5, [.ref a, .int (nI k)])), (a, .inl (cB, n, .inl f))]) [0, 1] rfl
                have hD9 := hD.sub (ws' := [(h0, .inr (5, [.ref a, .int (nI k)])), (a, .inl (cB, n, .inl f))]) [0, 1] (by decide) rfl
                rw [← hQ]
                exact W.zret (v := 0) hx hb hr (rfl) (fun t ht hW => ⟨⟨0, (), rfl, trivial, ⟨by rw [ht]; exact hP9, va_K.moved hW.alike hK, hD9⟩⟩, hS.F ht⟩) hS.2.2 dX5_spellsWithAnyFirst_65
            · exact False.elim (by revert c_19; decide)
          · refine lv_if_eq (tgt := 50) hx hb dX5_spellsWithAnyFirst_36 (by decide) (fun c_34 => ?_) (fun c_34 => ?_)
            · exact False.elim (by revert c_34; decide)
            · refine lv_iload hx hb dX5_spellsWithAnyFirst_39 (lv_at hl 0 rfl) ?_
              refine lv_bipush (v := 65) hx hb dX5_spellsWithAnyFirst_41 (by decide) ?_
              refine lv_isub hx hb dX5_spellsWithAnyFirst_43 ?_
              refine lv_bipush (v := 97) hx hb dX5_spellsWithAnyFirst_44 (by decide) ?_
              refine lv_iadd hx hb dX5_spellsWithAnyFirst_46 ?_
              refine lv_goto (tgt := 52) hx hb dX5_spellsWithAnyFirst_47 (by decide) ?_
              refine lv_istore (lv' := [(5, .int (((f X) - 65) + 97)), (4, .int (f X)), (0, .ref h0), (1, .int (nI X)), (2, .int (nI (pLen.getD i 0))), (3, .ref (E.1 i))]) hx hb dX5_spellsWithAnyFirst_52 hl (by decide) rfl (fun ls hl => ?_)
              refine lv_iload hx hb dX5_spellsWithAnyFirst_54 (lv_at hl 0 rfl) ?_
              refine lv_aload_n hx hb dX5_spellsWithAnyFirst_56 rfl (lv_at hl 5 rfl) ?_
              refine lv_iconst (v := 0) hx hb dX5_spellsWithAnyFirst_57 (by decide) ?_
              have hPc := hP.sub (ws' := []) [] rfl
              have hDc := hD.sub (ws' := []) [] (by decide) rfl
              have hFc := va_free (wc := []) hD hS hA [] rfl
              refine va_calli (va_runV (As := [.int 0]) (rest := [.int (((f X) - 65) + 97)]) ⟨hx, hb, hml, hown, hts⟩ (s_charAt l D cB cI cZ E H_14.size i 0 (by first | assumption | omega) (by omega) (by omega)) (cwV 1 hts (uV (uc12 _ (List.mem_of_getElem? (i := 16) rfl)) (uc12 _ (List.mem_of_getElem? (i := 17) rfl)) (uc12 _ (List.mem_of_getElem? (i := 18) rfl)) (uc12 _ (List.mem_of_getElem? (i := 7) rfl)) (uc12 _ (List.mem_of_getElem? (i := 19) rfl))) rfl rfl rfl (by decide +kernel) ⟨Nat.le_of_ble_eq_true rfl, Nat.le_of_ble_eq_true rfl⟩) (pVS hE hS hFc hK hPc hDc (i := i) (by omega)) rfl rfl hl.1 rfl (lv_room (Nat.le_of_ble_eq_true rfl)) dX5_spellsWithAnyFirst_58 ⟨Nat.le_of_ble_eq_true rfl, Nat.le_of_ble_eq_true rfl⟩) hS (fun q _ h => hFc q h) hFc (fun r_35 u t H_36 L_37 ht hvm hw hB hz1 hk1 hS => ?_)
              obtain ⟨hP1, -, hD1⟩ := hB
              rw [ht] at hP1
              obtain ⟨hP, hD⟩ := va_join (wr := [(h0, .inr (5, [.ref a, .int (nI k)])), (a, .inl (cB, n, .inl f))]) (w1 := []) hP hD [] [0, 1] rfl rfl (by decide) (by decide) hk1 hFc hP1 hD1
              have hP : va_P D vwCl [(h0, .inr (5, [.ref a, .int (nI k)])), (a, .inl (cB, n, .inl f))] H_36 := hP.sub [0, 1] rfl
              have hD : va_D A [(h0, .inr (5, [.ref a, .int (nI k)])), (a, .inl (cB, n, .inl f))] := hD.sub [0, 1] (by decide) rfl
              try dsimp only at hw
              subst hw
              refine lv_icmp_eq (tgt := 66) hx hb dX5_spellsWithAnyFirst_61 (by decide) (fun c_38 => ?_) (fun c_38 => ?_)
              · refine lv_iconst (v := 1) hx hb dX5_spellsWithAnyFirst_66 (by decide) ?_
                refine lv_istore (lv' := [(6, .int 1), (5, .int (((f X) - 65) + 97)), (4, .int (f X)), (0, .ref h0), (1, .int (nI X)), (2, .int (nI (pLen.getD i 0))), (3, .ref (E.1 i))]) hx hb dX5_spellsWithAnyFirst_67 hl (by decide) rfl (fun ls hl => ?_)
                have loop_39 : ∀ (nn_41 : Nat) (j : Nat) (w4 : Int32) (w5 : Int32), (1 ≤ j) → (j ≤ 7) → (pLen.getD i 0 - j < nn_41) → ∀ (H : Heap) (locs : List Loc) (ls : Array Slot), va_P D vwCl [(h0, .inr (5, [.ref a, .int (nI k)])), (a, .inl (cB, n, .inl f))] H → va_D A [(h0, .inr (5, [.ref a, .int (nI k)])), (a, .inl (cB, n, .inl f))] → va_S A s.heap H locs → lv_has ls 7 [(0, .ref h0), (1, .int (nI X)), (2, .int (nI (pLen.getD i 0))), (3, .ref (E.1 i)), (4, .int w4), (5, .int w5), (6, .int (nI j))] → W p l e ({ frames := 4, cells := 0, slots := 0, locals := 85 } : Room) s m ([.ref h0, .int (nI X), .int (nI (pLen.getD i 0)), .ref (E.1 i)] : List Value).toArray below meth cd H locs 0 0 Q (F0 m 69 ls []) := by
                  intro nn_41
                  induction nn_41 with
                  | zero => intros; exact absurd ‹_ < 0› (Nat.not_lt_zero _)
                  | succ nn_41 ih_40 =>
                    intro j w4 w5 hj hj2 hmu H locs ls hP hD hS hl
                    refine lv_iload hx hb dX5_spellsWithAnyFirst_69 (lv_at hl 6 rfl) ?_
                    refine lv_iload_n hx hb dX5_spellsWithAnyFirst_71 rfl (lv_at hl 2 rfl) ?_
                    refine lv_icmp_ge (tgt := 101) hx hb dX5_spellsWithAnyFirst_72 (by decide) (fun c_42 => ?_) (fun c_42 => ?_)
                    · refine lv_iconst (v := 1) hx hb dX5_spellsWithAnyFirst_101 (by decide) ?_
                      have hP9 := hP.sub (ws' := [(h0, .inr (5, [.ref a, .int (nI k)])), (a, .inl (cB, n, .inl f))]) [0, 1] rfl
                      have hD9 := hD.sub (ws' := [(h0, .inr (5, [.ref a, .int (nI k)])), (a, .inl (cB, n, .inl f))]) [0, 1] (by decide) rfl
                      rw [← hQ]
                      exact W.zret (v := 1) hx hb hr (rfl) (fun t ht hW => ⟨⟨1, (), rfl, trivial, ⟨by rw [ht]; exact hP9, va_K.moved hW.alike hK, hD9⟩⟩, hS.F ht⟩) hS.2.2 dX5_spellsWithAnyFirst_102
                    · have hjl : j < pLen.getD i 0 := Nat.lt_of_not_le (fun q => c_42 (nI_le q (by omega)))
                      refine lv_aload_n hx hb dX5_spellsWithAnyFirst_75 rfl (lv_at hl 0 rfl) ?_
                      refine va_get (D := D) (ci := 5) (v := .ref a) (C := RX5) (T := TX5) (N := 2) hx hb hts hinX5 hown hK hP 0 rfl rfl 0 (by decide) (hts (.fieldLink RX5 15 "TaleReader$Text" "signs" "[B") (uc3 _ (List.mem_of_getElem? (i := 5) rfl))) (fun _ h9 => h9) rfl dX5_spellsWithAnyFirst_76 ?_
                      refine lv_iload_n hx hb dX5_spellsWithAnyFirst_79 rfl (lv_at hl 1 rfl) ?_
                      refine lv_iload hx hb dX5_spellsWithAnyFirst_80 (lv_at hl 6 rfl) ?_
                      refine lv_iadd hx hb dX5_spellsWithAnyFirst_82 ?_
                      refine lv_topi (fun z_43 ez_43 => ?_)
                      obtain rfl : z_43 = nI (X + j) := ez_43.trans (nI_add X j)
                      refine va_bald (D := D) hx hb hK hP 1 0 rfl rfl (vp_in_nI (by omega) (by omega)) dX5_spellsWithAnyFirst_83 ?_
                      refine lv_topi (fun z_44 ez_44 => ?_)
                      obtain rfl : z_44 = f (X + j) := ez_44.trans (congrArg f (nI_clamp (by omega)))
                      refine lv_aload_n hx hb dX5_spellsWithAnyFirst_84 rfl (lv_at hl 3 rfl) ?_
                      refine lv_iload hx hb dX5_spellsWithAnyFirst_85 (lv_at hl 6 rfl) ?_
                      have hPc := hP.sub (ws' := []) [] rfl
                      have hDc := hD.sub (ws' := []) [] (by decide) rfl
                      have hFc := va_free (wc := []) hD hS hA [] rfl
                      refine va_calli (va_runV (As := [.int (nI j)]) (rest := [.int (f (X + j))]) ⟨hx, hb, hml, hown, hts⟩ (s_charAt l D cB cI cZ E H.size i j (by first | assumption | omega) (by omega) (by omega)) (cwV 1 hts (uV (uc12 _ (List.mem_of_getElem? (i := 16) rfl)) (uc12 _ (List.mem_of_getElem? (i := 17) rfl)) (uc12 _ (List.mem_of_getElem? (i := 18) rfl)) (uc12 _ (List.mem_of_getElem? (i := 7) rfl)) (uc12 _ (List.mem_of_getElem? (i := 19) rfl))) rfl rfl rfl (by decide +kernel) ⟨Nat.le_of_ble_eq_true rfl, Nat.le_of_ble_eq_true rfl⟩) (pVS hE hS hFc hK hPc hDc (i := i) (by omega)) rfl rfl hl.1 rfl (lv_room (Nat.le_of_ble_eq_true rfl)) dX5_spellsWithAnyFirst_87 ⟨Nat.le_of_ble_eq_true rfl, Nat.le_of_ble_eq_true rfl⟩) hS (fun q _ h => hFc q h) hFc (fun r_45 u t H_46 L_47 ht hvm hw hB hz1 hk1 hS => ?_)
                      obtain ⟨hP1, -, hD1⟩ := hB
                      rw [ht] at hP1
                      obtain ⟨hP, hD⟩ := va_join (wr := [(h0, .inr (5, [.ref a, .int (nI k)])), (a, .inl (cB, n, .inl f))]) (w1 := []) hP hD [] [0, 1] rfl rfl (by decide) (by decide) hk1 hFc hP1 hD1
                      have hP : va_P D vwCl [(h0, .inr (5, [.ref a, .int (nI k)])), (a, .inl (cB, n, .inl f))] H_46 := hP.sub [0, 1] rfl
                      have hD : va_D A [(h0, .inr (5, [.ref a, .int (nI k)])), (a, .inl (cB, n, .inl f))] := hD.sub [0, 1] (by decide) rfl
                      try dsimp only at hw
                      subst hw
                      refine lv_icmp_eq (tgt := 95) hx hb dX5_spellsWithAnyFirst_90 (by decide) (fun c_48 => ?_) (fun c_48 => ?_)
                      · refine lv_iinc (v := nI (j + 1)) (lv' := [(6, .int (nI (j + 1))), (0, .ref h0), (1, .int (nI X)), (2, .int (nI (pLen.getD i 0))), (3, .ref (E.1 i)), (4, .int w4), (5, .int w5)]) hx hb dX5_spellsWithAnyFirst_95 hl (k := 6) rfl (nI_add j 1) (by decide) rfl (fun ls hl => ?_)
                        refine lv_goto (tgt := 69) hx hb dX5_spellsWithAnyFirst_98 (by decide) ?_
                        exact ih_40 (j + 1) w4 w5 (by first | assumption | exact Or.inl rfl | exact Or.inr rfl | omega) (by first | assumption | exact Or.inl rfl | exact Or.inr rfl | omega) (by omega) H_46 _ ls (hP.sub (ws' := [(h0, .inr (5, [.ref a, .int (nI k)])), (a, .inl (cB, n, .inl f))]) [0, 1] rfl) (hD.sub (ws' := [(h0, .inr (5, [.ref a, .int (nI k)])), (a, .inl (cB, n, .inl f))]) [0, 1] (by decide) rfl) hS (lv_sub hl [1, 2, 3, 4, 5, 6, 0] rfl)
                      · refine lv_iconst (v := 0) hx hb dX5_spellsWithAnyFirst_93 (by decide) ?_
                        have hP9 := hP.sub (ws' := [(h0, .inr (5, [.ref a, .int (nI k)])), (a, .inl (cB, n, .inl f))]) [0, 1] rfl
                        have hD9 := hD.sub (ws' := [(h0, .inr (5, [.ref a, .int (nI k)])), (a, .inl (cB, n, .inl f))]) [0, 1] (by decide) rfl
                        rw [← hQ]
                        exact W.zret (v := 0) hx hb hr (rfl) (fun t ht hW => ⟨⟨0, (), rfl, trivial, ⟨by rw [ht]; exact hP9, va_K.moved hW.alike hK, hD9⟩⟩, hS.F ht⟩) hS.2.2 dX5_spellsWithAnyFirst_94
                exact loop_39 _ 1 (f X) (((f X) - 65) + 97) (by first | assumption | exact Or.inl rfl | exact Or.inr rfl | omega) (by first | assumption | exact Or.inl rfl | exact Or.inr rfl | omega) (Nat.lt_succ_self _) H_36 _ ls (hP.sub (ws' := [(h0, .inr (5, [.ref a, .int (nI k)])), (a, .inl (cB, n, .inl f))]) [0, 1] rfl) (hD.sub (ws' := [(h0, .inr (5, [.ref a, .int (nI k)])), (a, .inl (cB, n, .inl f))]) [0, 1] (by decide) rfl) hS (lv_sub hl [3, 4, 5, 6, 2, 1, 0] rfl)
              · refine lv_iconst (v := 0) hx hb dX5_spellsWithAnyFirst_64 (by decide) ?_
                have hP9 := hP.sub (ws' := [(h0, .inr (5, [.ref a, .int (nI k)])), (a, .inl (cB, n, .inl f))]) [0, 1] rfl
                have hD9 := hD.sub (ws' := [(h0, .inr (5, [.ref a, .int (nI k)])), (a, .inl (cB, n, .inl f))]) [0, 1] (by decide) rfl
                rw [← hQ]
                exact W.zret (v := 0) hx hb hr (rfl) (fun t ht hW => ⟨⟨0, (), rfl, trivial, ⟨by rw [ht]; exact hP9, va_K.moved hW.alike hK, hD9⟩⟩, hS.F ht⟩) hS.2.2 dX5_spellsWithAnyFirst_65
        · exact False.elim (by revert c_11; decide)
      · refine lv_if_ne (tgt := 23) hx hb dX5_spellsWithAnyFirst_18 (by decide) (fun c_49 => ?_) (fun c_49 => ?_)
        · exact False.elim (by revert c_49; decide)
        · refine lv_iconst (v := 0) hx hb dX5_spellsWithAnyFirst_21 (by decide) ?_
          have hP9 := hP.sub (ws' := [(h0, .inr (5, [.ref a, .int (nI k)])), (a, .inl (cB, n, .inl f))]) [0, 1] rfl
          have hD9 := hD.sub (ws' := [(h0, .inr (5, [.ref a, .int (nI k)])), (a, .inl (cB, n, .inl f))]) [0, 1] (by decide) rfl
          rw [← hQ]
          exact W.zret (v := 0) hx hb hr (rfl) (fun t ht hW => ⟨⟨0, (), rfl, trivial, ⟨by rw [ht]; exact hP9, va_K.moved hW.alike hK, hD9⟩⟩, hS.F ht⟩) hS.2.2 dX5_spellsWithAnyFirst_22
set_option maxHeartbeats 4000000 in
set_option maxRecDepth 100000 in
theorem s_X5_spells (l : Launch) (D : va_G) (cB cI cZ : ClassId) (E : pEt) (sz : Nat) (h0 : Nat) (a : Nat) (n : Nat) (k : Nat) (f : Nat → Int32) (x : Int32) (y : Int32) (i : Nat) (hk : k ≤ n) (hn : n ≤ 600) (hi14 : i < 14) : Met l yX5_spells (.code yX5_spells cX5_spells 4 (some .boolean) :: wsL_law) ({ frames := 5, cells := 0, slots := 0, locals := 111 } : Room) (va_Pc [.ref h0, .int x, .int y, .ref (E.1 i)] (pInE E D (pT cB cI cZ) sz [(h0, .inr (5, [.ref a, .int (nI k)])), (a, .inl (cB, n, .inl f))])) (va_Qi (fun (r : Int32) (u : Unit) => True) (fun (u : Unit) (t : State) => pAt D (pT cB cI cZ) (va_A [(h0, .inr (5, [.ref a, .int (nI k)])), (a, .inl (cB, n, .inl f))] sz) [(h0, .inr (5, [.ref a, .int (nI k)])), (a, .inl (cB, n, .inl f))] t) (va_A [(h0, .inr (5, [.ref a, .int (nI k)])), (a, .inl (cB, n, .inl f))] sz)) 0 0 (va_A [(h0, .inr (5, [.ref a, .int (nI k)])), (a, .inl (cB, n, .inl f))] sz) := by
  refine Met.ofW (cc := cX5_spells) (maxL := 4) (ret := (some .boolean)) (by decide) rfl ?_
  intro p e s m args below meth cd s₁ B hml hv
  obtain ⟨rfl, hsz, hP, hK, hD0, hE⟩ := hv
  have hx := B.exec
  have hb := B.bytes
  have hr := B.returns
  have hts0 := atoms_spec (ws := .code yX5_spells cX5_spells 4 (some .boolean) :: wsL_law) B.pre
  have hts := fun (w : Cond) (h : w ∈ wsL_law) => hts0 w (List.mem_cons_of_mem _ h)
  have hown : s.vm.findClass RX5 = some m.cls := findClass_of_methodNamed B.named
  have hlocks := B.notSynchronized
  subst hsz
  have hD := hD0.self (sz := s.heap.size)
  generalize hAe : va_A [(h0, .inr (5, [.ref a, .int (nI k)])), (a, .inl (cB, n, .inl f))] s.heap.size = A at hD hE ⊢
  have hA : ∀ q : Nat, s.heap.size ≤ q → A q := fun q h => by rw [← hAe]; exact Or.inr h
  have hS : va_S A s.heap s.heap [] := va_S.rf
  have hP : va_P D vwCl [(h0, .inr (5, [.ref a, .int (nI k)])), (a, .inl (cB, n, .inl f))] s.heap := hP
  have hl := lv_entry ([.ref h0, .int x, .int y, .ref (E.1 i)]) (n := 4) (Nat.le_of_ble_eq_true rfl)
  rw [lg_entry_eq]
  generalize (lg_sl ([.ref h0, .int x, .int y, .ref (E.1 i)]) ++ List.replicate (4 - (lg_sl ([.ref h0, .int x, .int y, .ref (E.1 i)])).length) Slot.unset).toArray = ls at hl ⊢
  have hl : lv_has ls 4 [(0, .ref h0), (1, .int x), (2, .int y), (3, .ref (E.1 i))] := hl
  refine lv_aload_n hx hb dX5_spells_0 rfl (lv_at hl 0 rfl) ?_
  refine lv_iload_n hx hb dX5_spells_1 rfl (lv_at hl 1 rfl) ?_
  have hPc := hP.sub (ws' := [(h0, .inr (5, [.ref a, .int (nI k)])), (a, .inl (cB, n, .inl f))]) [0, 1] rfl
  have hDc := hD.sub (ws' := [(h0, .inr (5, [.ref a, .int (nI k)])), (a, .inl (cB, n, .inl f))]) [0, 1] (by decide) rfl
  have hFc := va_free (wc := [(h0, .inr (5, [.ref a, .int (nI k)])), (a, .inl (cB, n, .inl f))]) hD hS hA [0, 1] rfl
  refine va_calli (va_runV (As := [.int x]) (rest := []) ⟨hx, hb, hml, hown, hts⟩ (s_X5_signAt l D cB cI cZ E s.heap.size h0 a n k f x (by first | assumption | omega) (by first | assumption | omega)) (cwV 1 hts (uV (uc9 _ (List.mem_of_getElem? (i := 21) rfl)) (uc9 _ (List.mem_of_getElem? (i := 22) rfl)) (uc9 _ (List.mem_of_getElem? (i := 23) rfl)) (uc1 _ (List.mem_of_getElem? (i := 14) rfl)) (uc10 _ (List.mem_of_getElem? (i := 0) rfl))) rfl rfl rfl (by decide +kernel) ⟨Nat.le_of_ble_eq_true rfl, Nat.le_of_ble_eq_true rfl⟩) (pVE hE hS hFc hK hPc hDc 0 rfl rfl) rfl rfl hl.1 rfl (lv_room (Nat.le_of_ble_eq_true rfl)) dX5_spells_2 ⟨Nat.le_of_ble_eq_true rfl, Nat.le_of_ble_eq_true rfl⟩) hS (fun q _ h => hFc q h) hFc (fun r_1 u t H_2 L_3 ht hvm hw hB hz1 hk1 hS => ?_)
  obtain ⟨hP1, -, hD1⟩ := hB
  rw [ht] at hP1
  obtain ⟨hP, hD⟩ := va_join (wr := []) (w1 := [(h0, .inr (5, [.ref a, .int (nI k)])), (a, .inl (cB, n, .inl f))]) hP hD [0, 1] [] rfl rfl (by decide) (by decide) hk1 hFc hP1 hD1
  have hP : va_P D vwCl [(h0, .inr (5, [.ref a, .int (nI k)])), (a, .inl (cB, n, .inl f))] H_2 := hP.sub [0, 1] rfl
  have hD : va_D A [(h0, .inr (5, [.ref a, .int (nI k)])), (a, .inl (cB, n, .inl f))] := hD.sub [0, 1] (by decide) rfl
  try dsimp only at hw
  have hPc := hP.sub (ws' := []) [] rfl
  have hDc := hD.sub (ws' := []) [] (by decide) rfl
  have hFc := va_free (wc := []) hD hS hA [] rfl
  refine va_calli (va_runSN (As := [.int r_1]) (rest := []) ⟨hx, hb, hml, hown, hts⟩ (s_isSmall l D cB cI cZ E H_2.size r_1) ⟨va_cnB 1 hts (uI (uc10 _ (List.mem_of_getElem? (i := 16) rfl))) rfl rfl rfl (pN_RX5_37 hE) (hts (.initialized RX8) (uc1 _ (List.mem_of_getElem? (i := 2) rfl))) (by decide +kernel) ⟨Nat.le_of_ble_eq_true rfl, Nat.le_of_ble_eq_true rfl⟩, (hts (.static yX8_isSmall) (uc10 _ (List.mem_of_getElem? (i := 15) rfl))), trivial⟩ (pSE hE hS hFc hK hPc hDc) rfl rfl hl.1 rfl (lv_room (Nat.le_of_ble_eq_true rfl)) dX5_spells_5 ⟨Nat.le_of_ble_eq_true rfl, Nat.le_of_ble_eq_true rfl⟩) hS (fun q _ h => hFc q h) hFc (fun r_4 u t H_5 L_6 ht hvm hw hB hz1 hk1 hS => ?_)
  obtain ⟨hP1, -, hD1⟩ := hB
  rw [ht] at hP1
  obtain ⟨hP, hD⟩ := va_join (wr := [(h0, .inr (5, [.ref a, .int (nI k)])), (a, .inl (cB, n, .inl f))]) (w1 := []) hP hD [] [0, 1] rfl rfl (by decide) (by decide) hk1 hFc hP1 hD1
  have hP : va_P D vwCl [(h0, .inr (5, [.ref a, .int (nI k)])), (a, .inl (cB, n, .inl f))] H_5 := hP.sub [0, 1] rfl
  have hD : va_D A [(h0, .inr (5, [.ref a, .int (nI k)])), (a, .inl (cB, n, .inl f))] := hD.sub [0, 1] (by decide) rfl
  try dsimp only at hw
  rcases hw with ⟨rfl, h_7⟩ | ⟨rfl, h_8, h_9⟩
  · refine lv_if_eq (tgt := 25) hx hb dX5_spells_8 (by decide) (fun c_10 => ?_) (fun c_10 => ?_)
    · refine lv_iconst (v := 0) hx hb dX5_spells_25 (by decide) ?_
      have hP9 := hP.sub (ws' := [(h0, .inr (5, [.ref a, .int (nI k)])), (a, .inl (cB, n, .inl f))]) [0, 1] rfl
      have hD9 := hD.sub (ws' := [(h0, .inr (5, [.ref a, .int (nI k)])), (a, .inl (cB, n, .inl f))]) [0, 1] (by decide) rfl
      exact W.zret (v := 0) hx hb hr (rfl) (fun t ht hW => ⟨⟨0, (), rfl, trivial, ⟨by rw [ht]; exact hP9, va_K.moved hW.alike hK, hD9⟩⟩, hS.F ht⟩) hS.2.2 dX5_spells_26
    · exact False.elim (by revert c_10; decide)
  · refine lv_if_eq (tgt := 25) hx hb dX5_spells_8 (by decide) (fun c_11 => ?_) (fun c_11 => ?_)
    · exact False.elim (by revert c_11; decide)
    · refine lv_aload_n hx hb dX5_spells_11 rfl (lv_at hl 0 rfl) ?_
      refine lv_iload_n hx hb dX5_spells_12 rfl (lv_at hl 1 rfl) ?_
      refine lv_iload_n hx hb dX5_spells_13 rfl (lv_at hl 2 rfl) ?_
      refine lv_aload_n hx hb dX5_spells_14 rfl (lv_at hl 3 rfl) ?_
      have hPc := hP.sub (ws' := [(h0, .inr (5, [.ref a, .int (nI k)])), (a, .inl (cB, n, .inl f))]) [0, 1] rfl
      have hDc := hD.sub (ws' := [(h0, .inr (5, [.ref a, .int (nI k)])), (a, .inl (cB, n, .inl f))]) [0, 1] (by decide) rfl
      have hFc := va_free (wc := [(h0, .inr (5, [.ref a, .int (nI k)])), (a, .inl (cB, n, .inl f))]) hD hS hA [0, 1] rfl
      refine va_calli (va_runV (As := [.int x, .int y, .ref (E.1 i)]) (rest := []) ⟨hx, hb, hml, hown, hts⟩ (s_X5_spellsWithAnyFirst l D cB cI cZ E H_5.size h0 a n k f x y i (by first | assumption | omega) (by first | assumption | omega) (by first | assumption | omega)) (cwV 3 hts (uV (uc12 _ (List.mem_of_getElem? (i := 0) rfl)) (uc12 _ (List.mem_of_getElem? (i := 1) rfl)) (uc12 _ (List.mem_of_getElem? (i := 2) rfl)) (uc1 _ (List.mem_of_getElem? (i := 14) rfl)) (uc12 _ (List.mem_of_getElem? (i := 3) rfl))) rfl rfl rfl (by decide +kernel) ⟨Nat.le_of_ble_eq_true rfl, Nat.le_of_ble_eq_true rfl⟩) (pVE hE hS hFc hK hPc hDc 0 rfl rfl) rfl rfl hl.1 rfl (lv_room (Nat.le_of_ble_eq_true rfl)) dX5_spells_15 ⟨Nat.le_of_ble_eq_true rfl, Nat.le_of_ble_eq_true rfl⟩) hS (fun q _ h => hFc q h) hFc (fun r_12 u t H_13 L_14 ht hvm hw hB hz1 hk1 hS => ?_)
      obtain ⟨hP1, -, hD1⟩ := hB
      rw [ht] at hP1
      obtain ⟨hP, hD⟩ := va_join (wr := []) (w1 := [(h0, .inr (5, [.ref a, .int (nI k)])), (a, .inl (cB, n, .inl f))]) hP hD [0, 1] [] rfl rfl (by decide) (by decide) hk1 hFc hP1 hD1
      have hP : va_P D vwCl [(h0, .inr (5, [.ref a, .int (nI k)])), (a, .inl (cB, n, .inl f))] H_13 := hP.sub [0, 1] rfl
      have hD : va_D A [(h0, .inr (5, [.ref a, .int (nI k)])), (a, .inl (cB, n, .inl f))] := hD.sub [0, 1] (by decide) rfl
      try dsimp only at hw
      refine lv_if_eq (tgt := 25) hx hb dX5_spells_18 (by decide) (fun c_15 => ?_) (fun c_15 => ?_)
      · refine lv_iconst (v := 0) hx hb dX5_spells_25 (by decide) ?_
        have hP9 := hP.sub (ws' := [(h0, .inr (5, [.ref a, .int (nI k)])), (a, .inl (cB, n, .inl f))]) [0, 1] rfl
        have hD9 := hD.sub (ws' := [(h0, .inr (5, [.ref a, .int (nI k)])), (a, .inl (cB, n, .inl f))]) [0, 1] (by decide) rfl
        exact W.zret (v := 0) hx hb hr (rfl) (fun t ht hW => ⟨⟨0, (), rfl, trivial, ⟨by rw [ht]; exact hP9, va_K.moved hW.alike hK, hD9⟩⟩, hS.F ht⟩) hS.2.2 dX5_spells_26
      · refine lv_iconst (v := 1) hx hb dX5_spells_21 (by decide) ?_
        refine lv_goto (tgt := 26) hx hb dX5_spells_22 (by decide) ?_
        have hP9 := hP.sub (ws' := [(h0, .inr (5, [.ref a, .int (nI k)])), (a, .inl (cB, n, .inl f))]) [0, 1] rfl
        have hD9 := hD.sub (ws' := [(h0, .inr (5, [.ref a, .int (nI k)])), (a, .inl (cB, n, .inl f))]) [0, 1] (by decide) rfl
        exact W.zret (v := 1) hx hb hr (rfl) (fun t ht hW => ⟨⟨1, (), rfl, trivial, ⟨by rw [ht]; exact hP9, va_K.moved hW.alike hK, hD9⟩⟩, hS.F ht⟩) hS.2.2 dX5_spells_26
set_option maxHeartbeats 4000000 in
set_option maxRecDepth 100000 in
theorem s_X5_spellsOne (l : Launch) (D : va_G) (cB cI cZ : ClassId) (E : pEt) (sz : Nat) (h0 : Nat) (a : Nat) (n : Nat) (k : Nat) (f : Nat → Int32) (x : Int32) (y : Int32) (i1 : Nat) (i2 : Nat) (i3 : Nat) (hk : k ≤ n) (hn : n ≤ 600) (hi1 : i1 < 14) (hi2 : i2 < 14) (hi3 : i3 < 14) : Met l yX5_spellsOne (.code yX5_spellsOne cX5_spellsOne 6 (some .boolean) :: wsL_law) ({ frames := 5, cells := 0, slots := 0, locals := 111 } : Room) (va_Pc [.ref h0, .int x, .int y, .ref (E.1 i1), .ref (E.1 i2), .ref (E.1 i3)] (pInE E D (pT cB cI cZ) sz [(h0, .inr (5, [.ref a, .int (nI k)])), (a, .inl (cB, n, .inl f))])) (va_Qi (fun (r : Int32) (u : Unit) => True) (fun (u : Unit) (t : State) => pAt D (pT cB cI cZ) (va_A [(h0, .inr (5, [.ref a, .int (nI k)])), (a, .inl (cB, n, .inl f))] sz) [(h0, .inr (5, [.ref a, .int (nI k)])), (a, .inl (cB, n, .inl f))] t) (va_A [(h0, .inr (5, [.ref a, .int (nI k)])), (a, .inl (cB, n, .inl f))] sz)) 0 0 (va_A [(h0, .inr (5, [.ref a, .int (nI k)])), (a, .inl (cB, n, .inl f))] sz) := by
  refine Met.ofW (cc := cX5_spellsOne) (maxL := 6) (ret := (some .boolean)) (by decide) rfl ?_
  intro p e s m args below meth cd s₁ B hml hv
  obtain ⟨rfl, hsz, hP, hK, hD0, hE⟩ := hv
  have hx := B.exec
  have hb := B.bytes
  have hr := B.returns
  have hts0 := atoms_spec (ws := .code yX5_spellsOne cX5_spellsOne 6 (some .boolean) :: wsL_law) B.pre
  have hts := fun (w : Cond) (h : w ∈ wsL_law) => hts0 w (List.mem_cons_of_mem _ h)
  have hown : s.vm.findClass RX5 = some m.cls := findClass_of_methodNamed B.named
  have hlocks := B.notSynchronized
  subst hsz
  have hD := hD0.self (sz := s.heap.size)
  generalize hAe : va_A [(h0, .inr (5, [.ref a, .int (nI k)])), (a, .inl (cB, n, .inl f))] s.heap.size = A at hD hE ⊢
  have hA : ∀ q : Nat, s.heap.size ≤ q → A q := fun q h => by rw [← hAe]; exact Or.inr h
  have hS : va_S A s.heap s.heap [] := va_S.rf
  have hP : va_P D vwCl [(h0, .inr (5, [.ref a, .int (nI k)])), (a, .inl (cB, n, .inl f))] s.heap := hP
  have hl := lv_entry ([.ref h0, .int x, .int y, .ref (E.1 i1), .ref (E.1 i2), .ref (E.1 i3)]) (n := 6) (Nat.le_of_ble_eq_true rfl)
  rw [lg_entry_eq]
  generalize (lg_sl ([.ref h0, .int x, .int y, .ref (E.1 i1), .ref (E.1 i2), .ref (E.1 i3)]) ++ List.replicate (6 - (lg_sl ([.ref h0, .int x, .int y, .ref (E.1 i1), .ref (E.1 i2), .ref (E.1 i3)])).length) Slot.unset).toArray = ls at hl ⊢
  have hl : lv_has ls 6 [(0, .ref h0), (1, .int x), (2, .int y), (3, .ref (E.1 i1)), (4, .ref (E.1 i2)), (5, .ref (E.1 i3))] := hl
  refine lv_aload_n hx hb dX5_spellsOne_0 rfl (lv_at hl 0 rfl) ?_
  refine lv_iload_n hx hb dX5_spellsOne_1 rfl (lv_at hl 1 rfl) ?_
  refine lv_iload_n hx hb dX5_spellsOne_2 rfl (lv_at hl 2 rfl) ?_
  refine lv_aload_n hx hb dX5_spellsOne_3 rfl (lv_at hl 3 rfl) ?_
  have hPc := hP.sub (ws' := [(h0, .inr (5, [.ref a, .int (nI k)])), (a, .inl (cB, n, .inl f))]) [0, 1] rfl
  have hDc := hD.sub (ws' := [(h0, .inr (5, [.ref a, .int (nI k)])), (a, .inl (cB, n, .inl f))]) [0, 1] (by decide) rfl
  have hFc := va_free (wc := [(h0, .inr (5, [.ref a, .int (nI k)])), (a, .inl (cB, n, .inl f))]) hD hS hA [0, 1] rfl
  refine va_calli (va_runV (As := [.int x, .int y, .ref (E.1 i1)]) (rest := []) ⟨hx, hb, hml, hown, hts⟩ (s_X5_spellsWithAnyFirst l D cB cI cZ E s.heap.size h0 a n k f x y i1 (by first | assumption | omega) (by first | assumption | omega) (by first | assumption | omega)) (cwV 3 hts (uV (uc12 _ (List.mem_of_getElem? (i := 0) rfl)) (uc12 _ (List.mem_of_getElem? (i := 1) rfl)) (uc12 _ (List.mem_of_getElem? (i := 2) rfl)) (uc1 _ (List.mem_of_getElem? (i := 14) rfl)) (uc12 _ (List.mem_of_getElem? (i := 3) rfl))) rfl rfl rfl (by decide +kernel) ⟨Nat.le_of_ble_eq_true rfl, Nat.le_of_ble_eq_true rfl⟩) (pVE hE hS hFc hK hPc hDc 0 rfl rfl) rfl rfl hl.1 rfl (lv_room (Nat.le_of_ble_eq_true rfl)) dX5_spellsOne_4 ⟨Nat.le_of_ble_eq_true rfl, Nat.le_of_ble_eq_true rfl⟩) hS (fun q _ h => hFc q h) hFc (fun r_1 u t H_2 L_3 ht hvm hw hB hz1 hk1 hS => ?_)
  obtain ⟨hP1, -, hD1⟩ := hB
  rw [ht] at hP1
  obtain ⟨hP, hD⟩ := va_join (wr := []) (w1 := [(h0, .inr (5, [.ref a, .int (nI k)])), (a, .inl (cB, n, .inl f))]) hP hD [0, 1] [] rfl rfl (by decide) (by decide) hk1 hFc hP1 hD1
  have hP : va_P D vwCl [(h0, .inr (5, [.ref a, .int (nI k)])), (a, .inl (cB, n, .inl f))] H_2 := hP.sub [0, 1] rfl
  have hD : va_D A [(h0, .inr (5, [.ref a, .int (nI k)])), (a, .inl (cB, n, .inl f))] := hD.sub [0, 1] (by decide) rfl
  try dsimp only at hw
  refine lv_if_ne (tgt := 32) hx hb dX5_spellsOne_7 (by decide) (fun c_4 => ?_) (fun c_4 => ?_)
  · refine lv_iconst (v := 1) hx hb dX5_spellsOne_32 (by decide) ?_
    refine lv_goto (tgt := 37) hx hb dX5_spellsOne_33 (by decide) ?_
    have hP9 := hP.sub (ws' := [(h0, .inr (5, [.ref a, .int (nI k)])), (a, .inl (cB, n, .inl f))]) [0, 1] rfl
    have hD9 := hD.sub (ws' := [(h0, .inr (5, [.ref a, .int (nI k)])), (a, .inl (cB, n, .inl f))]) [0, 1] (by decide) rfl
    exact W.zret (v := 1) hx hb hr (rfl) (fun t ht hW => ⟨⟨1, (), rfl, trivial, ⟨by rw [ht]; exact hP9, va_K.moved hW.alike hK, hD9⟩⟩, hS.F ht⟩) hS.2.2 dX5_spellsOne_37
  · refine lv_aload_n hx hb dX5_spellsOne_10 rfl (lv_at hl 0 rfl) ?_
    refine lv_iload_n hx hb dX5_spellsOne_11 rfl (lv_at hl 1 rfl) ?_
    refine lv_iload_n hx hb dX5_spellsOne_12 rfl (lv_at hl 2 rfl) ?_
    refine lv_aload hx hb dX5_spellsOne_13 (lv_at hl 4 rfl) ?_
    have hPc := hP.sub (ws' := [(h0, .inr (5, [.ref a, .int (nI k)])), (a, .inl (cB, n, .inl f))]) [0, 1] rfl
    have hDc := hD.sub (ws' := [(h0, .inr (5, [.ref a, .int (nI k)])), (a, .inl (cB, n, .inl f))]) [0, 1] (by decide) rfl
    have hFc := va_free (wc := [(h0, .inr (5, [.ref a, .int (nI k)])), (a, .inl (cB, n, .inl f))]) hD hS hA [0, 1] rfl
    refine va_calli (va_runV (As := [.int x, .int y, .ref (E.1 i2)]) (rest := []) ⟨hx, hb, hml, hown, hts⟩ (s_X5_spellsWithAnyFirst l D cB cI cZ E H_2.size h0 a n k f x y i2 (by first | assumption | omega) (by first | assumption | omega) (by first | assumption | omega)) (cwV 3 hts (uV (uc12 _ (List.mem_of_getElem? (i := 0) rfl)) (uc12 _ (List.mem_of_getElem? (i := 1) rfl)) (uc12 _ (List.mem_of_getElem? (i := 2) rfl)) (uc1 _ (List.mem_of_getElem? (i := 14) rfl)) (uc12 _ (List.mem_of_getElem? (i := 3) rfl))) rfl rfl rfl (by decide +kernel) ⟨Nat.le_of_ble_eq_true rfl, Nat.le_of_ble_eq_true rfl⟩) (pVE hE hS hFc hK hPc hDc 0 rfl rfl) rfl rfl hl.1 rfl (lv_room (Nat.le_of_ble_eq_true rfl)) dX5_spellsOne_15 ⟨Nat.le_of_ble_eq_true rfl, Nat.le_of_ble_eq_true rfl⟩) hS (fun q _ h => hFc q h) hFc (fun r_5 u t H_6 L_7 ht hvm hw hB hz1 hk1 hS => ?_)
    obtain ⟨hP1, -, hD1⟩ := hB
    rw [ht] at hP1
    obtain ⟨hP, hD⟩ := va_join (wr := []) (w1 := [(h0, .inr (5, [.ref a, .int (nI k)])), (a, .inl (cB, n, .inl f))]) hP hD [0, 1] [] rfl rfl (by decide) (by decide) hk1 hFc hP1 hD1
    have hP : va_P D vwCl [(h0, .inr (5, [.ref a, .int (nI k)])), (a, .inl (cB, n, .inl f))] H_6 := hP.sub [0, 1] rfl
    have hD : va_D A [(h0, .inr (5, [.ref a, .int (nI k)])), (a, .inl (cB, n, .inl f))] := hD.sub [0, 1] (by decide) rfl
    try dsimp only at hw
    refine lv_if_ne (tgt := 32) hx hb dX5_spellsOne_18 (by decide) (fun c_8 => ?_) (fun c_8 => ?_)
    · refine lv_iconst (v := 1) hx hb dX5_spellsOne_32 (by decide) ?_
      refine lv_goto (tgt := 37) hx hb dX5_spellsOne_33 (by decide) ?_
      have hP9 := hP.sub (ws' := [(h0, .inr (5, [.ref a, .int (nI k)])), (a, .inl (cB, n, .inl f))]) [0, 1] rfl
      have hD9 := hD.sub (ws' := [(h0, .inr (5, [.ref a, .int (nI k)])), (a, .inl (cB, n, .inl f))]) [0, 1] (by decide) rfl
      exact W.zret (v := 1) hx hb hr (rfl) (fun t ht hW => ⟨⟨1, (), rfl, trivial, ⟨by rw [ht]; exact hP9, va_K.moved hW.alike hK, hD9⟩⟩, hS.F ht⟩) hS.2.2 dX5_spellsOne_37
    · refine lv_aload_n hx hb dX5_spellsOne_21 rfl (lv_at hl 0 rfl) ?_
      refine lv_iload_n hx hb dX5_spellsOne_22 rfl (lv_at hl 1 rfl) ?_
      refine lv_iload_n hx hb dX5_spellsOne_23 rfl (lv_at hl 2 rfl) ?_
      refine lv_aload hx hb dX5_spellsOne_24 (lv_at hl 5 rfl) ?_
      have hPc := hP.sub (ws' := [(h0, .inr (5, [.ref a, .int (nI k)])), (a, .inl (cB, n, .inl f))]) [0, 1] rfl
      have hDc := hD.sub (ws' := [(h0, .inr (5, [.ref a, .int (nI k)])), (a, .inl (cB, n, .inl f))]) [0, 1] (by decide) rfl
      have hFc := va_free (wc := [(h0, .inr (5, [.ref a, .int (nI k)])), (a, .inl (cB, n, .inl f))]) hD hS hA [0, 1] rfl
      refine va_calli (va_runV (As := [.int x, .int y, .ref (E.1 i3)]) (rest := []) ⟨hx, hb, hml, hown, hts⟩ (s_X5_spellsWithAnyFirst l D cB cI cZ E H_6.size h0 a n k f x y i3 (by first | assumption | omega) (by first | assumption | omega) (by first | assumption | omega)) (cwV 3 hts (uV (uc12 _ (List.mem_of_getElem? (i := 0) rfl)) (uc12 _ (List.mem_of_getElem? (i := 1) rfl)) (uc12 _ (List.mem_of_getElem? (i := 2) rfl)) (uc1 _ (List.mem_of_getElem? (i := 14) rfl)) (uc12 _ (List.mem_of_getElem? (i := 3) rfl))) rfl rfl rfl (by decide +kernel) ⟨Nat.le_of_ble_eq_true rfl, Nat.le_of_ble_eq_true rfl⟩) (pVE hE hS hFc hK hPc hDc 0 rfl rfl) rfl rfl hl.1 rfl (lv_room (Nat.le_of_ble_eq_true rfl)) dX5_spellsOne_26 ⟨Nat.le_of_ble_eq_true rfl, Nat.le_of_ble_eq_true rfl⟩) hS (fun q _ h => hFc q h) hFc (fun r_9 u t H_10 L_11 ht hvm hw hB hz1 hk1 hS => ?_)
      obtain ⟨hP1, -, hD1⟩ := hB
      rw [ht] at hP1
      obtain ⟨hP, hD⟩ := va_join (wr := []) (w1 := [(h0, .inr (5, [.ref a, .int (nI k)])), (a, .inl (cB, n, .inl f))]) hP hD [0, 1] [] rfl rfl (by decide) (by decide) hk1 hFc hP1 hD1
      have hP : va_P D vwCl [(h0, .inr (5, [.ref a, .int (nI k)])), (a, .inl (cB, n, .inl f))] H_10 := hP.sub [0, 1] rfl
      have hD : va_D A [(h0, .inr (5, [.ref a, .int (nI k)])), (a, .inl (cB, n, .inl f))] := hD.sub [0, 1] (by decide) rfl
      try dsimp only at hw
      refine lv_if_eq (tgt := 36) hx hb dX5_spellsOne_29 (by decide) (fun c_12 => ?_) (fun c_12 => ?_)
      · refine lv_iconst (v := 0) hx hb dX5_spellsOne_36 (by decide) ?_
        have hP9 := hP.sub (ws' := [(h0, .inr (5, [.ref a, .int (nI k)])), (a, .inl (cB, n, .inl f))]) [0, 1] rfl
        have hD9 := hD.sub (ws' := [(h0, .inr (5, [.ref a, .int (nI k)])), (a, .inl (cB, n, .inl f))]) [0, 1] (by decide) rfl
        exact W.zret (v := 0) hx hb hr (rfl) (fun t ht hW => ⟨⟨0, (), rfl, trivial, ⟨by rw [ht]; exact hP9, va_K.moved hW.alike hK, hD9⟩⟩, hS.F ht⟩) hS.2.2 dX5_spellsOne_37
      · refine lv_iconst (v := 1) hx hb dX5_spellsOne_32 (by decide) ?_
        refine lv_goto (tgt := 37) hx hb dX5_spellsOne_33 (by decide) ?_
        have hP9 := hP.sub (ws' := [(h0, .inr (5, [.ref a, .int (nI k)])), (a, .inl (cB, n, .inl f))]) [0, 1] rfl
        have hD9 := hD.sub (ws' := [(h0, .inr (5, [.ref a, .int (nI k)])), (a, .inl (cB, n, .inl f))]) [0, 1] (by decide) rfl
        exact W.zret (v := 1) hx hb hr (rfl) (fun t ht hW => ⟨⟨1, (), rfl, trivial, ⟨by rw [ht]; exact hP9, va_K.moved hW.alike hK, hD9⟩⟩, hS.F ht⟩) hS.2.2 dX5_spellsOne_37
set_option maxHeartbeats 4000000 in
set_option maxRecDepth 100000 in
theorem s_X5_heWordSex (l : Launch) (D : va_G) (cB cI cZ : ClassId) (E : pEt) (sz : Nat) (h0 : Nat) (a : Nat) (n : Nat) (k : Nat) (f : Nat → Int32) (x : Int32) (y : Int32) (hk : k ≤ n) (hn : n ≤ 600) : Met l yX5_heWordSex (.code yX5_heWordSex cX5_heWordSex 3 (some .int) :: wsL_law) ({ frames := 6, cells := 0, slots := 0, locals := 136 } : Room) (va_Pc [.ref h0, .int x, .int y] (pInE E D (pT cB cI cZ) sz [(h0, .inr (5, [.ref a, .int (nI k)])), (a, .inl (cB, n, .inl f))])) (va_Qi (fun (r : Int32) (u : Unit) => True) (fun (u : Unit) (t : State) => pAt D (pT cB cI cZ) (va_A [(h0, .inr (5, [.ref a, .int (nI k)])), (a, .inl (cB, n, .inl f))] sz) [(h0, .inr (5, [.ref a, .int (nI k)])), (a, .inl (cB, n, .inl f))] t) (va_A [(h0, .inr (5, [.ref a, .int (nI k)])), (a, .inl (cB, n, .inl f))] sz)) 0 0 (va_A [(h0, .inr (5, [.ref a, .int (nI k)])), (a, .inl (cB, n, .inl f))] sz) := by
  refine Met.ofW (cc := cX5_heWordSex) (maxL := 3) (ret := (some .int)) (by decide) rfl ?_
  intro p e s m args below meth cd s₁ B hml hv
  obtain ⟨rfl, hsz, hP, hK, hD0, hE⟩ := hv
  have hx := B.exec
  have hb := B.bytes
  have hr := B.returns
  have hts0 := atoms_spec (ws := .code yX5_heWordSex cX5_heWordSex 3 (some .int) :: wsL_law) B.pre
  have hts := fun (w : Cond) (h : w ∈ wsL_law) => hts0 w (List.mem_cons_of_mem _ h)
  have hown : s.vm.findClass RX5 = some m.cls := findClass_of_methodNamed B.named
  have hlocks := B.notSynchronized
  subst hsz
  have hD := hD0.self (sz := s.heap.size)
  generalize hAe : va_A [(h0, .inr (5, [.ref a, .int (nI k)])), (a, .inl (cB, n, .inl f))] s.heap.size = A at hD hE ⊢
  have hA : ∀ q : Nat, s.heap.size ≤ q → A q := fun q h => by rw [← hAe]; exact Or.inr h
  have hS : va_S A s.heap s.heap [] := va_S.rf
  have hP : va_P D vwCl [(h0, .inr (5, [.ref a, .int (nI k)])), (a, .inl (cB, n, .inl f))] s.heap := hP
  have hl := lv_entry ([.ref h0, .int x, .int y]) (n := 3) (Nat.le_of_ble_eq_true rfl)
  rw [lg_entry_eq]
  generalize (lg_sl ([.ref h0, .int x, .int y]) ++ List.replicate (3 - (lg_sl ([.ref h0, .int x, .int y])).length) Slot.unset).toArray = ls at hl ⊢
  have hl : lv_has ls 3 [(0, .ref h0), (1, .int x), (2, .int y)] := hl
  refine lv_aload_n hx hb dX5_heWordSex_0 rfl (lv_at hl 0 rfl) ?_
  refine lv_iload_n hx hb dX5_heWordSex_1 rfl (lv_at hl 1 rfl) ?_
  refine lv_iload_n hx hb dX5_heWordSex_2 rfl (lv_at hl 2 rfl) ?_
  refine va_ldcS hx hb hown (pR_RX5_48 hE) dX5_heWordSex_3 ?_
  refine va_ldcS hx hb hown (pR_RX5_50 hE) dX5_heWordSex_5 ?_
  refine va_ldcS hx hb hown (pR_RX5_52 hE) dX5_heWordSex_7 ?_
  have hPc := hP.sub (ws' := [(h0, .inr (5, [.ref a, .int (nI k)])), (a, .inl (cB, n, .inl f))]) [0, 1] rfl
  have hDc := hD.sub (ws' := [(h0, .inr (5, [.ref a, .int (nI k)])), (a, .inl (cB, n, .inl f))]) [0, 1] (by decide) rfl
  have hFc := va_free (wc := [(h0, .inr (5, [.ref a, .int (nI k)])), (a, .inl (cB, n, .inl f))]) hD hS hA [0, 1] rfl
  refine va_calli (va_runV (As := [.int x, .int y, .ref (E.1 0), .ref (E.1 1), .ref (E.1 2)]) (rest := []) ⟨hx, hb, hml, hown, hts⟩ (s_X5_spellsOne l D cB cI cZ E s.heap.size h0 a n k f x y 0 1 2 (by first | assumption | omega) (by first | assumption | omega) (by first | assumption | omega) (by first | assumption | omega) (by first | assumption | omega)) (cwV 5 hts (uV (uc11 _ (List.mem_of_getElem? (i := 20) rfl)) (uc11 _ (List.mem_of_getElem? (i := 21) rfl)) (uc11 _ (List.mem_of_getElem? (i := 22) rfl)) (uc1 _ (List.mem_of_getElem? (i := 14) rfl)) (uc11 _ (List.mem_of_getElem? (i := 23) rfl))) rfl rfl rfl (by decide +kernel) ⟨Nat.le_of_ble_eq_true rfl, Nat.le_of_ble_eq_true rfl⟩) (pVE hE hS hFc hK hPc hDc 0 rfl rfl) rfl rfl hl.1 rfl (lv_room (Nat.le_of_ble_eq_true rfl)) dX5_heWordSex_9 ⟨Nat.le_of_ble_eq_true rfl, Nat.le_of_ble_eq_true rfl⟩) hS (fun q _ h => hFc q h) hFc (fun r_1 u t H_2 L_3 ht hvm hw hB hz1 hk1 hS => ?_)
  obtain ⟨hP1, -, hD1⟩ := hB
  rw [ht] at hP1
  obtain ⟨hP, hD⟩ := va_join (wr := []) (w1 := [(h0, .inr (5, [.ref a, .int (nI k)])), (a, .inl (cB, n, .inl f))]) hP hD [0, 1] [] rfl rfl (by decide) (by decide) hk1 hFc hP1 hD1
  have hP : va_P D vwCl [(h0, .inr (5, [.ref a, .int (nI k)])), (a, .inl (cB, n, .inl f))] H_2 := hP.sub [0, 1] rfl
  have hD : va_D A [(h0, .inr (5, [.ref a, .int (nI k)])), (a, .inl (cB, n, .inl f))] := hD.sub [0, 1] (by decide) rfl
  try dsimp only at hw
  refine lv_if_eq (tgt := 17) hx hb dX5_heWordSex_12 (by decide) (fun c_4 => ?_) (fun c_4 => ?_)
  · refine lv_aload_n hx hb dX5_heWordSex_17 rfl (lv_at hl 0 rfl) ?_
    refine lv_iload_n hx hb dX5_heWordSex_18 rfl (lv_at hl 1 rfl) ?_
    refine lv_iload_n hx hb dX5_heWordSex_19 rfl (lv_at hl 2 rfl) ?_
    refine va_ldcS hx hb hown (pR_RX5_58 hE) dX5_heWordSex_20 ?_
    refine va_ldcS hx hb hown (pR_RX5_60 hE) dX5_heWordSex_22 ?_
    refine va_ldcS hx hb hown (pR_RX5_62 hE) dX5_heWordSex_24 ?_
    have hPc := hP.sub (ws' := [(h0, .inr (5, [.ref a, .int (nI k)])), (a, .inl (cB, n, .inl f))]) [0, 1] rfl
    have hDc := hD.sub (ws' := [(h0, .inr (5, [.ref a, .int (nI k)])), (a, .inl (cB, n, .inl f))]) [0, 1] (by decide) rfl
    have hFc := va_free (wc := [(h0, .inr (5, [.ref a, .int (nI k)])), (a, .inl (cB, n, .inl f))]) hD hS hA [0, 1] rfl
    refine va_calli (va_runV (As := [.int x, .int y, .ref (E.1 3), .ref (E.1 4), .ref (E.1 5)]) (rest := []) ⟨hx, hb, hml, hown, hts⟩ (s_X5_spellsOne l D cB cI cZ E H_2.size h0 a n k f x y 3 4 5 (by first | assumption | omega) (by first | assumption | omega) (by first | assumption | omega) (by first | assumption | omega) (by first | assumption | omega)) (cwV 5 hts (uV (uc11 _ (List.mem_of_getElem? (i := 20) rfl)) (uc11 _ (List.mem_of_getElem? (i := 21) rfl)) (uc11 _ (List.mem_of_getElem? (i := 22) rfl)) (uc1 _ (List.mem_of_getElem? (i := 14) rfl)) (uc11 _ (List.mem_of_getElem? (i := 23) rfl))) rfl rfl rfl (by decide +kernel) ⟨Nat.le_of_ble_eq_true rfl, Nat.le_of_ble_eq_true rfl⟩) (pVE hE hS hFc hK hPc hDc 0 rfl rfl) rfl rfl hl.1 rfl (lv_room (Nat.le_of_ble_eq_true rfl)) dX5_heWordSex_26 ⟨Nat.le_of_ble_eq_true rfl, Nat.le_of_ble_eq_true rfl⟩) hS (fun q _ h => hFc q h) hFc (fun r_5 u t H_6 L_7 ht hvm hw hB hz1 hk1 hS => ?_)
    obtain ⟨hP1, -, hD1⟩ := hB
    rw [ht] at hP1
    obtain ⟨hP, hD⟩ := va_join (wr := []) (w1 := [(h0, .inr (5, [.ref a, .int (nI k)])), (a, .inl (cB, n, .inl f))]) hP hD [0, 1] [] rfl rfl (by decide) (by decide) hk1 hFc hP1 hD1
    have hP : va_P D vwCl [(h0, .inr (5, [.ref a, .int (nI k)])), (a, .inl (cB, n, .inl f))] H_6 := hP.sub [0, 1] rfl
    have hD : va_D A [(h0, .inr (5, [.ref a, .int (nI k)])), (a, .inl (cB, n, .inl f))] := hD.sub [0, 1] (by decide) rfl
    try dsimp only at hw
    refine lv_if_eq (tgt := 34) hx hb dX5_heWordSex_29 (by decide) (fun c_8 => ?_) (fun c_8 => ?_)
    · refine lv_aload_n hx hb dX5_heWordSex_34 rfl (lv_at hl 0 rfl) ?_
      refine lv_iload_n hx hb dX5_heWordSex_35 rfl (lv_at hl 1 rfl) ?_
      refine lv_iload_n hx hb dX5_heWordSex_36 rfl (lv_at hl 2 rfl) ?_
      refine va_ldcS hx hb hown (pR_RX5_64 hE) dX5_heWordSex_37 ?_
      refine va_ldcS hx hb hown (pR_RX5_66 hE) dX5_heWordSex_39 ?_
      refine va_ldcS hx hb hown (pR_RX5_66 hE) dX5_heWordSex_41 ?_
      have hPc := hP.sub (ws' := [(h0, .inr (5, [.ref a, .int (nI k)])), (a, .inl (cB, n, .inl f))]) [0, 1] rfl
      have hDc := hD.sub (ws' := [(h0, .inr (5, [.ref a, .int (nI k)])), (a, .inl (cB, n, .inl f))]) [0, 1] (by decide) rfl
      have hFc := va_free (wc := [(h0, .inr (5, [.ref a, .int (nI k)])), (a, .inl (cB, n, .inl f))]) hD hS hA [0, 1] rfl
      refine va_calli (va_runV (As := [.int x, .int y, .ref (E.1 6), .ref (E.1 7), .ref (E.1 7)]) (rest := []) ⟨hx, hb, hml, hown, hts⟩ (s_X5_spellsOne l D cB cI cZ E H_6.size h0 a n k f x y 6 7 7 (by first | assumption | omega) (by first | assumption | omega) (by first | assumption | omega) (by first | assumption | omega) (by first | assumption | omega)) (cwV 5 hts (uV (uc11 _ (List.mem_of_getElem? (i := 20) rfl)) (uc11 _ (List.mem_of_getElem? (i := 21) rfl)) (uc11 _ (List.mem_of_getElem? (i := 22) rfl)) (uc1 _ (List.mem_of_getElem? (i := 14) rfl)) (uc11 _ (List.mem_of_getElem? (i := 23) rfl))) rfl rfl rfl (by decide +kernel) ⟨Nat.le_of_ble_eq_true rfl, Nat.le_of_ble_eq_true rfl⟩) (pVE hE hS hFc hK hPc hDc 0 rfl rfl) rfl rfl hl.1 rfl (lv_room (Nat.le_of_ble_eq_true rfl)) dX5_heWordSex_43 ⟨Nat.le_of_ble_eq_true rfl, Nat.le_of_ble_eq_true rfl⟩) hS (fun q _ h => hFc q h) hFc (fun r_9 u t H_10 L_11 ht hvm hw hB hz1 hk1 hS => ?_)
      obtain ⟨hP1, -, hD1⟩ := hB
      rw [ht] at hP1
      obtain ⟨hP, hD⟩ := va_join (wr := []) (w1 := [(h0, .inr (5, [.ref a, .int (nI k)])), (a, .inl (cB, n, .inl f))]) hP hD [0, 1] [] rfl rfl (by decide) (by decide) hk1 hFc hP1 hD1
      have hP : va_P D vwCl [(h0, .inr (5, [.ref a, .int (nI k)])), (a, .inl (cB, n, .inl f))] H_10 := hP.sub [0, 1] rfl
      have hD : va_D A [(h0, .inr (5, [.ref a, .int (nI k)])), (a, .inl (cB, n, .inl f))] := hD.sub [0, 1] (by decide) rfl
      try dsimp only at hw
      refine lv_if_eq (tgt := 51) hx hb dX5_heWordSex_46 (by decide) (fun c_12 => ?_) (fun c_12 => ?_)
      · refine lv_aload_n hx hb dX5_heWordSex_51 rfl (lv_at hl 0 rfl) ?_
        refine lv_iload_n hx hb dX5_heWordSex_52 rfl (lv_at hl 1 rfl) ?_
        refine lv_iload_n hx hb dX5_heWordSex_53 rfl (lv_at hl 2 rfl) ?_
        refine va_ldcS hx hb hown (pR_RX5_68 hE) dX5_heWordSex_54 ?_
        refine va_ldcS hx hb hown (pR_RX5_70 hE) dX5_heWordSex_56 ?_
        refine va_ldcS hx hb hown (pR_RX5_72 hE) dX5_heWordSex_58 ?_
        have hPc := hP.sub (ws' := [(h0, .inr (5, [.ref a, .int (nI k)])), (a, .inl (cB, n, .inl f))]) [0, 1] rfl
        have hDc := hD.sub (ws' := [(h0, .inr (5, [.ref a, .int (nI k)])), (a, .inl (cB, n, .inl f))]) [0, 1] (by decide) rfl
        have hFc := va_free (wc := [(h0, .inr (5, [.ref a, .int (nI k)])), (a, .inl (cB, n, .inl f))]) hD hS hA [0, 1] rfl
        refine va_calli (va_runV (As := [.int x, .int y, .ref (E.1 8), .ref (E.1 9), .ref (E.1 10)]) (rest := []) ⟨hx, hb, hml, hown, hts⟩ (s_X5_spellsOne l D cB cI cZ E H_10.size h0 a n k f x y 8 9 10 (by first | assumption | omega) (by first | assumption | omega) (by first | assumption | omega) (by first | assumption | omega) (by first | assumption | omega)) (cwV 5 hts (uV (uc11 _ (List.mem_of_getElem? (i := 20) rfl)) (uc11 _ (List.mem_of_getElem? (i := 21) rfl)) (uc11 _ (List.mem_of_getElem? (i := 22) rfl)) (uc1 _ (List.mem_of_getElem? (i := 14) rfl)) (uc11 _ (List.mem_of_getElem? (i := 23) rfl))) rfl rfl rfl (by decide +kernel) ⟨Nat.le_of_ble_eq_true rfl, Nat.le_of_ble_eq_true rfl⟩) (pVE hE hS hFc hK hPc hDc 0 rfl rfl) rfl rfl hl.1 rfl (lv_room (Nat.le_of_ble_eq_true rfl)) dX5_heWordSex_60 ⟨Nat.le_of_ble_eq_true rfl, Nat.le_of_ble_eq_true rfl⟩) hS (fun q _ h => hFc q h) hFc (fun r_13 u t H_14 L_15 ht hvm hw hB hz1 hk1 hS => ?_)
        obtain ⟨hP1, -, hD1⟩ := hB
        rw [ht] at hP1
        obtain ⟨hP, hD⟩ := va_join (wr := []) (w1 := [(h0, .inr (5, [.ref a, .int (nI k)])), (a, .inl (cB, n, .inl f))]) hP hD [0, 1] [] rfl rfl (by decide) (by decide) hk1 hFc hP1 hD1
        have hP : va_P D vwCl [(h0, .inr (5, [.ref a, .int (nI k)])), (a, .inl (cB, n, .inl f))] H_14 := hP.sub [0, 1] rfl
        have hD : va_D A [(h0, .inr (5, [.ref a, .int (nI k)])), (a, .inl (cB, n, .inl f))] := hD.sub [0, 1] (by decide) rfl
        try dsimp only at hw
        refine lv_if_eq (tgt := 70) hx hb dX5_heWordSex_63 (by decide) (fun c_16 => ?_) (fun c_16 => ?_)
        · refine lv_iconst (v := 0) hx hb dX5_heWordSex_70 (by decide) ?_
          have hP9 := hP.sub (ws' := [(h0, .inr (5, [.ref a, .int (nI k)])), (a, .inl (cB, n, .inl f))]) [0, 1] rfl
          have hD9 := hD.sub (ws' := [(h0, .inr (5, [.ref a, .int (nI k)])), (a, .inl (cB, n, .inl f))]) [0, 1] (by decide) rfl
          exact W.iret (v := 0) hx hb hr (fun t ht hW => ⟨⟨0, (), rfl, trivial, ⟨by rw [ht]; exact hP9, va_K.moved hW.alike hK, hD9⟩⟩, hS.F ht⟩) hS.2.2 dX5_heWordSex_71
        · refine lv_iconst (v := 4) hx hb dX5_heWordSex_66 (by decide) ?_
          refine lv_goto (tgt := 71) hx hb dX5_heWordSex_67 (by decide) ?_
          have hP9 := hP.sub (ws' := [(h0, .inr (5, [.ref a, .int (nI k)])), (a, .inl (cB, n, .inl f))]) [0, 1] rfl
          have hD9 := hD.sub (ws' := [(h0, .inr (5, [.ref a, .int (nI k)])), (a, .inl (cB, n, .inl f))]) [0, 1] (by decide) rfl
          exact W.iret (v := 4) hx hb hr (fun t ht hW => ⟨⟨4, (), rfl, trivial, ⟨by rw [ht]; exact hP9, va_K.moved hW.alike hK, hD9⟩⟩, hS.F ht⟩) hS.2.2 dX5_heWordSex_71
      · refine lv_iconst (v := 3) hx hb dX5_heWordSex_49 (by decide) ?_
        have hP9 := hP.sub (ws' := [(h0, .inr (5, [.ref a, .int (nI k)])), (a, .inl (cB, n, .inl f))]) [0, 1] rfl
        have hD9 := hD.sub (ws' := [(h0, .inr (5, [.ref a, .int (nI k)])), (a, .inl (cB, n, .inl f))]) [0, 1] (by decide) rfl
        exact W.iret (v := 3) hx hb hr (fun t ht hW => ⟨⟨3, (), rfl, trivial, ⟨by rw [ht]; exact hP9, va_K.moved hW.alike hK, hD9⟩⟩, hS.F ht⟩) hS.2.2 dX5_heWordSex_50
    · refine lv_iconst (v := 2) hx hb dX5_heWordSex_32 (by decide) ?_
      have hP9 := hP.sub (ws' := [(h0, .inr (5, [.ref a, .int (nI k)])), (a, .inl (cB, n, .inl f))]) [0, 1] rfl
      have hD9 := hD.sub (ws' := [(h0, .inr (5, [.ref a, .int (nI k)])), (a, .inl (cB, n, .inl f))]) [0, 1] (by decide) rfl
      exact W.iret (v := 2) hx hb hr (fun t ht hW => ⟨⟨2, (), rfl, trivial, ⟨by rw [ht]; exact hP9, va_K.moved hW.alike hK, hD9⟩⟩, hS.F ht⟩) hS.2.2 dX5_heWordSex_33
  · refine lv_iconst (v := 1) hx hb dX5_heWordSex_15 (by decide) ?_
    have hP9 := hP.sub (ws' := [(h0, .inr (5, [.ref a, .int (nI k)])), (a, .inl (cB, n, .inl f))]) [0, 1] rfl
    have hD9 := hD.sub (ws' := [(h0, .inr (5, [.ref a, .int (nI k)])), (a, .inl (cB, n, .inl f))]) [0, 1] (by decide) rfl
    exact W.iret (v := 1) hx hb hr (fun t ht hW => ⟨⟨1, (), rfl, trivial, ⟨by rw [ht]; exact hP9, va_K.moved hW.alike hK, hD9⟩⟩, hS.F ht⟩) hS.2.2 dX5_heWordSex_16
set_option maxHeartbeats 4000000 in
set_option maxRecDepth 100000 in
theorem s_X5_sameAs (l : Launch) (D : va_G) (cB cI cZ : ClassId) (E : pEt) (sz : Nat) (h0 : Nat) (a : Nat) (n : Nat) (k : Nat) (f : Nat → Int32) (h1 : Nat) (a1 : Nat) (n1 : Nat) (k1 : Nat) (f1 : Nat → Int32) (x : Int32) (y : Int32) (z : Int32) (hk : k ≤ n) (hn : n ≤ 600) (hk1 : k1 ≤ n1) (hn1 : n1 ≤ 600) : Met l yX5_sameAs (.code yX5_sameAs cX5_sameAs 6 (some .boolean) :: wsL_law) ({ frames := 0, cells := 0, slots := 0, locals := 0 } : Room) (va_Pc [.ref h0, .int x, .ref h1, .int y, .int z] (pInE E D (pT cB cI cZ) sz [(h0, .inr (5, [.ref a, .int (nI k)])), (a, .inl (cB, n, .inl f)), (h1, .inr (5, [.ref a1, .int (nI k1)])), (a1, .inl (cB, n1, .inl f1))])) (va_Qi (fun (r : Int32) (u : Unit) => True) (fun (u : Unit) (t : State) => pAt D (pT cB cI cZ) (va_A [(h0, .inr (5, [.ref a, .int (nI k)])), (a, .inl (cB, n, .inl f)), (h1, .inr (5, [.ref a1, .int (nI k1)])), (a1, .inl (cB, n1, .inl f1))] sz) [(h0, .inr (5, [.ref a, .int (nI k)])), (a, .inl (cB, n, .inl f)), (h1, .inr (5, [.ref a1, .int (nI k1)])), (a1, .inl (cB, n1, .inl f1))] t) (va_A [(h0, .inr (5, [.ref a, .int (nI k)])), (a, .inl (cB, n, .inl f)), (h1, .inr (5, [.ref a1, .int (nI k1)])), (a1, .inl (cB, n1, .inl f1))] sz)) 0 0 (va_A [(h0, .inr (5, [.ref a, .int (nI k)])), (a, .inl (cB, n, .inl f)), (h1, .inr (5, [.ref a1, .int (nI k1)])), (a1, .inl (cB, n1, .inl f1))] sz) := by
  refine Met.ofW (cc := cX5_sameAs) (maxL := 6) (ret := (some .boolean)) (by decide) rfl ?_
  intro p e s m args below meth cd s₁ B hml hv
  obtain ⟨rfl, hsz, hP, hK, hD0, hE⟩ := hv
  have hx := B.exec
  have hb := B.bytes
  have hr := B.returns
  have hts0 := atoms_spec (ws := .code yX5_sameAs cX5_sameAs 6 (some .boolean) :: wsL_law) B.pre
  have hts := fun (w : Cond) (h : w ∈ wsL_law) => hts0 w (List.mem_cons_of_mem _ h)
  have hown : s.vm.findClass RX5 = some m.cls := findClass_of_methodNamed B.named
  have hlocks := B.notSynchronized
  have hinX5 := inlX5
  subst hsz
  have hD := hD0.self (sz := s.heap.size)
  generalize hAe : va_A [(h0, .inr (5, [.ref a, .int (nI k)])), (a, .inl (cB, n, .inl f)), (h1, .inr (5, [.ref a1, .int (nI k1)])), (a1, .inl (cB, n1, .inl f1))] s.heap.size = A at hD hE ⊢
  have hA : ∀ q : Nat, s.heap.size ≤ q → A q := fun q h => by rw [← hAe]; exact Or.inr h
  have hS : va_S A s.heap s.heap [] := va_S.rf
  have hP : va_P D vwCl [(h0, .inr (5, [.ref a, .int (nI k)])), (a, .inl (cB, n, .inl f)), (h1, .inr (5, [.ref a1, .int (nI k1)])), (a1, .inl (cB, n1, .inl f1))] s.heap := hP
  have hl := lv_entry ([.ref h0, .int x, .ref h1, .int y, .int z]) (n := 6) (Nat.le_of_ble_eq_true rfl)
  rw [lg_entry_eq]
  generalize (lg_sl ([.ref h0, .int x, .ref h1, .int y, .int z]) ++ List.replicate (6 - (lg_sl ([.ref h0, .int x, .ref h1, .int y, .int z])).length) Slot.unset).toArray = ls at hl ⊢
  have hl : lv_has ls 6 [(0, .ref h0), (1, .int x), (2, .ref h1), (3, .int y), (4, .int z)] := hl
  generalize hQ : MQ below _ _ _ _ _ _ = Q
  refine lv_iload_n hx hb dX5_sameAs_0 rfl (lv_at hl 1 rfl) ?_
  refine lv_if_lt (tgt := 30) hx hb dX5_sameAs_1 (by decide) (fun c_1 => ?_) (fun c_1 => ?_)
  · refine lv_iconst (v := 0) hx hb dX5_sameAs_30 (by decide) ?_
    have hP9 := hP.sub (ws' := [(h0, .inr (5, [.ref a, .int (nI k)])), (a, .inl (cB, n, .inl f)), (h1, .inr (5, [.ref a1, .int (nI k1)])), (a1, .inl (cB, n1, .inl f1))]) [0, 1, 2, 3] rfl
    have hD9 := hD.sub (ws' := [(h0, .inr (5, [.ref a, .int (nI k)])), (a, .inl (cB, n, .inl f)), (h1, .inr (5, [.ref a1, .int (nI k1)])), (a1, .inl (cB, n1, .inl f1))]) [0, 1, 2, 3] (by decide) rfl
    rw [← hQ]
    exact W.zret (v := 0) hx hb hr (rfl) (fun t ht hW => ⟨⟨0, (), rfl, trivial, ⟨by rw [ht]; exact hP9, va_K.moved hW.alike hK, hD9⟩⟩, hS.F ht⟩) hS.2.2 dX5_sameAs_31
  · obtain ⟨X, hX, rfl⟩ := nI_of c_1
    refine lv_iload_n hx hb dX5_sameAs_4 rfl (lv_at hl 3 rfl) ?_
    refine lv_if_lt (tgt := 30) hx hb dX5_sameAs_5 (by decide) (fun c_2 => ?_) (fun c_2 => ?_)
    · refine lv_iconst (v := 0) hx hb dX5_sameAs_30 (by decide) ?_
      have hP9 := hP.sub (ws' := [(h0, .inr (5, [.ref a, .int (nI k)])), (a, .inl (cB, n, .inl f)), (h1, .inr (5, [.ref a1, .int (nI k1)])), (a1, .inl (cB, n1, .inl f1))]) [0, 1, 2, 3] rfl
      have hD9 := hD.sub (ws' := [(h0, .inr (5, [.ref a, .int (nI k)])), (a, .inl (cB, n, .inl f)), (h1, .inr (5, [.ref a1, .int (nI k1)])), (a1, .inl (cB, n1, .inl f1))]) [0, 1, 2, 3] (by decide) rfl
      rw [← hQ]
      exact W.zret (v := 0) hx hb hr (rfl) (fun t ht hW => ⟨⟨0, (), rfl, trivial, ⟨by rw [ht]; exact hP9, va_K.moved hW.alike hK, hD9⟩⟩, hS.F ht⟩) hS.2.2 dX5_sameAs_31
    · obtain ⟨Y, hY, rfl⟩ := nI_of c_2
      refine lv_iload hx hb dX5_sameAs_8 (lv_at hl 4 rfl) ?_
      refine lv_aload_n hx hb dX5_sameAs_10 rfl (lv_at hl 0 rfl) ?_
      refine va_get (D := D) (ci := 5) (v := .int (nI k)) (C := RX5) (T := TX5) (N := 2) hx hb hts hinX5 hown hK hP 0 rfl rfl 1 (by decide) (hts (.fieldLink RX5 21 "TaleReader$Text" "size" "I") (uc3 _ (List.mem_of_getElem? (i := 6) rfl))) (fun _ h9 => h9) rfl dX5_sameAs_11 ?_
      refine lv_iload_n hx hb dX5_sameAs_14 rfl (lv_at hl 1 rfl) ?_
      refine lv_isub hx hb dX5_sameAs_15 ?_
      refine lv_icmp_gt (tgt := 30) hx hb dX5_sameAs_16 (by decide) (fun c_3 => ?_) (fun c_3 => ?_)
      · refine lv_iconst (v := 0) hx hb dX5_sameAs_30 (by decide) ?_
        have hP9 := hP.sub (ws' := [(h0, .inr (5, [.ref a, .int (nI k)])), (a, .inl (cB, n, .inl f)), (h1, .inr (5, [.ref a1, .int (nI k1)])), (a1, .inl (cB, n1, .inl f1))]) [0, 1, 2, 3] rfl
        have hD9 := hD.sub (ws' := [(h0, .inr (5, [.ref a, .int (nI k)])), (a, .inl (cB, n, .inl f)), (h1, .inr (5, [.ref a1, .int (nI k1)])), (a1, .inl (cB, n1, .inl f1))]) [0, 1, 2, 3] (by decide) rfl
        rw [← hQ]
        exact W.zret (v := 0) hx hb hr (rfl) (fun t ht hW => ⟨⟨0, (), rfl, trivial, ⟨by rw [ht]; exact hP9, va_K.moved hW.alike hK, hD9⟩⟩, hS.F ht⟩) hS.2.2 dX5_sameAs_31
      · refine lv_iload hx hb dX5_sameAs_19 (lv_at hl 4 rfl) ?_
        refine lv_aload_n hx hb dX5_sameAs_21 rfl (lv_at hl 2 rfl) ?_
        refine va_get (D := D) (ci := 5) (v := .int (nI k1)) (C := RX5) (T := TX5) (N := 2) hx hb hts hinX5 hown hK hP 2 rfl rfl 1 (by decide) (hts (.fieldLink RX5 21 "TaleReader$Text" "size" "I") (uc3 _ (List.mem_of_getElem? (i := 6) rfl))) (fun _ h9 => h9) rfl dX5_sameAs_22 ?_
        refine lv_iload_n hx hb dX5_sameAs_25 rfl (lv_at hl 3 rfl) ?_
        refine lv_isub hx hb dX5_sameAs_26 ?_
        refine lv_icmp_le (tgt := 32) hx hb dX5_sameAs_27 (by decide) (fun c_4 => ?_) (fun c_4 => ?_)
        · have hz1 := pSame hk hn hX (Int32.not_lt.mp c_3)
          have hz2 := pSame hk1 hn1 hY c_4
          refine lv_iconst (v := 0) hx hb dX5_sameAs_32 (by decide) ?_
          refine lv_istore (lv' := [(5, .int 0), (0, .ref h0), (1, .int (nI X)), (2, .ref h1), (3, .int (nI Y)), (4, .int z)]) hx hb dX5_sameAs_33 hl (by decide) rfl (fun ls hl => ?_)
          have loop_5 : ∀ (nn_7 : Nat) (i : Nat), (i ≤ 600) → (700 - i < nn_7) → ∀ (H : Heap) (locs : List Loc) (ls : Array Slot), va_P D vwCl [(h0, .inr (5, [.ref a, .int (nI k)])), (a, .inl (cB, n, .inl f)), (h1, .inr (5, [.ref a1, .int (nI k1)])), (a1, .inl (cB, n1, .inl f1))] H → va_D A [(h0, .inr (5, [.ref a, .int (nI k)])), (a, .inl (cB, n, .inl f)), (h1, .inr (5, [.ref a1, .int (nI k1)])), (a1, .inl (cB, n1, .inl f1))] → va_S A s.heap H locs → lv_has ls 6 [(0, .ref h0), (1, .int (nI X)), (2, .ref h1), (3, .int (nI Y)), (4, .int z), (5, .int (nI i))] → W p l e ({ frames := 0, cells := 0, slots := 0, locals := 0 } : Room) s m ([.ref h0, .int (nI X), .ref h1, .int (nI Y), .int z] : List Value).toArray below meth cd H locs 0 0 Q (F0 m 35 ls []) := by
            intro nn_7
            induction nn_7 with
            | zero => intros; exact absurd ‹_ < 0› (Nat.not_lt_zero _)
            | succ nn_7 ih_6 =>
              intro i hi hmu H locs ls hP hD hS hl
              refine lv_iload hx hb dX5_sameAs_35 (lv_at hl 5 rfl) ?_
              refine lv_iload hx hb dX5_sameAs_37 (lv_at hl 4 rfl) ?_
              refine lv_icmp_ge (tgt := 71) hx hb dX5_sameAs_39 (by decide) (fun c_8 => ?_) (fun c_8 => ?_)
              · refine lv_iconst (v := 1) hx hb dX5_sameAs_71 (by decide) ?_
                have hP9 := hP.sub (ws' := [(h0, .inr (5, [.ref a, .int (nI k)])), (a, .inl (cB, n, .inl f)), (h1, .inr (5, [.ref a1, .int (nI k1)])), (a1, .inl (cB, n1, .inl f1))]) [0, 1, 2, 3] rfl
                have hD9 := hD.sub (ws' := [(h0, .inr (5, [.ref a, .int (nI k)])), (a, .inl (cB, n, .inl f)), (h1, .inr (5, [.ref a1, .int (nI k1)])), (a1, .inl (cB, n1, .inl f1))]) [0, 1, 2, 3] (by decide) rfl
                rw [← hQ]
                exact W.zret (v := 1) hx hb hr (rfl) (fun t ht hW => ⟨⟨1, (), rfl, trivial, ⟨by rw [ht]; exact hP9, va_K.moved hW.alike hK, hD9⟩⟩, hS.F ht⟩) hS.2.2 dX5_sameAs_72
              · have hin1 := pSameI c_8 hi hz1
                have hin2 := pSameI c_8 hi hz2
                refine lv_aload_n hx hb dX5_sameAs_42 rfl (lv_at hl 0 rfl) ?_
                refine va_get (D := D) (ci := 5) (v := .ref a) (C := RX5) (T := TX5) (N := 2) hx hb hts hinX5 hown hK hP 0 rfl rfl 0 (by decide) (hts (.fieldLink RX5 15 "TaleReader$Text" "signs" "[B") (uc3 _ (List.mem_of_getElem? (i := 5) rfl))) (fun _ h9 => h9) rfl dX5_sameAs_43 ?_
                refine lv_iload_n hx hb dX5_sameAs_46 rfl (lv_at hl 1 rfl) ?_
                refine lv_iload hx hb dX5_sameAs_47 (lv_at hl 5 rfl) ?_
                refine lv_iadd hx hb dX5_sameAs_49 ?_
                refine lv_topi (fun z_9 ez_9 => ?_)
                obtain rfl : z_9 = nI (X + i) := ez_9.trans (nI_add X i)
                refine va_bald (D := D) hx hb hK hP 1 0 rfl rfl (vp_in_nI (by omega) (by omega)) dX5_sameAs_50 ?_
                refine lv_topi (fun z_10 ez_10 => ?_)
                obtain rfl : z_10 = f (X + i) := ez_10.trans (congrArg f (nI_clamp (by omega)))
                refine lv_aload_n hx hb dX5_sameAs_51 rfl (lv_at hl 2 rfl) ?_
                refine va_get (D := D) (ci := 5) (v := .ref a1) (C := RX5) (T := TX5) (N := 2) hx hb hts hinX5 hown hK hP 2 rfl rfl 0 (by decide) (hts (.fieldLink RX5 15 "TaleReader$Text" "signs" "[B") (uc3 _ (List.mem_of_getElem? (i := 5) rfl))) (fun _ h9 => h9) rfl dX5_sameAs_52 ?_
                refine lv_iload_n hx hb dX5_sameAs_55 rfl (lv_at hl 3 rfl) ?_
                refine lv_iload hx hb dX5_sameAs_56 (lv_at hl 5 rfl) ?_
                refine lv_iadd hx hb dX5_sameAs_58 ?_
                refine lv_topi (fun z_11 ez_11 => ?_)
                obtain rfl : z_11 = nI (Y + i) := ez_11.trans (nI_add Y i)
                refine va_bald (D := D) hx hb hK hP 3 0 rfl rfl (vp_in_nI (by omega) (by omega)) dX5_sameAs_59 ?_
                refine lv_topi (fun z_12 ez_12 => ?_)
                obtain rfl : z_12 = f1 (Y + i) := ez_12.trans (congrArg f1 (nI_clamp (by omega)))
                refine lv_icmp_eq (tgt := 65) hx hb dX5_sameAs_60 (by decide) (fun c_13 => ?_) (fun c_13 => ?_)
                · refine lv_iinc (v := nI (i + 1)) (lv' := [(5, .int (nI (i + 1))), (0, .ref h0), (1, .int (nI X)), (2, .ref h1), (3, .int (nI Y)), (4, .int z)]) hx hb dX5_sameAs_65 hl (k := 5) rfl (nI_add i 1) (by decide) rfl (fun ls hl => ?_)
                  refine lv_goto (tgt := 35) hx hb dX5_sameAs_68 (by decide) ?_
                  exact ih_6 (i + 1) (by first | assumption | exact Or.inl rfl | exact Or.inr rfl | omega) (by omega) H _ ls (hP.sub (ws' := [(h0, .inr (5, [.ref a, .int (nI k)])), (a, .inl (cB, n, .inl f)), (h1, .inr (5, [.ref a1, .int (nI k1)])), (a1, .inl (cB, n1, .inl f1))]) [0, 1, 2, 3] rfl) (hD.sub (ws' := [(h0, .inr (5, [.ref a, .int (nI k)])), (a, .inl (cB, n, .inl f)), (h1, .inr (5, [.ref a1, .int (nI k1)])), (a1, .inl (cB, n1, .inl f1))]) [0, 1, 2, 3] (by decide) rfl) hS (lv_sub hl [1, 2, 3, 4, 5, 0] rfl)
                · refine lv_iconst (v := 0) hx hb dX5_sameAs_63 (by decide) ?_
                  have hP9 := hP.sub (ws' := [(h0, .inr (5, [.ref a, .int (nI k)])), (a, .inl (cB, n, .inl f)), (h1, .inr (5, [.ref a1, .int (nI k1)])), (a1, .inl (cB, n1, .inl f1))]) [0, 1, 2, 3] rfl
                  have hD9 := hD.sub (ws' := [(h0, .inr (5, [.ref a, .int (nI k)])), (a, .inl (cB, n, .inl f)), (h1, .inr (5, [.ref a1, .int (nI k1)])), (a1, .inl (cB, n1, .inl f1))]) [0, 1, 2, 3] (by decide) rfl
                  rw [← hQ]
                  exact W.zret (v := 0) hx hb hr (rfl) (fun t ht hW => ⟨⟨0, (), rfl, trivial, ⟨by rw [ht]; exact hP9, va_K.moved hW.alike hK, hD9⟩⟩, hS.F ht⟩) hS.2.2 dX5_sameAs_64
          exact loop_5 _ 0 (by first | assumption | exact Or.inl rfl | exact Or.inr rfl | omega) (Nat.lt_succ_self _) s.heap _ ls (hP.sub (ws' := [(h0, .inr (5, [.ref a, .int (nI k)])), (a, .inl (cB, n, .inl f)), (h1, .inr (5, [.ref a1, .int (nI k1)])), (a1, .inl (cB, n1, .inl f1))]) [0, 1, 2, 3] rfl) (hD.sub (ws' := [(h0, .inr (5, [.ref a, .int (nI k)])), (a, .inl (cB, n, .inl f)), (h1, .inr (5, [.ref a1, .int (nI k1)])), (a1, .inl (cB, n1, .inl f1))]) [0, 1, 2, 3] (by decide) rfl) hS (lv_sub hl [1, 2, 3, 4, 5, 0] rfl)
        · refine lv_iconst (v := 0) hx hb dX5_sameAs_30 (by decide) ?_
          have hP9 := hP.sub (ws' := [(h0, .inr (5, [.ref a, .int (nI k)])), (a, .inl (cB, n, .inl f)), (h1, .inr (5, [.ref a1, .int (nI k1)])), (a1, .inl (cB, n1, .inl f1))]) [0, 1, 2, 3] rfl
          have hD9 := hD.sub (ws' := [(h0, .inr (5, [.ref a, .int (nI k)])), (a, .inl (cB, n, .inl f)), (h1, .inr (5, [.ref a1, .int (nI k1)])), (a1, .inl (cB, n1, .inl f1))]) [0, 1, 2, 3] (by decide) rfl
          rw [← hQ]
          exact W.zret (v := 0) hx hb hr (rfl) (fun t ht hW => ⟨⟨0, (), rfl, trivial, ⟨by rw [ht]; exact hP9, va_K.moved hW.alike hK, hD9⟩⟩, hS.F ht⟩) hS.2.2 dX5_sameAs_31
set_option maxHeartbeats 4000000 in
set_option maxRecDepth 100000 in
theorem s_X5_sameAs1 (l : Launch) (D : va_G) (cB cI cZ : ClassId) (E : pEt) (sz : Nat) (h0 : Nat) (a : Nat) (n : Nat) (k : Nat) (f : Nat → Int32) (x : Int32) (y : Int32) (z : Int32) (hk : k ≤ n) (hn : n ≤ 600) : Met l yX5_sameAs (.code yX5_sameAs cX5_sameAs 6 (some .boolean) :: wsL_law) ({ frames := 0, cells := 0, slots := 0, locals := 0 } : Room) (va_Pc [.ref h0, .int x, .ref h0, .int y, .int z] (pInE E D (pT cB cI cZ) sz [(h0, .inr (5, [.ref a, .int (nI k)])), (a, .inl (cB, n, .inl f))])) (va_Qi (fun (r : Int32) (u : Unit) => True) (fun (u : Unit) (t : State) => pAt D (pT cB cI cZ) (va_A [(h0, .inr (5, [.ref a, .int (nI k)])), (a, .inl (cB, n, .inl f))] sz) [(h0, .inr (5, [.ref a, .int (nI k)])), (a, .inl (cB, n, .inl f))] t) (va_A [(h0, .inr (5, [.ref a, .int (nI k)])), (a, .inl (cB, n, .inl f))] sz)) 0 0 (va_A [(h0, .inr (5, [.ref a, .int (nI k)])), (a, .inl (cB, n, .inl f))] sz) := by
  refine Met.ofW (cc := cX5_sameAs) (maxL := 6) (ret := (some .boolean)) (by decide) rfl ?_
  intro p e s m args below meth cd s₁ B hml hv
  obtain ⟨rfl, hsz, hP, hK, hD0, hE⟩ := hv
  have hx := B.exec
  have hb := B.bytes
  have hr := B.returns
  have hts0 := atoms_spec (ws := .code yX5_sameAs cX5_sameAs 6 (some .boolean) :: wsL_law) B.pre
  have hts := fun (w : Cond) (h : w ∈ wsL_law) => hts0 w (List.mem_cons_of_mem _ h)
  have hown : s.vm.findClass RX5 = some m.cls := findClass_of_methodNamed B.named
  have hlocks := B.notSynchronized
  have hinX5 := inlX5
  subst hsz
  have hD := hD0.self (sz := s.heap.size)
  generalize hAe : va_A [(h0, .inr (5, [.ref a, .int (nI k)])), (a, .inl (cB, n, .inl f))] s.heap.size = A at hD hE ⊢
  have hA : ∀ q : Nat, s.heap.size ≤ q → A q := fun q h => by rw [← hAe]; exact Or.inr h
  have hS : va_S A s.heap s.heap [] := va_S.rf
  have hP : va_P D vwCl [(h0, .inr (5, [.ref a, .int (nI k)])), (a, .inl (cB, n, .inl f))] s.heap := hP
  have hl := lv_entry ([.ref h0, .int x, .ref h0, .int y, .int z]) (n := 6) (Nat.le_of_ble_eq_true rfl)
  rw [lg_entry_eq]
  generalize (lg_sl ([.ref h0, .int x, .ref h0, .int y, .int z]) ++ List.replicate (6 - (lg_sl ([.ref h0, .int x, .ref h0, .int y, .int z])).length) Slot.unset).toArray = ls at hl ⊢
  have hl : lv_has ls 6 [(0, .ref h0), (1, .int x), (2, .ref h0), (3, .int y), (4, .int z)] := hl
  generalize hQ : MQ below _ _ _ _ _ _ = Q
  refine lv_iload_n hx hb dX5_sameAs_0 rfl (lv_at hl 1 rfl) ?_
  refine lv_if_lt (tgt := 30) hx hb dX5_sameAs_1 (by decide) (fun c_1 => ?_) (fun c_1 => ?_)
  · refine lv_iconst (v := 0) hx hb dX5_sameAs_30 (by decide) ?_
    have hP9 := hP.sub (ws' := [(h0, .inr (5, [.ref a, .int (nI k)])), (a, .inl (cB, n, .inl f))]) [0, 1] rfl
    have hD9 := hD.sub (ws' := [(h0, .inr (5, [.ref a, .int (nI k)])), (a, .inl (cB, n, .inl f))]) [0, 1] (by decide) rfl
    rw [← hQ]
    exact W.zret (v := 0) hx hb hr (rfl) (fun t ht hW => ⟨⟨0, (), rfl, trivial, ⟨by rw [ht]; exact hP9, va_K.moved hW.alike hK, hD9⟩⟩, hS.F ht⟩) hS.2.2 dX5_sameAs_31
  · obtain ⟨X, hX, rfl⟩ := nI_of c_1
    refine lv_iload_n hx hb dX5_sameAs_4 rfl (lv_at hl 3 rfl) ?_
    refine lv_if_lt (tgt := 30) hx hb dX5_sameAs_5 (by decide) (fun c_2 => ?_) (fun c_2 => ?_)
    · refine lv_iconst (v := 0) hx hb dX5_sameAs_30 (by decide) ?_
      have hP9 := hP.sub (ws' := [(h0, .inr (5, [.ref a, .int (nI k)])), (a, .inl (cB, n, .inl f))]) [0, 1] rfl
      have hD9 := hD.sub (ws' := [(h0, .inr (5, [.ref a, .int (nI k)])), (a, .inl (cB, n, .inl f))]) [0, 1] (by decide) rfl
      rw [← hQ]
      exact W.zret (v := 0) hx hb hr (rfl) (fun t ht hW => ⟨⟨0, (), rfl, trivial, ⟨by rw [ht]; exact hP9, va_K.moved hW.alike hK, hD9⟩⟩, hS.F ht⟩) hS.2.2 dX5_sameAs_31
    · obtain ⟨Y, hY, rfl⟩ := nI_of c_2
      refine lv_iload hx hb dX5_sameAs_8 (lv_at hl 4 rfl) ?_
      refine lv_aload_n hx hb dX5_sameAs_10 rfl (lv_at hl 0 rfl) ?_
      refine va_get (D := D) (ci := 5) (v := .int (nI k)) (C := RX5) (T := TX5) (N := 2) hx hb hts hinX5 hown hK hP 0 rfl rfl 1 (by decide) (hts (.fieldLink RX5 21 "TaleReader$Text" "size" "I") (uc3 _ (List.mem_of_getElem? (i := 6) rfl))) (fun _ h9 => h9) rfl dX5_sameAs_11 ?_
      refine lv_iload_n hx hb dX5_sameAs_14 rfl (lv_at hl 1 rfl) ?_
      refine lv_isub hx hb dX5_sameAs_15 ?_
      refine lv_icmp_gt (tgt := 30) hx hb dX5_sameAs_16 (by decide) (fun c_3 => ?_) (fun c_3 => ?_)
      · refine lv_iconst (v := 0) hx hb dX5_sameAs_30 (by decide) ?_
        have hP9 := hP.sub (ws' := [(h0, .inr (5, [.ref a, .int (nI k)])), (a, .inl (cB, n, .inl f))]) [0, 1] rfl
        have hD9 := hD.sub (ws' := [(h0, .inr (5, [.ref a, .int (nI k)])), (a, .inl (cB, n, .inl f))]) [0, 1] (by decide) rfl
        rw [← hQ]
        exact W.zret (v := 0) hx hb hr (rfl) (fun t ht hW => ⟨⟨0, (), rfl, trivial, ⟨by rw [ht]; exact hP9, va_K.moved hW.alike hK, hD9⟩⟩, hS.F ht⟩) hS.2.2 dX5_sameAs_31
      · refine lv_iload hx hb dX5_sameAs_19 (lv_at hl 4 rfl) ?_
        refine lv_aload_n hx hb dX5_sameAs_21 rfl (lv_at hl 2 rfl) ?_
        refine va_get (D := D) (ci := 5) (v := .int (nI k)) (C := RX5) (T := TX5) (N := 2) hx hb hts hinX5 hown hK hP 0 rfl rfl 1 (by decide) (hts (.fieldLink RX5 21 "TaleReader$Text" "size" "I") (uc3 _ (List.mem_of_getElem? (i := 6) rfl))) (fun _ h9 => h9) rfl dX5_sameAs_22 ?_
        refine lv_iload_n hx hb dX5_sameAs_25 rfl (lv_at hl 3 rfl) ?_
        refine lv_isub hx hb dX5_sameAs_26 ?_
        refine lv_icmp_le (tgt := 32) hx hb dX5_sameAs_27 (by decide) (fun c_4 => ?_) (fun c_4 => ?_)
        · have hz1 := pSame hk hn hX (Int32.not_lt.mp c_3)
          have hz2 := pSame hk hn hY c_4
          refine lv_iconst (v := 0) hx hb dX5_sameAs_32 (by decide) ?_
          refine lv_istore (lv' := [(5, .int 0), (0, .ref h0), (1, .int (nI X)), (2, .ref h0), (3, .int (nI Y)), (4, .int z)]) hx hb dX5_sameAs_33 hl (by decide) rfl (fun ls hl => ?_)
          have loop_5 : ∀ (nn_7 : Nat) (i : Nat), (i ≤ 600) → (700 - i < nn_7) → ∀ (H : Heap) (locs : List Loc) (ls : Array Slot), va_P D vwCl [(h0, .inr (5, [.ref a, .int (nI k)])), (a, .inl (cB, n, .inl f))] H → va_D A [(h0, .inr (5, [.ref a, .int (nI k)])), (a, .inl (cB, n, .inl f))] → va_S A s.heap H locs → lv_has ls 6 [(0, .ref h0), (1, .int (nI X)), (2, .ref h0), (3, .int (nI Y)), (4, .int z), (5, .int (nI i))] → W p l e ({ frames := 0, cells := 0, slots := 0, locals := 0 } : Room) s m ([.ref h0, .int (nI X), .ref h0, .int (nI Y), .int z] : List Value).toArray below meth cd H locs 0 0 Q (F0 m 35 ls []) := by
            intro nn_7
            induction nn_7 with
            | zero => intros; exact absurd ‹_ < 0› (Nat.not_lt_zero _)
            | succ nn_7 ih_6 =>
              intro i hi hmu H locs ls hP hD hS hl
              refine lv_iload hx hb dX5_sameAs_35 (lv_at hl 5 rfl) ?_
              refine lv_iload hx hb dX5_sameAs_37 (lv_at hl 4 rfl) ?_
              refine lv_icmp_ge (tgt := 71) hx hb dX5_sameAs_39 (by decide) (fun c_8 => ?_) (fun c_8 => ?_)
              · refine lv_iconst (v := 1) hx hb dX5_sameAs_71 (by decide) ?_
                have hP9 := hP.sub (ws' := [(h0, .inr (5, [.ref a, .int (nI k)])), (a, .inl (cB, n, .inl f))]) [0, 1] rfl
                have hD9 := hD.sub (ws' := [(h0, .inr (5, [.ref a, .int (nI k)])), (a, .inl (cB, n, .inl f))]) [0, 1] (by decide) rfl
                rw [← hQ]
                exact W.zret (v := 1) hx hb hr (rfl) (fun t ht hW => ⟨⟨1, (), rfl, trivial, ⟨by rw [ht]; exact hP9, va_K.moved hW.alike hK, hD9⟩⟩, hS.F ht⟩) hS.2.2 dX5_sameAs_72
              · have hin1 := pSameI c_8 hi hz1
                have hin2 := pSameI c_8 hi hz2
                refine lv_aload_n hx hb dX5_sameAs_42 rfl (lv_at hl 0 rfl) ?_
                refine va_get (D := D) (ci := 5) (v := .ref a) (C := RX5) (T := TX5) (N := 2) hx hb hts hinX5 hown hK hP 0 rfl rfl 0 (by decide) (hts (.fieldLink RX5 15 "TaleReader$Text" "signs" "[B") (uc3 _ (List.mem_of_getElem? (i := 5) rfl))) (fun _ h9 => h9) rfl dX5_sameAs_43 ?_
                refine lv_iload_n hx hb dX5_sameAs_46 rfl (lv_at hl 1 rfl) ?_
                refine lv_iload hx hb dX5_sameAs_47 (lv_at hl 5 rfl) ?_
                refine lv_iadd hx hb dX5_sameAs_49 ?_
                refine lv_topi (fun z_9 ez_9 => ?_)
                obtain rfl : z_9 = nI (X + i) := ez_9.trans (nI_add X i)
                refine va_bald (D := D) hx hb hK hP 1 0 rfl rfl (vp_in_nI (by omega) (by omega)) dX5_sameAs_50 ?_
                refine lv_topi (fun z_10 ez_10 => ?_)
                obtain rfl : z_10 = f (X + i) := ez_10.trans (congrArg f (nI_clamp (by omega)))
                refine lv_aload_n hx hb dX5_sameAs_51 rfl (lv_at hl 2 rfl) ?_
                refine va_get (D := D) (ci := 5) (v := .ref a) (C := RX5) (T := TX5) (N := 2) hx hb hts hinX5 hown hK hP 0 rfl rfl 0 (by decide) (hts (.fieldLink RX5 15 "TaleReader$Text" "signs" "[B") (uc3 _ (List.mem_of_getElem? (i := 5) rfl))) (fun _ h9 => h9) rfl dX5_sameAs_52 ?_
                refine lv_iload_n hx hb dX5_sameAs_55 rfl (lv_at hl 3 rfl) ?_
                refine lv_iload hx hb dX5_sameAs_56 (lv_at hl 5 rfl) ?_
                refine lv_iadd hx hb dX5_sameAs_58 ?_
                refine lv_topi (fun z_11 ez_11 => ?_)
                obtain rfl : z_11 = nI (Y + i) := ez_11.trans (nI_add Y i)
                refine va_bald (D := D) hx hb hK hP 1 0 rfl rfl (vp_in_nI (by omega) (by omega)) dX5_sameAs_59 ?_
                refine lv_topi (fun z_12 ez_12 => ?_)
                obtain rfl : z_12 = f (Y + i) := ez_12.trans (congrArg f (nI_clamp (by omega)))
                refine lv_icmp_eq (tgt := 65) hx hb dX5_sameAs_60 (by decide) (fun c_13 => ?_) (fun c_13 => ?_)
                · refine lv_iinc (v := nI (i + 1)) (lv' := [(5, .int (nI (i + 1))), (0, .ref h0), (1, .int (nI X)), (2, .ref h0), (3, .int (nI Y)), (4, .int z)]) hx hb dX5_sameAs_65 hl (k := 5) rfl (nI_add i 1) (by decide) rfl (fun ls hl => ?_)
                  refine lv_goto (tgt := 35) hx hb dX5_sameAs_68 (by decide) ?_
                  exact ih_6 (i + 1) (by first | assumption | exact Or.inl rfl | exact Or.inr rfl | omega) (by omega) H _ ls (hP.sub (ws' := [(h0, .inr (5, [.ref a, .int (nI k)])), (a, .inl (cB, n, .inl f))]) [0, 1] rfl) (hD.sub (ws' := [(h0, .inr (5, [.ref a, .int (nI k)])), (a, .inl (cB, n, .inl f))]) [0, 1] (by decide) rfl) hS (lv_sub hl [1, 2, 3, 4, 5, 0] rfl)
                · refine lv_iconst (v := 0) hx hb dX5_sameAs_63 (by decide) ?_
                  have hP9 := hP.sub (ws' := [(h0, .inr (5, [.ref a, .int (nI k)])), (a, .inl (cB, n, .inl f))]) [0, 1] rfl
                  have hD9 := hD.sub (ws' := [(h0, .inr (5, [.ref a, .int (nI k)])), (a, .inl (cB, n, .inl f))]) [0, 1] (by decide) rfl
                  rw [← hQ]
                  exact W.zret (v := 0) hx hb hr (rfl) (fun t ht hW => ⟨⟨0, (), rfl, trivial, ⟨by rw [ht]; exact hP9, va_K.moved hW.alike hK, hD9⟩⟩, hS.F ht⟩) hS.2.2 dX5_sameAs_64
          exact loop_5 _ 0 (by first | assumption | exact Or.inl rfl | exact Or.inr rfl | omega) (Nat.lt_succ_self _) s.heap _ ls (hP.sub (ws' := [(h0, .inr (5, [.ref a, .int (nI k)])), (a, .inl (cB, n, .inl f))]) [0, 1] rfl) (hD.sub (ws' := [(h0, .inr (5, [.ref a, .int (nI k)])), (a, .inl (cB, n, .inl f))]) [0, 1] (by decide) rfl) hS (lv_sub hl [1, 2, 3, 4, 5, 0] rfl)
        · refine lv_iconst (v := 0) hx hb dX5_sameAs_30 (by decide) ?_
          have hP9 := hP.sub (ws' := [(h0, .inr (5, [.ref a, .int (nI k)])), (a, .inl (cB, n, .inl f))]) [0, 1] rfl
          have hD9 := hD.sub (ws' := [(h0, .inr (5, [.ref a, .int (nI k)])), (a, .inl (cB, n, .inl f))]) [0, 1] (by decide) rfl
          rw [← hQ]
          exact W.zret (v := 0) hx hb hr (rfl) (fun t ht hW => ⟨⟨0, (), rfl, trivial, ⟨by rw [ht]; exact hP9, va_K.moved hW.alike hK, hD9⟩⟩, hS.F ht⟩) hS.2.2 dX5_sameAs_31
