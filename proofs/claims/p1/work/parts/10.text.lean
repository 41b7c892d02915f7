set_option maxHeartbeats 4000000 in
set_option maxRecDepth 100000 in
theorem c_X5_init_600 (l : Launch) (D : va_G) (cB cI cZ : ClassId) (sz : Nat) (h0 : Nat) : Met l yX5_init (.code yX5_init cX5_init 2 none :: wsL_law) ({ frames := 1, cells := 1, slots := 600, locals := 14 } : Room) (va_Pc [.ref h0, .int 600] (pIn D (pT cB cI cZ) sz [(h0, .inr (5, [.null, .int 0]))])) (va_Qv (fun (u : Nat) => True) (fun (u : Nat) (t : State) => pAt D (pT cB cI cZ) (va_A [(h0, .inr (5, [.null, .int 0]))] sz) [(h0, .inr (5, [.ref u, .int 0])), (u, .inl (cB, 600, .inl (fun _ => 0)))] t) (va_A [(h0, .inr (5, [.null, .int 0]))] sz)) 1 600 (va_A [(h0, .inr (5, [.null, .int 0]))] sz) := by
  refine Met.ofW (cc := cX5_init) (maxL := 2) (ret := none) (by decide) rfl ?_
  intro p e s m args below meth c s₁ B hml hv
  obtain ⟨rfl, hsz, hP, hK, hD0⟩ := hv
  have hx := B.exec
  have hb := B.bytes
  have hr := B.returns
  have hts0 := atoms_spec (ws := .code yX5_init cX5_init 2 none :: wsL_law) B.pre
  have hts := fun (w : Cond) (h : w ∈ wsL_law) => hts0 w (List.mem_cons_of_mem _ h)
  have hown : s.vm.findClass RX5 = some m.cls := findClass_of_methodNamed B.named
  have hlocks := B.notSynchronized
  have hin : meth.name = "<init>" := (name_of_methodNamed B.named B.method).1
  have hinX5 := inlX5
  subst hsz
  have hD := hD0.self (sz := s.heap.size)
  generalize hAe : va_A [(h0, .inr (5, [.null, .int 0]))] s.heap.size = A at hD ⊢
  have hA : ∀ q : Nat, s.heap.size ≤ q → A q := fun q h => by rw [← hAe]; exact Or.inr h
  have hS : va_S A s.heap s.heap [] := va_S.rf
  have hP : va_P D vwCl [(h0, .inr (5, [.null, .int 0]))] s.heap := hP
  have hl := lv_entry ([.ref h0, .int 600]) (n := 2) (Nat.le_of_ble_eq_true rfl)
  rw [lg_entry_eq]
  generalize (lg_sl ([.ref h0, .int 600]) ++ List.replicate (2 - (lg_sl ([.ref h0, .int 600])).length) Slot.unset).toArray = ls at hl ⊢
  have hl : lv_has ls 2 [(0, .ref h0), (1, .int 600)] := hl
  refine lv_aload_n hx hb dX5_init_0 rfl (lv_at hl 0 rfl) ?_
  refine W.objInit hx hb hown (hts (.methodLink RX5 3 objectInit) (uc2 _ (List.mem_of_getElem? (i := 23) rfl))) (hts (.instanceMethod objectInit) (uc1 _ (List.mem_of_getElem? (i := 10) rfl))) (hts (.code objectInit ⟨#[0xb1]⟩ 1 none) (uc1 _ (List.mem_of_getElem? (i := 11) rfl))) rfl (by rw [hml]; exact hl.1) rfl dX5_init_1 (Nat.le_of_ble_eq_true rfl) (Nat.le_of_ble_eq_true rfl) ?_
  refine W.eq (g2 := F0 m 4 ls []) rfl ?_
  refine lv_aload_n hx hb dX5_init_4 rfl (lv_at hl 0 rfl) ?_
  refine lv_iload_n hx hb dX5_init_5 rfl (lv_at hl 1 rfl) ?_
  refine lv_iconst (v := 0) hx hb dX5_init_6 (by decide) ?_
  refine va_mmax hx hb (by rw [hml]; exact hl.1.symm) hown (hts (.methodLink RX5 9 Lib.Math.max.name) (uc3 _ (List.mem_of_getElem? (i := 0) rfl))) (hts (.static Lib.Math.max.name) (uc3 _ (List.mem_of_getElem? (i := 1) rfl))) (hts (.initialized "java/lang/Math") (uc3 _ (List.mem_of_getElem? (i := 2) rfl))) (hts (.code Lib.Math.max.name Lib.Math.max.code 2 (some .int)) (uc3 _ (List.mem_of_getElem? (i := 3) rfl))) (Nat.le_of_ble_eq_true rfl) (Nat.le_of_ble_eq_true rfl) (Nat.le_of_ble_eq_true rfl) (Nat.le_of_ble_eq_true rfl) dX5_init_7 ?_
  refine lv_topi (fun z_1 ez_1 => ?_)
  obtain rfl : z_1 = 600 := ez_1.trans (by decide)
  refine pNewa (D := D) (cl := vwCl) (ty := .byte) (N' := 600) (a0 := (600, .inl (fun _ => 0))) (cA := cB) hx hb (hts (.arrayClass .byte) (uc3 _ (List.mem_of_getElem? (i := 4) rfl))) rfl hK hP hD hS hA (fun _ => rfl) (by decide) (by decide) (by decide) (Nat.le_of_ble_eq_true rfl) (Nat.le_of_ble_eq_true rfl) dX5_init_10 0 rfl (fun q_2 H_3 hP hD hS => ?_)
  have hP : va_P D vwCl [(h0, .inr (5, [.null, .int 0])), (q_2, .inl (cB, 600, .inl (fun _ => 0)))] H_3 := hP
  have hD : va_D A [(h0, .inr (5, [.null, .int 0])), (q_2, .inl (cB, 600, .inl (fun _ => 0)))] := hD
  refine W.widen (k := 1) (n := 600) (by decide) (by decide) ?_
  refine va_putF (D := D) (ci := 5) (v := .ref q_2) (ty := (.array .byte)) (C := RX5) (T := TX5) (N := 2) hx hb hts hinX5 tyX5 tyX5_ok nmX5 hown hK hP hD hS 0 rfl rfl 0 (by decide) (hts (.fieldLink RX5 15 "TaleReader$Text" "signs" "[B") (uc3 _ (List.mem_of_getElem? (i := 5) rfl))) (fun _ h9 => h9) rfl hin rfl (by decide +kernel) rfl rfl (Nat.le_of_ble_eq_true rfl) dX5_init_12 (fun H_4 L_5 hP hD hS => ?_)
  have hP : va_P D vwCl [(h0, .inr (5, [.ref q_2, .int 0])), (q_2, .inl (cB, 600, .inl (fun _ => 0)))] H_4 := hP
  have hD : va_D A [(h0, .inr (5, [.ref q_2, .int 0])), (q_2, .inl (cB, 600, .inl (fun _ => 0)))] := hD
  refine lv_aload_n hx hb dX5_init_15 rfl (lv_at hl 0 rfl) ?_
  refine lv_iconst (v := 0) hx hb dX5_init_16 (by decide) ?_
  refine va_put (D := D) (ci := 5) (v := .int 0) (ty := .int) (C := RX5) (T := TX5) (N := 2) hx hb hts hinX5 tyX5 tyX5_ok nmX5 hown hK hP hD hS 0 rfl rfl 1 (by decide) (hts (.fieldLink RX5 21 "TaleReader$Text" "size" "I") (uc3 _ (List.mem_of_getElem? (i := 6) rfl))) (fun _ h9 => h9) rfl (by decide +kernel) rfl rfl (Nat.le_of_ble_eq_true rfl) dX5_init_17 (fun H_6 L_7 hP hD hS => ?_)
  have hP : va_P D vwCl [(h0, .inr (5, [.ref q_2, .int 0])), (q_2, .inl (cB, 600, .inl (fun _ => 0)))] H_6 := hP
  have hD : va_D A [(h0, .inr (5, [.ref q_2, .int 0])), (q_2, .inl (cB, 600, .inl (fun _ => 0)))] := hD
  have hP9 := hP.sub (ws' := [(h0, .inr (5, [.ref q_2, .int 0])), (q_2, .inl (cB, 600, .inl (fun _ => 0)))]) [0, 1] rfl
  have hD9 := hD.sub (ws' := [(h0, .inr (5, [.ref q_2, .int 0])), (q_2, .inl (cB, 600, .inl (fun _ => 0)))]) [0, 1] (by decide) rfl
  exact W.vret hx hb hr (fun t ht hW => ⟨⟨q_2, rfl, trivial, ⟨by rw [ht]; exact hP9, va_K.moved hW.alike hK, hD9⟩⟩, hS.F ht⟩) hS.2.2 dX5_init_20
set_option maxHeartbeats 4000000 in
set_option maxRecDepth 100000 in
theorem c_X5_init_80 (l : Launch) (D : va_G) (cB cI cZ : ClassId) (sz : Nat) (h0 : Nat) : Met l yX5_init (.code yX5_init cX5_init 2 none :: wsL_law) ({ frames := 1, cells := 1, slots := 80, locals := 14 } : Room) (va_Pc [.ref h0, .int 80] (pIn D (pT cB cI cZ) sz [(h0, .inr (5, [.null, .int 0]))])) (va_Qv (fun (u : Nat) => True) (fun (u : Nat) (t : State) => pAt D (pT cB cI cZ) (va_A [(h0, .inr (5, [.null, .int 0]))] sz) [(h0, .inr (5, [.ref u, .int 0])), (u, .inl (cB, 80, .inl (fun _ => 0)))] t) (va_A [(h0, .inr (5, [.null, .int 0]))] sz)) 1 80 (va_A [(h0, .inr (5, [.null, .int 0]))] sz) := by
  refine Met.ofW (cc := cX5_init) (maxL := 2) (ret := none) (by decide) rfl ?_
  intro p e s m args below meth c s₁ B hml hv
  obtain ⟨rfl, hsz, hP, hK, hD0⟩ := hv
  have hx := B.exec
  have hb := B.bytes
  have hr := B.returns
  have hts0 := atoms_spec (ws := .code yX5_init cX5_init 2 none :: wsL_law) B.pre
  have hts := fun (w : Cond) (h : w ∈ wsL_law) => hts0 w (List.mem_cons_of_mem _ h)
  have hown : s.vm.findClass RX5 = some m.cls := findClass_of_methodNamed B.named
  have hlocks := B.notSynchronized
  have hin : meth.name = "<init>" := (name_of_methodNamed B.named B.method).1
  have hinX5 := inlX5
  subst hsz
  have hD := hD0.self (sz := s.heap.size)
  generalize hAe : va_A [(h0, .inr (5, [.null, .int 0]))] s.heap.size = A at hD ⊢
  have hA : ∀ q : Nat, s.heap.size ≤ q → A q := fun q h => by rw [← hAe]; exact Or.inr h
  have hS : va_S A s.heap s.heap [] := va_S.rf
  have hP : va_P D vwCl [(h0, .inr (5, [.null, .int 0]))] s.heap := hP
  have hl := lv_entry ([.ref h0, .int 80]) (n := 2) (Nat.le_of_ble_eq_true rfl)
  rw [lg_entry_eq]
  generalize (lg_sl ([.ref h0, .int 80]) ++ List.replicate (2 - (lg_sl ([.ref h0, .int 80])).length) Slot.unset).toArray = ls at hl ⊢
  have hl : lv_has ls 2 [(0, .ref h0), (1, .int 80)] := hl
  refine lv_aload_n hx hb dX5_init_0 rfl (lv_at hl 0 rfl) ?_
  refine W.objInit hx hb hown (hts (.methodLink RX5 3 objectInit) (uc2 _ (List.mem_of_getElem? (i := 23) rfl))) (hts (.instanceMethod objectInit) (uc1 _ (List.mem_of_getElem? (i := 10) rfl))) (hts (.code objectInit ⟨#[0xb1]⟩ 1 none) (uc1 _ (List.mem_of_getElem? (i := 11) rfl))) rfl (by rw [hml]; exact hl.1) rfl dX5_init_1 (Nat.le_of_ble_eq_true rfl) (Nat.le_of_ble_eq_true rfl) ?_
  refine W.eq (g2 := F0 m 4 ls []) rfl ?_
  refine lv_aload_n hx hb dX5_init_4 rfl (lv_at hl 0 rfl) ?_
  refine lv_iload_n hx hb dX5_init_5 rfl (lv_at hl 1 rfl) ?_
  refine lv_iconst (v := 0) hx hb dX5_init_6 (by decide) ?_
  refine va_mmax hx hb (by rw [hml]; exact hl.1.symm) hown (hts (.methodLink RX5 9 Lib.Math.max.name) (uc3 _ (List.mem_of_getElem? (i := 0) rfl))) (hts (.static Lib.Math.max.name) (uc3 _ (List.mem_of_getElem? (i := 1) rfl))) (hts (.initialized "java/lang/Math") (uc3 _ (List.mem_of_getElem? (i := 2) rfl))) (hts (.code Lib.Math.max.name Lib.Math.max.code 2 (some .int)) (uc3 _ (List.mem_of_getElem? (i := 3) rfl))) (Nat.le_of_ble_eq_true rfl) (Nat.le_of_ble_eq_true rfl) (Nat.le_of_ble_eq_true rfl) (Nat.le_of_ble_eq_true rfl) dX5_init_7 ?_
  refine lv_topi (fun z_1 ez_1 => ?_)
  obtain rfl : z_1 = 80 := ez_1.trans (by decide)
  refine pNewa (D := D) (cl := vwCl) (ty := .byte) (N' := 80) (a0 := (80, .inl (fun _ => 0))) (cA := cB) hx hb (hts (.arrayClass .byte) (uc3 _ (List.mem_of_getElem? (i := 4) rfl))) rfl hK hP hD hS hA (fun _ => rfl) (by decide) (by decide) (by decide) (Nat.le_of_ble_eq_true rfl) (Nat.le_of_ble_eq_true rfl) dX5_init_10 0 rfl (fun q_2 H_3 hP hD hS => ?_)
  have hP : va_P D vwCl [(h0, .inr (5, [.null, .int 0])), (q_2, .inl (cB, 80, .inl (fun _ => 0)))] H_3 := hP
  have hD : va_D A [(h0, .inr (5, [.null, .int 0])), (q_2, .inl (cB, 80, .inl (fun _ => 0)))] := hD
  refine W.widen (k := 1) (n := 80) (by decide) (by decide) ?_
  refine va_putF (D := D) (ci := 5) (v := .ref q_2) (ty := (.array .byte)) (C := RX5) (T := TX5) (N := 2) hx hb hts hinX5 tyX5 tyX5_ok nmX5 hown hK hP hD hS 0 rfl rfl 0 (by decide) (hts (.fieldLink RX5 15 "TaleReader$Text" "signs" "[B") (uc3 _ (List.mem_of_getElem? (i := 5) rfl))) (fun _ h9 => h9) rfl hin rfl (by decide +kernel) rfl rfl (Nat.le_of_ble_eq_true rfl) dX5_init_12 (fun H_4 L_5 hP hD hS => ?_)
  have hP : va_P D vwCl [(h0, .inr (5, [.ref q_2, .int 0])), (q_2, .inl (cB, 80, .inl (fun _ => 0)))] H_4 := hP
  have hD : va_D A [(h0, .inr (5, [.ref q_2, .int 0])), (q_2, .inl (cB, 80, .inl (fun _ => 0)))] := hD
  refine lv_aload_n hx hb dX5_init_15 rfl (lv_at hl 0 rfl) ?_
  refine lv_iconst (v := 0) hx hb dX5_init_16 (by decide) ?_
  refine va_put (D := D) (ci := 5) (v := .int 0) (ty := .int) (C := RX5) (T := TX5) (N := 2) hx hb hts hinX5 tyX5 tyX5_ok nmX5 hown hK hP hD hS 0 rfl rfl 1 (by decide) (hts (.fieldLink RX5 21 "TaleReader$Text" "size" "I") (uc3 _ (List.mem_of_getElem? (i := 6) rfl))) (fun _ h9 => h9) rfl (by decide +kernel) rfl rfl (Nat.le_of_ble_eq_true rfl) dX5_init_17 (fun H_6 L_7 hP hD hS => ?_)
  have hP : va_P D vwCl [(h0, .inr (5, [.ref q_2, .int 0])), (q_2, .inl (cB, 80, .inl (fun _ => 0)))] H_6 := hP
  have hD : va_D A [(h0, .inr (5, [.ref q_2, .int 0])), (q_2, .inl (cB, 80, .inl (fun _ => 0)))] := hD
  have hP9 := hP.sub (ws' := [(h0, .inr (5, [.ref q_2, .int 0])), (q_2, .inl (cB, 80, .inl (fun _ => 0)))]) [0, 1] rfl
  have hD9 := hD.sub (ws' := [(h0, .inr (5, [.ref q_2, .int 0])), (q_2, .inl (cB, 80, .inl (fun _ => 0)))]) [0, 1] (by decide) rfl
  exact W.vret hx hb hr (fun t ht hW => ⟨⟨q_2, rfl, trivial, ⟨by rw [ht]; exact hP9, va_K.moved hW.alike hK, hD9⟩⟩, hS.F ht⟩) hS.2.2 dX5_init_20
set_option maxHeartbeats 4000000 in
set_option maxRecDepth 100000 in
theorem c_X5_size (l : Launch) (D : va_G) (cB cI cZ : ClassId) (sz : Nat) (h0 : Nat) (a : Nat) (v : Int32) : Met l yX5_size (.code yX5_size cX5_size 1 (some .int) :: wsL_law) ({ frames := 0, cells := 0, slots := 0, locals := 0 } : Room) (va_Pc [.ref h0] (pIn D (pT cB cI cZ) sz [(h0, .inr (5, [.ref a, .int v]))])) (va_Qi (fun (r : Int32) (u : Unit) => r = v) (fun (u : Unit) (t : State) => pAt D (pT cB cI cZ) (va_A [(h0, .inr (5, [.ref a, .int v]))] sz) [(h0, .inr (5, [.ref a, .int v]))] t) (va_A [(h0, .inr (5, [.ref a, .int v]))] sz)) 0 0 (va_A [(h0, .inr (5, [.ref a, .int v]))] sz) := by
  refine Met.ofW (cc := cX5_size) (maxL := 1) (ret := (some .int)) (by decide) rfl ?_
  intro p e s m args below meth c s₁ B hml hv
  obtain ⟨rfl, hsz, hP, hK, hD0⟩ := hv
  have hx := B.exec
  have hb := B.bytes
  have hr := B.returns
  have hts0 := atoms_spec (ws := .code yX5_size cX5_size 1 (some .int) :: wsL_law) B.pre
  have hts := fun (w : Cond) (h : w ∈ wsL_law) => hts0 w (List.mem_cons_of_mem _ h)
  have hown : s.vm.findClass RX5 = some m.cls := findClass_of_methodNamed B.named
  have hlocks := B.notSynchronized
  have hinX5 := inlX5
  subst hsz
  have hD := hD0.self (sz := s.heap.size)
  generalize hAe : va_A [(h0, .inr (5, [.ref a, .int v]))] s.heap.size = A at hD ⊢
  have hA : ∀ q : Nat, s.heap.size ≤ q → A q := fun q h => by rw [← hAe]; exact Or.inr h
  have hS : va_S A s.heap s.heap [] := va_S.rf
  have hP : va_P D vwCl [(h0, .inr (5, [.ref a, .int v]))] s.heap := hP
  have hl := lv_entry ([.ref h0]) (n := 1) (Nat.le_of_ble_eq_true rfl)
  rw [lg_entry_eq]
  generalize (lg_sl ([.ref h0]) ++ List.replicate (1 - (lg_sl ([.ref h0])).length) Slot.unset).toArray = ls at hl ⊢
  have hl : lv_has ls 1 [(0, .ref h0)] := hl
  refine lv_aload_n hx hb dX5_size_0 rfl (lv_at hl 0 rfl) ?_
  refine va_get (D := D) (ci := 5) (v := .int v) (C := RX5) (T := TX5) (N := 2) hx hb hts hinX5 hown hK hP 0 rfl rfl 1 (by decide) (hts (.fieldLink RX5 21 "TaleReader$Text" "size" "I") (uc3 _ (List.mem_of_getElem? (i := 6) rfl))) (fun _ h9 => h9) rfl dX5_size_1 ?_
  have hP9 := hP.sub (ws' := [(h0, .inr (5, [.ref a, .int v]))]) [0] rfl
  have hD9 := hD.sub (ws' := [(h0, .inr (5, [.ref a, .int v]))]) [0] (by decide) rfl
  exact W.iret (v := v) hx hb hr (fun t ht hW => ⟨⟨v, (), rfl, rfl, ⟨by rw [ht]; exact hP9, va_K.moved hW.alike hK, hD9⟩⟩, hS.F ht⟩) hS.2.2 dX5_size_4
set_option maxHeartbeats 4000000 in
set_option maxRecDepth 100000 in
theorem c_X5_clear (l : Launch) (D : va_G) (cB cI cZ : ClassId) (sz : Nat) (h0 : Nat) (a : Nat) (v : Int32) : Met l yX5_clear (.code yX5_clear cX5_clear 1 none :: wsL_law) ({ frames := 0, cells := 0, slots := 0, locals := 0 } : Room) (va_Pc [.ref h0] (pIn D (pT cB cI cZ) sz [(h0, .inr (5, [.ref a, .int v]))])) (va_Qv (fun (u : Unit) => True) (fun (u : Unit) (t : State) => pAt D (pT cB cI cZ) (va_A [(h0, .inr (5, [.ref a, .int v]))] sz) [(h0, .inr (5, [.ref a, .int 0]))] t) (va_A [(h0, .inr (5, [.ref a, .int v]))] sz)) 0 0 (va_A [(h0, .inr (5, [.ref a, .int v]))] sz) := by
  refine Met.ofW (cc := cX5_clear) (maxL := 1) (ret := none) (by decide) rfl ?_
  intro p e s m args below meth c s₁ B hml hv
  obtain ⟨rfl, hsz, hP, hK, hD0⟩ := hv
  have hx := B.exec
  have hb := B.bytes
  have hr := B.returns
  have hts0 := atoms_spec (ws := .code yX5_clear cX5_clear 1 none :: wsL_law) B.pre
  have hts := fun (w : Cond) (h : w ∈ wsL_law) => hts0 w (List.mem_cons_of_mem _ h)
  have hown : s.vm.findClass RX5 = some m.cls := findClass_of_methodNamed B.named
  have hlocks := B.notSynchronized
  have hinX5 := inlX5
  subst hsz
  have hD := hD0.self (sz := s.heap.size)
  generalize hAe : va_A [(h0, .inr (5, [.ref a, .int v]))] s.heap.size = A at hD ⊢
  have hA : ∀ q : Nat, s.heap.size ≤ q → A q := fun q h => by rw [← hAe]; exact Or.inr h
  have hS : va_S A s.heap s.heap [] := va_S.rf
  have hP : va_P D vwCl [(h0, .inr (5, [.ref a, .int v]))] s.heap := hP
  have hl := lv_entry ([.ref h0]) (n := 1) (Nat.le_of_ble_eq_true rfl)
  rw [lg_entry_eq]
  generalize (lg_sl ([.ref h0]) ++ List.replicate (1 - (lg_sl ([.ref h0])).length) Slot.unset).toArray = ls at hl ⊢
  have hl : lv_has ls 1 [(0, .ref h0)] := hl
  refine lv_aload_n hx hb dX5_clear_0 rfl (lv_at hl 0 rfl) ?_
  refine lv_iconst (v := 0) hx hb dX5_clear_1 (by decide) ?_
  refine va_put (D := D) (ci := 5) (v := .int 0) (ty := .int) (C := RX5) (T := TX5) (N := 2) hx hb hts hinX5 tyX5 tyX5_ok nmX5 hown hK hP hD hS 0 rfl rfl 1 (by decide) (hts (.fieldLink RX5 21 "TaleReader$Text" "size" "I") (uc3 _ (List.mem_of_getElem? (i := 6) rfl))) (fun _ h9 => h9) rfl (by decide +kernel) rfl rfl (Nat.le_of_ble_eq_true rfl) dX5_clear_2 (fun H_1 L_2 hP hD hS => ?_)
  have hP : va_P D vwCl [(h0, .inr (5, [.ref a, .int 0]))] H_1 := hP
  have hD : va_D A [(h0, .inr (5, [.ref a, .int 0]))] := hD
  have hP9 := hP.sub (ws' := [(h0, .inr (5, [.ref a, .int 0]))]) [0] rfl
  have hD9 := hD.sub (ws' := [(h0, .inr (5, [.ref a, .int 0]))]) [0] (by decide) rfl
  exact W.vret hx hb hr (fun t ht hW => ⟨⟨(), rfl, trivial, ⟨by rw [ht]; exact hP9, va_K.moved hW.alike hK, hD9⟩⟩, hS.F ht⟩) hS.2.2 dX5_clear_5
set_option maxHeartbeats 4000000 in
set_option maxRecDepth 100000 in
theorem c_X5_shorten (l : Launch) (D : va_G) (cB cI cZ : ClassId) (sz : Nat) (h0 : Nat) (a : Nat) (v : Int32) (k : Int32) : Met l yX5_shorten (.code yX5_shorten cX5_shorten 2 (some .boolean) :: wsL_law) ({ frames := 0, cells := 0, slots := 0, locals := 0 } : Room) (va_Pc [.ref h0, .int k] (pIn D (pT cB cI cZ) sz [(h0, .inr (5, [.ref a, .int v]))])) (va_Qi (fun (r : Int32) (u : Int32) => ((r = 0) ∧ (u = v) ∧ (k < 0 ∨ ¬ k ≤ v)) ∨ ((r = 1) ∧ (u = k) ∧ (¬ k < 0) ∧ (k ≤ v))) (fun (u : Int32) (t : State) => pAt D (pT cB cI cZ) (va_A [(h0, .inr (5, [.ref a, .int v]))] sz) [(h0, .inr (5, [.ref a, .int u]))] t) (va_A [(h0, .inr (5, [.ref a, .int v]))] sz)) 0 0 (va_A [(h0, .inr (5, [.ref a, .int v]))] sz) := by
  refine Met.ofW (cc := cX5_shorten) (maxL := 2) (ret := (some .boolean)) (by decide) rfl ?_
  intro p e s m args below meth c s₁ B hml hv
  obtain ⟨rfl, hsz, hP, hK, hD0⟩ := hv
  have hx := B.exec
  have hb := B.bytes
  have hr := B.returns
  have hts0 := atoms_spec (ws := .code yX5_shorten cX5_shorten 2 (some .boolean) :: wsL_law) B.pre
  have hts := fun (w : Cond) (h : w ∈ wsL_law) => hts0 w (List.mem_cons_of_mem _ h)
  have hown : s.vm.findClass RX5 = some m.cls := findClass_of_methodNamed B.named
  have hlocks := B.notSynchronized
  have hinX5 := inlX5
  subst hsz
  have hD := hD0.self (sz := s.heap.size)
  generalize hAe : va_A [(h0, .inr (5, [.ref a, .int v]))] s.heap.size = A at hD ⊢
  have hA : ∀ q : Nat, s.heap.size ≤ q → A q := fun q h => by rw [← hAe]; exact Or.inr h
  have hS : va_S A s.heap s.heap [] := va_S.rf
  have hP : va_P D vwCl [(h0, .inr (5, [.ref a, .int v]))] s.heap := hP
  have hl := lv_entry ([.ref h0, .int k]) (n := 2) (Nat.le_of_ble_eq_true rfl)
  rw [lg_entry_eq]
  generalize (lg_sl ([.ref h0, .int k]) ++ List.replicate (2 - (lg_sl ([.ref h0, .int k])).length) Slot.unset).toArray = ls at hl ⊢
  have hl : lv_has ls 2 [(0, .ref h0), (1, .int k)] := hl
  refine lv_iload_n hx hb dX5_shorten_0 rfl (lv_at hl 1 rfl) ?_
  refine lv_if_lt (tgt := 12) hx hb dX5_shorten_1 (by decide) (fun c_1 => ?_) (fun c_1 => ?_)
  · refine lv_iconst (v := 0) hx hb dX5_shorten_12 (by decide) ?_
    have hP9 := hP.sub (ws' := [(h0, .inr (5, [.ref a, .int v]))]) [0] rfl
    have hD9 := hD.sub (ws' := [(h0, .inr (5, [.ref a, .int v]))]) [0] (by decide) rfl
    exact W.zret (v := 0) hx hb hr (rfl) (fun t ht hW => ⟨⟨0, v, rfl, Or.inl (⟨rfl, rfl, Or.inl c_1⟩), ⟨by rw [ht]; exact hP9, va_K.moved hW.alike hK, hD9⟩⟩, hS.F ht⟩) hS.2.2 dX5_shorten_13
  · refine lv_iload_n hx hb dX5_shorten_4 rfl (lv_at hl 1 rfl) ?_
    refine lv_aload_n hx hb dX5_shorten_5 rfl (lv_at hl 0 rfl) ?_
    refine va_get (D := D) (ci := 5) (v := .int v) (C := RX5) (T := TX5) (N := 2) hx hb hts hinX5 hown hK hP 0 rfl rfl 1 (by decide) (hts (.fieldLink RX5 21 "TaleReader$Text" "size" "I") (uc3 _ (List.mem_of_getElem? (i := 6) rfl))) (fun _ h9 => h9) rfl dX5_shorten_6 ?_
    refine lv_icmp_le (tgt := 14) hx hb dX5_shorten_9 (by decide) (fun c_2 => ?_) (fun c_2 => ?_)
    · refine lv_aload_n hx hb dX5_shorten_14 rfl (lv_at hl 0 rfl) ?_
      refine lv_iload_n hx hb dX5_shorten_15 rfl (lv_at hl 1 rfl) ?_
      refine va_put (D := D) (ci := 5) (v := .int k) (ty := .int) (C := RX5) (T := TX5) (N := 2) hx hb hts hinX5 tyX5 tyX5_ok nmX5 hown hK hP hD hS 0 rfl rfl 1 (by decide) (hts (.fieldLink RX5 21 "TaleReader$Text" "size" "I") (uc3 _ (List.mem_of_getElem? (i := 6) rfl))) (fun _ h9 => h9) rfl (by decide +kernel) rfl rfl (Nat.le_of_ble_eq_true rfl) dX5_shorten_16 (fun H_3 L_4 hP hD hS => ?_)
      have hP : va_P D vwCl [(h0, .inr (5, [.ref a, .int k]))] H_3 := hP
      have hD : va_D A [(h0, .inr (5, [.ref a, .int k]))] := hD
      refine lv_iconst (v := 1) hx hb dX5_shorten_19 (by decide) ?_
      have hP9 := hP.sub (ws' := [(h0, .inr (5, [.ref a, .int k]))]) [0] rfl
      have hD9 := hD.sub (ws' := [(h0, .inr (5, [.ref a, .int k]))]) [0] (by decide) rfl
      exact W.zret (v := 1) hx hb hr (rfl) (fun t ht hW => ⟨⟨1, k, rfl, Or.inr ((⟨rfl, by first | assumption | rfl | omega, by first | assumption | rfl | omega, by first | assumption | rfl | omega⟩)), ⟨by rw [ht]; exact hP9, va_K.moved hW.alike hK, hD9⟩⟩, hS.F ht⟩) hS.2.2 dX5_shorten_20
    · refine lv_iconst (v := 0) hx hb dX5_shorten_12 (by decide) ?_
      have hP9 := hP.sub (ws' := [(h0, .inr (5, [.ref a, .int v]))]) [0] rfl
      have hD9 := hD.sub (ws' := [(h0, .inr (5, [.ref a, .int v]))]) [0] (by decide) rfl
      exact W.zret (v := 0) hx hb hr (rfl) (fun t ht hW => ⟨⟨0, v, rfl, Or.inl (⟨rfl, rfl, Or.inr c_2⟩), ⟨by rw [ht]; exact hP9, va_K.moved hW.alike hK, hD9⟩⟩, hS.F ht⟩) hS.2.2 dX5_shorten_13
set_option maxHeartbeats 4000000 in
set_option maxRecDepth 100000 in
theorem c_X5_addSign (l : Launch) (D : va_G) (cB cI cZ : ClassId) (sz : Nat) (h0 : Nat) (a : Nat) (n : Nat) (k : Nat) (f : Nat → Int32) (x : Int32) (hk : k < n) (hn : n < 2 ^ 31) : Met l yX5_addSign (.code yX5_addSign cX5_addSign 2 none :: wsL_law) ({ frames := 0, cells := 0, slots := 0, locals := 0 } : Room) (va_Pc [.ref h0, .int x] (pIn D (pT cB cI cZ) sz [(h0, .inr (5, [.ref a, .int (nI k)])), (a, .inl (cB, n, .inl f))])) (va_Qv (fun (u : Unit) => True) (fun (u : Unit) (t : State) => pAt D (pT cB cI cZ) (va_A [(h0, .inr (5, [.ref a, .int (nI k)])), (a, .inl (cB, n, .inl f))] sz) [(h0, .inr (5, [.ref a, .int (nI (k + 1))])), (a, .inl (cB, n, .inl (upd f k x.toInt8.toInt32)))] t) (va_A [(h0, .inr (5, [.ref a, .int (nI k)])), (a, .inl (cB, n, .inl f))] sz)) 0 0 (va_A [(h0, .inr (5, [.ref a, .int (nI k)])), (a, .inl (cB, n, .inl f))] sz) := by
  refine Met.ofW (cc := cX5_addSign) (maxL := 2) (ret := none) (by decide) rfl ?_
  intro p e s m args below meth c s₁ B hml hv
  obtain ⟨rfl, hsz, hP, hK, hD0⟩ := hv
  have hx := B.exec
  have hb := B.bytes
  have hr := B.returns
  have hts0 := atoms_spec (ws := .code yX5_addSign cX5_addSign 2 none :: wsL_law) B.pre
  have hts := fun (w : Cond) (h : w ∈ wsL_law) => hts0 w (List.mem_cons_of_mem _ h)
  have hown : s.vm.findClass RX5 = some m.cls := findClass_of_methodNamed B.named
  have hlocks := B.notSynchronized
  have hinX5 := inlX5
  subst hsz
  have hD := hD0.self (sz := s.heap.size)
  generalize hAe : va_A [(h0, .inr (5, [.ref a, .int (nI k)])), (a, .inl (cB, n, .inl f))] s.heap.size = A at hD ⊢
  have hA : ∀ q : Nat, s.heap.size ≤ q → A q := fun q h => by rw [← hAe]; exact Or.inr h
  have hS : va_S A s.heap s.heap [] := va_S.rf
  have hP : va_P D vwCl [(h0, .inr (5, [.ref a, .int (nI k)])), (a, .inl (cB, n, .inl f))] s.heap := hP
  have hl := lv_entry ([.ref h0, .int x]) (n := 2) (Nat.le_of_ble_eq_true rfl)
  rw [lg_entry_eq]
  generalize (lg_sl ([.ref h0, .int x]) ++ List.replicate (2 - (lg_sl ([.ref h0, .int x])).length) Slot.unset).toArray = ls at hl ⊢
  have hl : lv_has ls 2 [(0, .ref h0), (1, .int x)] := hl
  refine lv_aload_n hx hb dX5_addSign_0 rfl (lv_at hl 0 rfl) ?_
  refine va_get (D := D) (ci := 5) (v := .int (nI k)) (C := RX5) (T := TX5) (N := 2) hx hb hts hinX5 hown hK hP 0 rfl rfl 1 (by decide) (hts (.fieldLink RX5 21 "TaleReader$Text" "size" "I") (uc3 _ (List.mem_of_getElem? (i := 6) rfl))) (fun _ h9 => h9) rfl dX5_addSign_1 ?_
  refine lv_aload_n hx hb dX5_addSign_4 rfl (lv_at hl 0 rfl) ?_
  refine va_get (D := D) (ci := 5) (v := .ref a) (C := RX5) (T := TX5) (N := 2) hx hb hts hinX5 hown hK hP 0 rfl rfl 0 (by decide) (hts (.fieldLink RX5 15 "TaleReader$Text" "signs" "[B") (uc3 _ (List.mem_of_getElem? (i := 5) rfl))) (fun _ h9 => h9) rfl dX5_addSign_5 ?_
  refine va_alen (D := D) (v := nI n) hx hb hK hP 1 0 rfl rfl rfl dX5_addSign_8 ?_
  refine lv_icmp_ge (tgt := 33) hx hb dX5_addSign_9 (by decide) (fun c_1 => ?_) (fun c_1 => ?_)
  · exact False.elim (by exact absurd ((nI_leI (by omega) (by omega)).mp c_1) (by omega))
  · refine lv_aload_n hx hb dX5_addSign_12 rfl (lv_at hl 0 rfl) ?_
    refine va_get (D := D) (ci := 5) (v := .ref a) (C := RX5) (T := TX5) (N := 2) hx hb hts hinX5 hown hK hP 0 rfl rfl 0 (by decide) (hts (.fieldLink RX5 15 "TaleReader$Text" "signs" "[B") (uc3 _ (List.mem_of_getElem? (i := 5) rfl))) (fun _ h9 => h9) rfl dX5_addSign_13 ?_
    refine lv_aload_n hx hb dX5_addSign_16 rfl (lv_at hl 0 rfl) ?_
    refine va_get (D := D) (ci := 5) (v := .int (nI k)) (C := RX5) (T := TX5) (N := 2) hx hb hts hinX5 hown hK hP 0 rfl rfl 1 (by decide) (hts (.fieldLink RX5 21 "TaleReader$Text" "size" "I") (uc3 _ (List.mem_of_getElem? (i := 6) rfl))) (fun _ h9 => h9) rfl dX5_addSign_17 ?_
    refine lv_iload_n hx hb dX5_addSign_20 rfl (lv_at hl 1 rfl) ?_
    refine lv_i2b (v := x.toInt8.toInt32) hx hb dX5_addSign_21 rfl ?_
    refine va_bast (D := D) hx hb hK hP hD hS 1 0 rfl rfl (vp_in_nI (by omega) (by omega)) dX5_addSign_22 (fun H_2 L_3 hP hD hS => ?_)
    obtain ⟨g_4, eg_4⟩ : ∃ gg : Nat → Int32, gg = upd f ((nI k)).toNatClampNeg (vp_nar .byte x.toInt8.toInt32) := ⟨_, rfl⟩
    have hP : va_P D vwCl [(h0, .inr (5, [.ref a, .int (nI k)])), (a, .inl (cB, n, .inl g_4))] H_2 := by rw [eg_4]; exact hP
    have hD : va_D A [(h0, .inr (5, [.ref a, .int (nI k)])), (a, .inl (cB, n, .inl g_4))] := by rw [eg_4]; exact hD
    obtain rfl : g_4 = upd f k x.toInt8.toInt32 := eg_4.trans (by rw [nI_clamp (by omega), pk_vb])
    refine lv_aload_n hx hb dX5_addSign_23 rfl (lv_at hl 0 rfl) ?_
    refine lv_dup hx hb dX5_addSign_24 rfl ?_
    refine va_get (D := D) (ci := 5) (v := .int (nI k)) (C := RX5) (T := TX5) (N := 2) hx hb hts hinX5 hown hK hP 0 rfl rfl 1 (by decide) (hts (.fieldLink RX5 21 "TaleReader$Text" "size" "I") (uc3 _ (List.mem_of_getElem? (i := 6) rfl))) (fun _ h9 => h9) rfl dX5_addSign_25 ?_
    refine lv_iconst (v := 1) hx hb dX5_addSign_28 (by decide) ?_
    refine lv_iadd hx hb dX5_addSign_29 ?_
    refine lv_topi (fun z_5 ez_5 => ?_)
    obtain rfl : z_5 = nI (k + 1) := ez_5.trans (nI_add k 1)
    refine va_put (D := D) (ci := 5) (v := .int (nI (k + 1))) (ty := .int) (C := RX5) (T := TX5) (N := 2) hx hb hts hinX5 tyX5 tyX5_ok nmX5 hown hK hP hD hS 0 rfl rfl 1 (by decide) (hts (.fieldLink RX5 21 "TaleReader$Text" "size" "I") (uc3 _ (List.mem_of_getElem? (i := 6) rfl))) (fun _ h9 => h9) rfl (by decide +kernel) rfl rfl (Nat.le_of_ble_eq_true rfl) dX5_addSign_30 (fun H_6 L_7 hP hD hS => ?_)
    have hP : va_P D vwCl [(h0, .inr (5, [.ref a, .int (nI (k + 1))])), (a, .inl (cB, n, .inl (upd f k x.toInt8.toInt32)))] H_6 := hP
    have hD : va_D A [(h0, .inr (5, [.ref a, .int (nI (k + 1))])), (a, .inl (cB, n, .inl (upd f k x.toInt8.toInt32)))] := hD
    have hP9 := hP.sub (ws' := [(h0, .inr (5, [.ref a, .int (nI (k + 1))])), (a, .inl (cB, n, .inl (upd f k x.toInt8.toInt32)))]) [0, 1] rfl
    have hD9 := hD.sub (ws' := [(h0, .inr (5, [.ref a, .int (nI (k + 1))])), (a, .inl (cB, n, .inl (upd f k x.toInt8.toInt32)))]) [0, 1] (by decide) rfl
    exact W.vret hx hb hr (fun t ht hW => ⟨⟨(), rfl, trivial, ⟨by rw [ht]; exact hP9, va_K.moved hW.alike hK, hD9⟩⟩, hS.F ht⟩) hS.2.2 dX5_addSign_33
set_option maxHeartbeats 4000000 in
set_option maxRecDepth 100000 in
theorem c_X5_addNumber (l : Launch) (D : va_G) (cB cI cZ : ClassId) (sz : Nat) (h0 : Nat) (a : Nat) (n : Nat) (k : Nat) (f : Nat → Int32) (x : Int32) (hk : k + 4 ≤ n) (hn : n < 2 ^ 31) : Met l yX5_addNumber (.code yX5_addNumber cX5_addNumber 3 none :: wsL_law) ({ frames := 1, cells := 0, slots := 0, locals := 21 } : Room) (va_Pc [.ref h0, .int x] (pIn D (pT cB cI cZ) sz [(h0, .inr (5, [.ref a, .int (nI k)])), (a, .inl (cB, n, .inl f))])) (va_Qv (fun (u : (Nat → Int32)) => True) (fun (u : (Nat → Int32)) (t : State) => pAt D (pT cB cI cZ) (va_A [(h0, .inr (5, [.ref a, .int (nI k)])), (a, .inl (cB, n, .inl f))] sz) [(h0, .inr (5, [.ref a, .int (nI (k + 4))])), (a, .inl (cB, n, .inl u))] t) (va_A [(h0, .inr (5, [.ref a, .int (nI k)])), (a, .inl (cB, n, .inl f))] sz)) 0 0 (va_A [(h0, .inr (5, [.ref a, .int (nI k)])), (a, .inl (cB, n, .inl f))] sz) := by
  refine Met.ofW (cc := cX5_addNumber) (maxL := 3) (ret := none) (by decide) rfl ?_
  intro p e s m args below meth c s₁ B hml hv
  obtain ⟨rfl, hsz, hP, hK, hD0⟩ := hv
  have hx := B.exec
  have hb := B.bytes
  have hr := B.returns
  have hts0 := atoms_spec (ws := .code yX5_addNumber cX5_addNumber 3 none :: wsL_law) B.pre
  have hts := fun (w : Cond) (h : w ∈ wsL_law) => hts0 w (List.mem_cons_of_mem _ h)
  have hown : s.vm.findClass RX5 = some m.cls := findClass_of_methodNamed B.named
  have hlocks := B.notSynchronized
  subst hsz
  have hD := hD0.self (sz := s.heap.size)
  generalize hAe : va_A [(h0, .inr (5, [.ref a, .int (nI k)])), (a, .inl (cB, n, .inl f))] s.heap.size = A at hD ⊢
  have hA : ∀ q : Nat, s.heap.size ≤ q → A q := fun q h => by rw [← hAe]; exact Or.inr h
  have hS : va_S A s.heap s.heap [] := va_S.rf
  have hP : va_P D vwCl [(h0, .inr (5, [.ref a, .int (nI k)])), (a, .inl (cB, n, .inl f))] s.heap := hP
  have hl := lv_entry ([.ref h0, .int x]) (n := 3) (Nat.le_of_ble_eq_true rfl)
  rw [lg_entry_eq]
  generalize (lg_sl ([.ref h0, .int x]) ++ List.replicate (3 - (lg_sl ([.ref h0, .int x])).length) Slot.unset).toArray = ls at hl ⊢
  have hl : lv_has ls 3 [(0, .ref h0), (1, .int x)] := hl
  refine lv_bipush (v := 24) hx hb dX5_addNumber_0 (by decide) ?_
  refine lv_istore_n (lv' := [(2, .int 24), (0, .ref h0), (1, .int x)]) hx hb dX5_addNumber_2 rfl hl (by decide) rfl (fun ls hl => ?_)
  refine lv_iload_n hx hb dX5_addNumber_3 rfl (lv_at hl 0 rfl) ?_
  refine lv_if_lt (tgt := 20) hx hb dX5_addNumber_4 (by decide) (fun c_1 => ?_) (fun c_1 => ?_)
  · exact False.elim (by revert c_1; decide)
  · refine lv_aload_n hx hb dX5_addNumber_7 rfl (lv_at hl 1 rfl) ?_
    refine lv_iload_n hx hb dX5_addNumber_8 rfl (lv_at hl 2 rfl) ?_
    refine lv_iload_n hx hb dX5_addNumber_9 rfl (lv_at hl 0 rfl) ?_
    refine lv_iushr (v := (x.toUInt32 >>> ((Int32.toUInt32 24) &&& Int32.toUInt32 31)).toInt32) hx hb dX5_addNumber_10 rfl ?_
    have hPc := hP.sub (ws' := [(h0, .inr (5, [.ref a, .int (nI k)])), (a, .inl (cB, n, .inl f))]) [0, 1] rfl
    have hDc := hD.sub (ws' := [(h0, .inr (5, [.ref a, .int (nI k)])), (a, .inl (cB, n, .inl f))]) [0, 1] (by decide) rfl
    have hFc := va_free (wc := [(h0, .inr (5, [.ref a, .int (nI k)])), (a, .inl (cB, n, .inl f))]) hD hS hA [0, 1] rfl
    refine va_callv (va_runV (As := [.int ((x.toUInt32 >>> ((Int32.toUInt32 24) &&& Int32.toUInt32 31)).toInt32)]) (rest := []) ⟨hx, hb, hml, hown, hts⟩ (c_X5_addSign l D cB cI cZ s.heap.size h0 a n k f ((x.toUInt32 >>> ((Int32.toUInt32 24) &&& Int32.toUInt32 31)).toInt32) (by omega) (by omega)) (cwV 1 hts (uV (uc8 _ (List.mem_of_getElem? (i := 5) rfl)) (uc8 _ (List.mem_of_getElem? (i := 6) rfl)) (uc8 _ (List.mem_of_getElem? (i := 7) rfl)) (uc1 _ (List.mem_of_getElem? (i := 14) rfl)) (uc8 _ (List.mem_of_getElem? (i := 8) rfl))) rfl rfl rfl (by decide +kernel) ⟨Nat.le_of_ble_eq_true rfl, Nat.le_of_ble_eq_true rfl⟩) (pV hK hPc hDc 0 rfl rfl) rfl rfl hl.1 rfl (lv_room (Nat.le_of_ble_eq_true rfl)) dX5_addNumber_11 ⟨Nat.le_of_ble_eq_true rfl, Nat.le_of_ble_eq_true rfl⟩) hS (fun q _ h => hFc q h) hFc (fun u t H_3 L_4 ht hvm hw hB hz1 hk1 hS => ?_)
    obtain ⟨hP1, -, hD1⟩ := hB
    rw [ht] at hP1
    obtain ⟨hP, hD⟩ := va_join (wr := []) (w1 := [(h0, .inr (5, [.ref a, .int (nI (k + 1))])), (a, .inl (cB, n, .inl (upd f k ((x.toUInt32 >>> ((Int32.toUInt32 24) &&& Int32.toUInt32 31)).toInt32).toInt8.toInt32)))]) hP hD [0, 1] [] rfl rfl (by decide) (by decide) hk1 hFc hP1 hD1
    have hP : va_P D vwCl [(h0, .inr (5, [.ref a, .int (nI (k + 1))])), (a, .inl (cB, n, .inl (upd f k ((x.toUInt32 >>> ((Int32.toUInt32 24) &&& Int32.toUInt32 31)).toInt32).toInt8.toInt32)))] H_3 := hP.sub [0, 1] rfl
    have hD : va_D A [(h0, .inr (5, [.ref a, .int (nI (k + 1))])), (a, .inl (cB, n, .inl (upd f k ((x.toUInt32 >>> ((Int32.toUInt32 24) &&& Int32.toUInt32 31)).toInt32).toInt8.toInt32)))] := hD.sub [0, 1] (by decide) rfl
    try dsimp only at hw
    refine lv_iinc (v := 16) (lv' := [(2, .int 16), (0, .ref h0), (1, .int x)]) hx hb dX5_addNumber_14 hl (k := 0) rfl (by decide) (by decide) rfl (fun ls hl => ?_)
    refine lv_goto (tgt := 3) hx hb dX5_addNumber_17 (by decide) ?_
    refine lv_iload_n hx hb dX5_addNumber_3 rfl (lv_at hl 0 rfl) ?_
    refine lv_if_lt (tgt := 20) hx hb dX5_addNumber_4 (by decide) (fun c_5 => ?_) (fun c_5 => ?_)
    · exact False.elim (by revert c_5; decide)
    · refine lv_aload_n hx hb dX5_addNumber_7 rfl (lv_at hl 1 rfl) ?_
      refine lv_iload_n hx hb dX5_addNumber_8 rfl (lv_at hl 2 rfl) ?_
      refine lv_iload_n hx hb dX5_addNumber_9 rfl (lv_at hl 0 rfl) ?_
      refine lv_iushr (v := (x.toUInt32 >>> ((Int32.toUInt32 16) &&& Int32.toUInt32 31)).toInt32) hx hb dX5_addNumber_10 rfl ?_
      have hPc := hP.sub (ws' := [(h0, .inr (5, [.ref a, .int (nI (k + 1))])), (a, .inl (cB, n, .inl (upd f k ((x.toUInt32 >>> ((Int32.toUInt32 24) &&& Int32.toUInt32 31)).toInt32).toInt8.toInt32)))]) [0, 1] rfl
      have hDc := hD.sub (ws' := [(h0, .inr (5, [.ref a, .int (nI (k + 1))])), (a, .inl (cB, n, .inl (upd f k ((x.toUInt32 >>> ((Int32.toUInt32 24) &&& Int32.toUInt32 31)).toInt32).toInt8.toInt32)))]) [0, 1] (by decide) rfl
      have hFc := va_free (wc := [(h0, .inr (5, [.ref a, .int (nI (k + 1))])), (a, .inl (cB, n, .inl (upd f k ((x.toUInt32 >>> ((Int32.toUInt32 24) &&& Int32.toUInt32 31)).toInt32).toInt8.toInt32)))]) hD hS hA [0, 1] rfl
      refine va_callv (va_runV (As := [.int ((x.toUInt32 >>> ((Int32.toUInt32 16) &&& Int32.toUInt32 31)).toInt32)]) (rest := []) ⟨hx, hb, hml, hown, hts⟩ (c_X5_addSign l D cB cI cZ H_3.size h0 a n (k + 1) (upd f k ((x.toUInt32 >>> ((Int32.toUInt32 24) &&& Int32.toUInt32 31)).toInt32).toInt8.toInt32) ((x.toUInt32 >>> ((Int32.toUInt32 16) &&& Int32.toUInt32 31)).toInt32) (by omega) (by omega)) (cwV 1 hts (uV (uc8 _ (List.mem_of_getElem? (i := 5) rfl)) (uc8 _ (List.mem_of_getElem? (i := 6) rfl)) (uc8 _ (List.mem_of_getElem? (i := 7) rfl)) (uc1 _ (List.mem_of_getElem? (i := 14) rfl)) (uc8 _ (List.mem_of_getElem? (i := 8) rfl))) rfl rfl rfl (by decide +kernel) ⟨Nat.le_of_ble_eq_true rfl, Nat.le_of_ble_eq_true rfl⟩) (pV hK hPc hDc 0 rfl rfl) rfl rfl hl.1 rfl (lv_room (Nat.le_of_ble_eq_true rfl)) dX5_addNumber_11 ⟨Nat.le_of_ble_eq_true rfl, Nat.le_of_ble_eq_true rfl⟩) hS (fun q _ h => hFc q h) hFc (fun u t H_7 L_8 ht hvm hw hB hz1 hk1 hS => ?_)
      obtain ⟨hP1, -, hD1⟩ := hB
      rw [ht] at hP1
      obtain ⟨hP, hD⟩ := va_join (wr := []) (w1 := [(h0, .inr (5, [.ref a, .int (nI (k + 2))])), (a, .inl (cB, n, .inl (upd (upd f k ((x.toUInt32 >>> ((Int32.toUInt32 24) &&& Int32.toUInt32 31)).toInt32).toInt8.toInt32) (k + 1) ((x.toUInt32 >>> ((Int32.toUInt32 16) &&& Int32.toUInt32 31)).toInt32).toInt8.toInt32)))]) hP hD [0, 1] [] rfl rfl (by decide) (by decide) hk1 hFc hP1 hD1
      have hP : va_P D vwCl [(h0, .inr (5, [.ref a, .int (nI (k + 2))])), (a, .inl (cB, n, .inl (upd (upd f k ((x.toUInt32 >>> ((Int32.toUInt32 24) &&& Int32.toUInt32 31)).toInt32).toInt8.toInt32) (k + 1) ((x.toUInt32 >>> ((Int32.toUInt32 16) &&& Int32.toUInt32 31)).toInt32).toInt8.toInt32)))] H_7 := hP.sub [0, 1] rfl
      have hD : va_D A [(h0, .inr (5, [.ref a, .int (nI (k + 2))])), (a, .inl (cB, n, .inl (upd (upd f k ((x.toUInt32 >>> ((Int32.toUInt32 24) &&& Int32.toUInt32 31)).toInt32).toInt8.toInt32) (k + 1) ((x.toUInt32 >>> ((Int32.toUInt32 16) &&& Int32.toUInt32 31)).toInt32).toInt8.toInt32)))] := hD.sub [0, 1] (by decide) rfl
      try dsimp only at hw
      refine lv_iinc (v := 8) (lv' := [(2, .int 8), (0, .ref h0), (1, .int x)]) hx hb dX5_addNumber_14 hl (k := 0) rfl (by decide) (by decide) rfl (fun ls hl => ?_)
      refine lv_goto (tgt := 3) hx hb dX5_addNumber_17 (by decide) ?_
      refine lv_iload_n hx hb dX5_addNumber_3 rfl (lv_at hl 0 rfl) ?_
      refine lv_if_lt (tgt := 20) hx hb dX5_addNumber_4 (by decide) (fun c_9 => ?_) (fun c_9 => ?_)
      · exact False.elim (by revert c_9; decide)
      · refine lv_aload_n hx hb dX5_addNumber_7 rfl (lv_at hl 1 rfl) ?_
        refine lv_iload_n hx hb dX5_addNumber_8 rfl (lv_at hl 2 rfl) ?_
        refine lv_iload_n hx hb dX5_addNumber_9 rfl (lv_at hl 0 rfl) ?_
        refine lv_iushr (v := (x.toUInt32 >>> ((Int32.toUInt32 8) &&& Int32.toUInt32 31)).toInt32) hx hb dX5_addNumber_10 rfl ?_
        have hPc := hP.sub (ws' := [(h0, .inr (5, [.ref a, .int (nI (k + 2))])), (a, .inl (cB, n, .inl (upd (upd f k ((x.toUInt32 >>> ((Int32.toUInt32 24) &&& Int32.toUInt32 31)).toInt32).toInt8.toInt32) (k + 1) ((x.toUInt32 >>> ((Int32.toUInt32 16) &&& Int32.toUInt32 31)).toInt32).toInt8.toInt32)))]) [0, 1] rfl
        have hDc := hD.sub (ws' := [(h0, .inr (5, [.ref a, .int (nI (k + 2))])), (a, .inl (cB, n, .inl (upd (upd f k ((x.toUInt32 >>> ((Int32.toUInt32 24) &&& Int32.toUInt32 31)).toInt32).toInt8.toInt32) (k + 1) ((x.toUInt32 >>> ((Int32.toUInt32 16) &&& Int32.toUInt32 31)).toInt32).toInt8.toInt32)))]) [0, 1] (by decide) rfl
        have hFc := va_free (wc := [(h0, .inr (5, [.ref a, .int (nI (k + 2))])), (a, .inl (cB, n, .inl (upd (upd f k ((x.toUInt32 >>> ((Int32.toUInt32 24) &&& Int32.toUInt32 31)).toInt32).toInt8.toInt32) (k + 1) ((x.toUInt32 >>> ((Int32.toUInt32 16) &&& Int32.toUInt32 31)).toInt32).toInt8.toInt32)))]) hD hS hA [0, 1] rfl
        refine va_callv (va_runV (As := [.int ((x.toUInt32 >>> ((Int32.toUInt32 8) &&& Int32.toUInt32 31)).toInt32)]) (rest := []) ⟨hx, hb, hml, hown, hts⟩ (c_X5_addSign l D cB cI cZ H_7.size h0 a n (k + 2) (upd (upd f k ((x.toUInt32 >>> ((Int32.toUInt32 24) &&& Int32.toUInt32 31)).toInt32).toInt8.toInt32) (k + 1) ((x.toUInt32 >>> ((Int32.toUInt32 16) &&& Int32.toUInt32 31)).toInt32).toInt8.toInt32) ((x.toUInt32 >>> ((Int32.toUInt32 8) &&& Int32.toUInt32 31)).toInt32) (by omega) (by omega)) (cwV 1 hts (uV (uc8 _ (List.mem_of_getElem? (i := 5) rfl)) (uc8 _ (List.mem_of_getElem? (i := 6) rfl)) (uc8 _ (List.mem_of_getElem? (i := 7) rfl)) (uc1 _ (List.mem_of_getElem? (i := 14) rfl)) (uc8 _ (List.mem_of_getElem? (i := 8) rfl))) rfl rfl rfl (by decide +kernel) ⟨Nat.le_of_ble_eq_true rfl, Nat.le_of_ble_eq_true rfl⟩) (pV hK hPc hDc 0 rfl rfl) rfl rfl hl.1 rfl (lv_room (Nat.le_of_ble_eq_true rfl)) dX5_addNumber_11 ⟨Nat.le_of_ble_eq_true rfl, Nat.le_of_ble_eq_true rfl⟩) hS (fun q _ h => hFc q h) hFc (fun u t H_11 L_12 ht hvm hw hB hz1 hk1 hS => ?_)
        obtain ⟨hP1, -, hD1⟩ := hB
        rw [ht] at hP1
        obtain ⟨hP, hD⟩ := va_join (wr := []) (w1 := [(h0, .inr (5, [.ref a, .int (nI (k + 3))])), (a, .inl (cB, n, .inl (upd (upd (upd f k ((x.toUInt32 >>> ((Int32.toUInt32 24) &&& Int32.toUInt32 31)).toInt32).toInt8.toInt32) (k + 1) ((x.toUInt32 >>> ((Int32.toUInt32 16) &&& Int32.toUInt32 31)).toInt32).toInt8.toInt32) (k + 2) ((x.toUInt32 >>> ((Int32.toUInt32 8) &&& Int32.toUInt32 31)).toInt32).toInt8.toInt32)))]) hP hD [0, 1] [] rfl rfl (by decide) (by decide) hk1 hFc hP1 hD1
        have hP : va_P D vwCl [(h0, .inr (5, [.ref a, .int (nI (k + 3))])), (a, .inl (cB, n, .inl (upd (upd (upd f k ((x.toUInt32 >>> ((Int32.toUInt32 24) &&& Int32.toUInt32 31)).toInt32).toInt8.toInt32) (k + 1) ((x.toUInt32 >>> ((Int32.toUInt32 16) &&& Int32.toUInt32 31)).toInt32).toInt8.toInt32) (k + 2) ((x.toUInt32 >>> ((Int32.toUInt32 8) &&& Int32.toUInt32 31)).toInt32).toInt8.toInt32)))] H_11 := hP.sub [0, 1] rfl
        have hD : va_D A [(h0, .inr (5, [.ref a, .int (nI (k + 3))])), (a, .inl (cB, n, .inl (upd (upd (upd f k ((x.toUInt32 >>> ((Int32.toUInt32 24) &&& Int32.toUInt32 31)).toInt32).toInt8.toInt32) (k + 1) ((x.toUInt32 >>> ((Int32.toUInt32 16) &&& Int32.toUInt32 31)).toInt32).toInt8.toInt32) (k + 2) ((x.toUInt32 >>> ((Int32.toUInt32 8) &&& Int32.toUInt32 31)).toInt32).toInt8.toInt32)))] := hD.sub [0, 1] (by decide) rfl
        try dsimp only at hw
        refine lv_iinc (v := 0) (lv' := [(2, .int 0), (0, .ref h0), (1, .int x)]) hx hb dX5_addNumber_14 hl (k := 0) rfl (by decide) (by decide) rfl (fun ls hl => ?_)
        refine lv_goto (tgt := 3) hx hb dX5_addNumber_17 (by decide) ?_
        refine lv_iload_n hx hb dX5_addNumber_3 rfl (lv_at hl 0 rfl) ?_
        refine lv_if_lt (tgt := 20) hx hb dX5_addNumber_4 (by decide) (fun c_13 => ?_) (fun c_13 => ?_)
        · exact False.elim (by revert c_13; decide)
        · refine lv_aload_n hx hb dX5_addNumber_7 rfl (lv_at hl 1 rfl) ?_
          refine lv_iload_n hx hb dX5_addNumber_8 rfl (lv_at hl 2 rfl) ?_
          refine lv_iload_n hx hb dX5_addNumber_9 rfl (lv_at hl 0 rfl) ?_
          refine lv_iushr (v := (x.toUInt32 >>> ((Int32.toUInt32 0) &&& Int32.toUInt32 31)).toInt32) hx hb dX5_addNumber_10 rfl ?_
          have hPc := hP.sub (ws' := [(h0, .inr (5, [.ref a, .int (nI (k + 3))])), (a, .inl (cB, n, .inl (upd (upd (upd f k ((x.toUInt32 >>> ((Int32.toUInt32 24) &&& Int32.toUInt32 31)).toInt32).toInt8.toInt32) (k + 1) ((x.toUInt32 >>> ((Int32.toUInt32 16) &&& Int32.toUInt32 31)).toInt32).toInt8.toInt32) (k + 2) ((x.toUInt32 >>> ((Int32.toUInt32 8) &&& Int32.toUInt32 31)).toInt32).toInt8.toInt32)))]) [0, 1] rfl
          have hDc := hD.sub (ws' := [(h0, .inr (5, [.ref a, .int (nI (k + 3))])), (a, .inl (cB, n, .inl (upd (upd (upd f k ((x.toUInt32 >>> ((Int32.toUInt32 24) &&& Int32.toUInt32 31)).toInt32).toInt8.toInt32) (k + 1) ((x.toUInt32 >>> ((Int32.toUInt32 16) &&& Int32.toUInt32 31)).toInt32).toInt8.toInt32) (k + 2) ((x.toUInt32 >>> ((Int32.toUInt32 8) &&& Int32.toUInt32 31)).toInt32).toInt8.toInt32)))]) [0, 1] (by decide) rfl
          have hFc := va_free (wc := [(h0, .inr (5, [.ref a, .int (nI (k + 3))])), (a, .inl (cB, n, .inl (upd (upd (upd f k ((x.toUInt32 >>> ((Int32.toUInt32 24) &&& Int32.toUInt32 31)).toInt32).toInt8.toInt32) (k + 1) ((x.toUInt32 >>> ((Int32.toUInt32 16) &&& Int32.toUInt32 31)).toInt32).toInt8.toInt32) (k + 2) ((x.toUInt32 >>> ((Int32.toUInt32 8) &&& Int32.toUInt32 31)).toInt32).toInt8.toInt32)))]) hD hS hA [0, 1] rfl
          refine va_callv (va_runV (As := [.int ((x.toUInt32 >>> ((Int32.toUInt32 0) &&& Int32.toUInt32 31)).toInt32)]) (rest := []) ⟨hx, hb, hml, hown, hts⟩ (c_X5_addSign l D cB cI cZ H_11.size h0 a n (k + 3) (upd (upd (upd f k ((x.toUInt32 >>> ((Int32.toUInt32 24) &&& Int32.toUInt32 31)).toInt32).toInt8.toInt32) (k + 1) ((x.toUInt32 >>> ((Int32.toUInt32 16) &&& Int32.toUInt32 31)).toInt32).toInt8.toInt32) (k + 2) ((x.toUInt32 >>> ((Int32.toUInt32 8) &&& Int32.toUInt32 31)).toInt32).toInt8.toInt32) ((x.toUInt32 >>> ((Int32.toUInt32 0) &&& Int32.toUInt32 31)).toInt32) (by omega) (by omega)) (cwV 1 hts (uV (uc8 _ (List.mem_of_getElem? (i := 5) rfl)) (uc8 _ (List.mem_of_getElem? (i := 6) rfl)) (uc8 _ (List.mem_of_getElem? (i := 7) rfl)) (uc1 _ (List.mem_of_getElem? (i := 14) rfl)) (uc8 _ (List.mem_of_getElem? (i := 8) rfl))) rfl rfl rfl (by decide +kernel) ⟨Nat.le_of_ble_eq_true rfl, Nat.le_of_ble_eq_true rfl⟩) (pV hK hPc hDc 0 rfl rfl) rfl rfl hl.1 rfl (lv_room (Nat.le_of_ble_eq_true rfl)) dX5_addNumber_11 ⟨Nat.le_of_ble_eq_true rfl, Nat.le_of_ble_eq_true rfl⟩) hS (fun q _ h => hFc q h) hFc (fun u t H_15 L_16 ht hvm hw hB hz1 hk1 hS => ?_)
          obtain ⟨hP1, -, hD1⟩ := hB
          rw [ht] at hP1
          obtain ⟨hP, hD⟩ := va_join (wr := []) (w1 := [(h0, .inr (5, [.ref a, .int (nI (k + 4))])), (a, .inl (cB, n, .inl (upd (upd (upd (upd f k ((x.toUInt32 >>> ((Int32.toUInt32 24) &&& Int32.toUInt32 31)).toInt32).toInt8.toInt32) (k + 1) ((x.toUInt32 >>> ((Int32.toUInt32 16) &&& Int32.toUInt32 31)).toInt32).toInt8.toInt32) (k + 2) ((x.toUInt32 >>> ((Int32.toUInt32 8) &&& Int32.toUInt32 31)).toInt32).toInt8.toInt32) (k + 3) ((x.toUInt32 >>> ((Int32.toUInt32 0) &&& Int32.toUInt32 31)).toInt32).toInt8.toInt32)))]) hP hD [0, 1] [] rfl rfl (by decide) (by decide) hk1 hFc hP1 hD1
          have hP : va_P D vwCl [(h0, .inr (5, [.ref a, .int (nI (k + 4))])), (a, .inl (cB, n, .inl (upd (upd (upd (upd f k ((x.toUInt32 >>> ((Int32.toUInt32 24) &&& Int32.toUInt32 31)).toInt32).toInt8.toInt32) (k + 1) ((x.toUInt32 >>> ((Int32.toUInt32 16) &&& Int32.toUInt32 31)).toInt32).toInt8.toInt32) (k + 2) ((x.toUInt32 >>> ((Int32.toUInt32 8) &&& Int32.toUInt32 31)).toInt32).toInt8.toInt32) (k + 3) ((x.toUInt32 >>> ((Int32.toUInt32 0) &&& Int32.toUInt32 31)).toInt32).toInt8.toInt32)))] H_15 := hP.sub [0, 1] rfl
          have hD : va_D A [(h0, .inr (5, [.ref a, .int (nI (k + 4))])), (a, .inl (cB, n, .inl (upd (upd (upd (upd f k ((x.toUInt32 >>> ((Int32.toUInt32 24) &&& Int32.toUInt32 31)).toInt32).toInt8.toInt32) (k + 1) ((x.toUInt32 >>> ((Int32.toUInt32 16) &&& Int32.toUInt32 31)).toInt32).toInt8.toInt32) (k + 2) ((x.toUInt32 >>> ((Int32.toUInt32 8) &&& Int32.toUInt32 31)).toInt32).toInt8.toInt32) (k + 3) ((x.toUInt32 >>> ((Int32.toUInt32 0) &&& Int32.toUInt32 31)).toInt32).toInt8.toInt32)))] := hD.sub [0, 1] (by decide) rfl
          try dsimp only at hw
          refine lv_iinc (v := (-8)) (lv' := [(2, .int (-8)), (0, .ref h0), (1, .int x)]) hx hb dX5_addNumber_14 hl (k := 0) rfl (by decide) (by decide) rfl (fun ls hl => ?_)
          refine lv_goto (tgt := 3) hx hb dX5_addNumber_17 (by decide) ?_
          refine lv_iload_n hx hb dX5_addNumber_3 rfl (lv_at hl 0 rfl) ?_
          refine lv_if_lt (tgt := 20) hx hb dX5_addNumber_4 (by decide) (fun c_17 => ?_) (fun c_17 => ?_)
          · have hP9 := hP.sub (ws' := [(h0, .inr (5, [.ref a, .int (nI (k + 4))])), (a, .inl (cB, n, .inl (upd (upd (upd (upd f k ((x.toUInt32 >>> ((Int32.toUInt32 24) &&& Int32.toUInt32 31)).toInt32).toInt8.toInt32) (k + 1) ((x.toUInt32 >>> ((Int32.toUInt32 16) &&& Int32.toUInt32 31)).toInt32).toInt8.toInt32) (k + 2) ((x.toUInt32 >>> ((Int32.toUInt32 8) &&& Int32.toUInt32 31)).toInt32).toInt8.toInt32) (k + 3) ((x.toUInt32 >>> ((Int32.toUInt32 0) &&& Int32.toUInt32 31)).toInt32).toInt8.toInt32)))]) [0, 1] rfl
            have hD9 := hD.sub (ws' := [(h0, .inr (5, [.ref a, .int (nI (k + 4))])), (a, .inl (cB, n, .inl (upd (upd (upd (upd f k ((x.toUInt32 >>> ((Int32.toUInt32 24) &&& Int32.toUInt32 31)).toInt32).toInt8.toInt32) (k + 1) ((x.toUInt32 >>> ((Int32.toUInt32 16) &&& Int32.toUInt32 31)).toInt32).toInt8.toInt32) (k + 2) ((x.toUInt32 >>> ((Int32.toUInt32 8) &&& Int32.toUInt32 31)).toInt32).toInt8.toInt32) (k + 3) ((x.toUInt32 >>> ((Int32.toUInt32 0) &&& Int32.toUInt32 31)).toInt32).toInt8.toInt32)))]) [0, 1] (by decide) rfl
            exact W.vret hx hb hr (fun t ht hW => ⟨⟨(upd (upd (upd (upd f k ((x.toUInt32 >>> ((Int32.toUInt32 24) &&& Int32.toUInt32 31)).toInt32).toInt8.toInt32) (k + 1) ((x.toUInt32 >>> ((Int32.toUInt32 16) &&& Int32.toUInt32 31)).toInt32).toInt8.toInt32) (k + 2) ((x.toUInt32 >>> ((Int32.toUInt32 8) &&& Int32.toUInt32 31)).toInt32).toInt8.toInt32) (k + 3) ((x.toUInt32 >>> ((Int32.toUInt32 0) &&& Int32.toUInt32 31)).toInt32).toInt8.toInt32), rfl, trivial, ⟨by rw [ht]; exact hP9, va_K.moved hW.alike hK, hD9⟩⟩, hS.F ht⟩) hS.2.2 dX5_addNumber_20
          · exact False.elim (by revert c_17; decide)
set_option maxHeartbeats 4000000 in
set_option maxRecDepth 100000 in
theorem c_X5_addAll_0 (l : Launch) (D : va_G) (cB cI cZ : ClassId) (sz : Nat) (h0 : Nat) (h1 : Nat) (a : Nat) (b : Nat) (v : Int32) : Met l yX5_addAll (.code yX5_addAll cX5_addAll 3 none :: wsL_law) ({ frames := 0, cells := 0, slots := 0, locals := 0 } : Room) (va_Pc [.ref h0, .ref h1] (pIn D (pT cB cI cZ) sz [(h0, .inr (5, [.ref a, .int v])), (h1, .inr (5, [.ref b, .int 0]))])) (va_Qv (fun (u : Unit) => True) (fun (u : Unit) (t : State) => pAt D (pT cB cI cZ) (va_A [(h0, .inr (5, [.ref a, .int v])), (h1, .inr (5, [.ref b, .int 0]))] sz) [(h0, .inr (5, [.ref a, .int v])), (h1, .inr (5, [.ref b, .int 0]))] t) (va_A [(h0, .inr (5, [.ref a, .int v])), (h1, .inr (5, [.ref b, .int 0]))] sz)) 0 0 (va_A [(h0, .inr (5, [.ref a, .int v])), (h1, .inr (5, [.ref b, .int 0]))] sz) := by
  refine Met.ofW (cc := cX5_addAll) (maxL := 3) (ret := none) (by decide) rfl ?_
  intro p e s m args below meth c s₁ B hml hv
  obtain ⟨rfl, hsz, hP, hK, hD0⟩ := hv
  have hx := B.exec
  have hb := B.bytes
  have hr := B.returns
  have hts0 := atoms_spec (ws := .code yX5_addAll cX5_addAll 3 none :: wsL_law) B.pre
  have hts := fun (w : Cond) (h : w ∈ wsL_law) => hts0 w (List.mem_cons_of_mem _ h)
  have hown : s.vm.findClass RX5 = some m.cls := findClass_of_methodNamed B.named
  have hlocks := B.notSynchronized
  have hinX5 := inlX5
  subst hsz
  have hD := hD0.self (sz := s.heap.size)
  generalize hAe : va_A [(h0, .inr (5, [.ref a, .int v])), (h1, .inr (5, [.ref b, .int 0]))] s.heap.size = A at hD ⊢
  have hA : ∀ q : Nat, s.heap.size ≤ q → A q := fun q h => by rw [← hAe]; exact Or.inr h
  have hS : va_S A s.heap s.heap [] := va_S.rf
  have hP : va_P D vwCl [(h0, .inr (5, [.ref a, .int v])), (h1, .inr (5, [.ref b, .int 0]))] s.heap := hP
  have hl := lv_entry ([.ref h0, .ref h1]) (n := 3) (Nat.le_of_ble_eq_true rfl)
  rw [lg_entry_eq]
  generalize (lg_sl ([.ref h0, .ref h1]) ++ List.replicate (3 - (lg_sl ([.ref h0, .ref h1])).length) Slot.unset).toArray = ls at hl ⊢
  have hl : lv_has ls 3 [(0, .ref h0), (1, .ref h1)] := hl
  refine lv_iconst (v := 0) hx hb dX5_addAll_0 (by decide) ?_
  refine lv_istore_n (lv' := [(2, .int 0), (0, .ref h0), (1, .ref h1)]) hx hb dX5_addAll_1 rfl hl (by decide) rfl (fun ls hl => ?_)
  refine lv_iload_n hx hb dX5_addAll_2 rfl (lv_at hl 0 rfl) ?_
  refine lv_aload_n hx hb dX5_addAll_3 rfl (lv_at hl 2 rfl) ?_
  refine va_get (D := D) (ci := 5) (v := .int 0) (C := RX5) (T := TX5) (N := 2) hx hb hts hinX5 hown hK hP 1 rfl rfl 1 (by decide) (hts (.fieldLink RX5 21 "TaleReader$Text" "size" "I") (uc3 _ (List.mem_of_getElem? (i := 6) rfl))) (fun _ h9 => h9) rfl dX5_addAll_4 ?_
  refine lv_icmp_ge (tgt := 25) hx hb dX5_addAll_7 (by decide) (fun c_1 => ?_) (fun c_1 => ?_)
  · have hP9 := hP.sub (ws' := [(h0, .inr (5, [.ref a, .int v])), (h1, .inr (5, [.ref b, .int 0]))]) [0, 1] rfl
    have hD9 := hD.sub (ws' := [(h0, .inr (5, [.ref a, .int v])), (h1, .inr (5, [.ref b, .int 0]))]) [0, 1] (by decide) rfl
    exact W.vret hx hb hr (fun t ht hW => ⟨⟨(), rfl, trivial, ⟨by rw [ht]; exact hP9, va_K.moved hW.alike hK, hD9⟩⟩, hS.F ht⟩) hS.2.2 dX5_addAll_25
  · exact False.elim (by revert c_1; decide)
set_option maxHeartbeats 4000000 in
set_option maxRecDepth 100000 in
theorem c_X5_looksLikeName_0 (l : Launch) (D : va_G) (cB cI cZ : ClassId) (sz : Nat) (h0 : Nat) (a : Nat) (v : Int32) : Met l yX5_looksLikeName (.code yX5_looksLikeName cX5_looksLikeName 4 (some .boolean) :: wsL_law) ({ frames := 0, cells := 0, slots := 0, locals := 0 } : Room) (va_Pc [.ref h0, .int 0, .int 0] (pIn D (pT cB cI cZ) sz [(h0, .inr (5, [.ref a, .int v]))])) (va_Qi (fun (r : Int32) (u : Unit) => r = 0) (fun (u : Unit) (t : State) => pAt D (pT cB cI cZ) (va_A [(h0, .inr (5, [.ref a, .int v]))] sz) [(h0, .inr (5, [.ref a, .int v]))] t) (va_A [(h0, .inr (5, [.ref a, .int v]))] sz)) 0 0 (va_A [(h0, .inr (5, [.ref a, .int v]))] sz) := by
  refine Met.ofW (cc := cX5_looksLikeName) (maxL := 4) (ret := (some .boolean)) (by decide) rfl ?_
  intro p e s m args below meth c s₁ B hml hv
  obtain ⟨rfl, hsz, hP, hK, hD0⟩ := hv
  have hx := B.exec
  have hb := B.bytes
  have hr := B.returns
  have hts0 := atoms_spec (ws := .code yX5_looksLikeName cX5_looksLikeName 4 (some .boolean) :: wsL_law) B.pre
  have hts := fun (w : Cond) (h : w ∈ wsL_law) => hts0 w (List.mem_cons_of_mem _ h)
  have hown : s.vm.findClass RX5 = some m.cls := findClass_of_methodNamed B.named
  have hlocks := B.notSynchronized
  subst hsz
  have hD := hD0.self (sz := s.heap.size)
  generalize hAe : va_A [(h0, .inr (5, [.ref a, .int v]))] s.heap.size = A at hD ⊢
  have hA : ∀ q : Nat, s.heap.size ≤ q → A q := fun q h => by rw [← hAe]; exact Or.inr h
  have hS : va_S A s.heap s.heap [] := va_S.rf
  have hP : va_P D vwCl [(h0, .inr (5, [.ref a, .int v]))] s.heap := hP
  have hl := lv_entry ([.ref h0, .int 0, .int 0]) (n := 4) (Nat.le_of_ble_eq_true rfl)
  rw [lg_entry_eq]
  generalize (lg_sl ([.ref h0, .int 0, .int 0]) ++ List.replicate (4 - (lg_sl ([.ref h0, .int 0, .int 0])).length) Slot.unset).toArray = ls at hl ⊢
  have hl : lv_has ls 4 [(0, .ref h0), (1, .int 0), (2, .int 0)] := hl
  refine lv_iload_n hx hb dX5_looksLikeName_0 rfl (lv_at hl 2 rfl) ?_
  refine lv_iconst (v := 2) hx hb dX5_looksLikeName_1 (by decide) ?_
  refine lv_icmp_lt (tgt := 20) hx hb dX5_looksLikeName_2 (by decide) (fun c_1 => ?_) (fun c_1 => ?_)
  · refine lv_iconst (v := 0) hx hb dX5_looksLikeName_20 (by decide) ?_
    have hP9 := hP.sub (ws' := [(h0, .inr (5, [.ref a, .int v]))]) [0] rfl
    have hD9 := hD.sub (ws' := [(h0, .inr (5, [.ref a, .int v]))]) [0] (by decide) rfl
    exact W.zret (v := 0) hx hb hr (rfl) (fun t ht hW => ⟨⟨0, (), rfl, rfl, ⟨by rw [ht]; exact hP9, va_K.moved hW.alike hK, hD9⟩⟩, hS.F ht⟩) hS.2.2 dX5_looksLikeName_21
  · exact False.elim (by revert c_1; decide)
