set_option maxHeartbeats 4000000 in
set_option maxRecDepth 100000 in
theorem s_X3_init (l : Launch) (D : va_G) (cB cI cZ : ClassId) (E : pEt) (sz : Nat) (h0 : Nat) : Met l yX3_init (.code yX3_init cX3_init 1 none :: wsL_law) ({ frames := 1, cells := 1, slots := 80, locals := 23 } : Room) (va_Pc [.ref h0] (pInE E D (pT cB cI cZ) sz [(h0, .inr (3, [.null, .int 0]))])) (va_Qv (fun (u : Nat × (Nat → Int32)) => ∀ j, j < 80 → u.2 j = -1) (fun (u : Nat × (Nat → Int32)) (t : State) => pAt D (pT cB cI cZ) (va_A [(h0, .inr (3, [.null, .int 0]))] sz) [(h0, .inr (3, [.ref u.1, .int 0])), (u.1, .inl (cI, 80, .inl u.2))] t) (va_A [(h0, .inr (3, [.null, .int 0]))] sz)) 1 80 (va_A [(h0, .inr (3, [.null, .int 0]))] sz) := by
  refine Met.ofW (cc := cX3_init) (maxL := 1) (ret := none) (by decide) rfl ?_
  intro p e s m args below meth cd s₁ B hml hv
  obtain ⟨rfl, hsz, hP, hK, hD0, hE⟩ := hv
  have hx := B.exec
  have hb := B.bytes
  have hr := B.returns
  have hts0 := atoms_spec (ws := .code yX3_init cX3_init 1 none :: wsL_law) B.pre
  have hts := fun (w : Cond) (h : w ∈ wsL_law) => hts0 w (List.mem_cons_of_mem _ h)
  have hown : s.vm.findClass RX3 = some m.cls := findClass_of_methodNamed B.named
  have hlocks := B.notSynchronized
  have hin : meth.name = "<init>" := (name_of_methodNamed B.named B.method).1
  have hinX3 := inlX3
  subst hsz
  have hD := hD0.self (sz := s.heap.size)
  generalize hAe : va_A [(h0, .inr (3, [.null, .int 0]))] s.heap.size = A at hD hE ⊢
  have hA : ∀ q : Nat, s.heap.size ≤ q → A q := fun q h => by rw [← hAe]; exact Or.inr h
  have hS : va_S A s.heap s.heap [] := va_S.rf
  have hP : va_P D vwCl [(h0, .inr (3, [.null, .int 0]))] s.heap := hP
  have hl := lv_entry ([.ref h0]) (n := 1) (Nat.le_of_ble_eq_true rfl)
  rw [lg_entry_eq]
  generalize (lg_sl ([.ref h0]) ++ List.replicate (1 - (lg_sl ([.ref h0])).length) Slot.unset).toArray = ls at hl ⊢
  have hl : lv_has ls 1 [(0, .ref h0)] := hl
  refine lv_aload_n hx hb dX3_init_0 rfl (lv_at hl 0 rfl) ?_
  refine W.objInit hx hb hown (hts (.methodLink RX3 3 objectInit) (uc4 _ (List.mem_of_getElem? (i := 11) rfl))) (hts (.instanceMethod objectInit) (uc1 _ (List.mem_of_getElem? (i := 10) rfl))) (hts (.code objectInit ⟨#[0xb1]⟩ 1 none) (uc1 _ (List.mem_of_getElem? (i := 11) rfl))) rfl (by rw [hml]; exact hl.1) rfl dX3_init_1 (Nat.le_of_ble_eq_true rfl) (Nat.le_of_ble_eq_true rfl) ?_
  refine W.eq (g2 := F0 m 4 ls []) rfl ?_
  refine lv_aload_n hx hb dX3_init_4 rfl (lv_at hl 0 rfl) ?_
  refine lv_bipush (v := 80) hx hb dX3_init_5 (by decide) ?_
  refine pNewa (D := D) (cl := vwCl) (ty := .int) (N' := 80) (a0 := (80, .inl (fun _ => 0))) (cA := cI) hx hb (hts (.arrayClass .int) (uc3 _ (List.mem_of_getElem? (i := 13) rfl))) rfl hK hP hD hS hA (fun _ => rfl) (by decide) (by decide) (by decide) (Nat.le_of_ble_eq_true rfl) (Nat.le_of_ble_eq_true rfl) dX3_init_7 1 rfl (fun q_1 H_2 hP hD hS => ?_)
  have hP : va_P D vwCl [(h0, .inr (3, [.null, .int 0])), (q_1, .inl (cI, 80, .inl (fun _ => 0)))] H_2 := hP
  have hD : va_D A [(h0, .inr (3, [.null, .int 0])), (q_1, .inl (cI, 80, .inl (fun _ => 0)))] := hD
  refine W.widen (k := 1) (n := 80) (by decide) (by decide) ?_
  refine va_putF (D := D) (ci := 3) (v := .ref q_1) (ty := (.array .int)) (C := RX3) (T := TX3) (N := 2) hx hb hts hinX3 tyX3 tyX3_ok nmX3 hown hK hP hD hS 0 rfl rfl 0 (by decide) (hts (.fieldLink RX3 9 "TaleReader$Pins" "targets" "[I") (uc4 _ (List.mem_of_getElem? (i := 12) rfl))) (fun _ h9 => h9) rfl hin rfl (by decide +kernel) rfl rfl (Nat.le_of_ble_eq_true rfl) dX3_init_9 (fun H_3 L_4 hP hD hS => ?_)
  have hP : va_P D vwCl [(h0, .inr (3, [.ref q_1, .int 0])), (q_1, .inl (cI, 80, .inl (fun _ => 0)))] H_3 := hP
  have hD : va_D A [(h0, .inr (3, [.ref q_1, .int 0])), (q_1, .inl (cI, 80, .inl (fun _ => 0)))] := hD
  refine lv_aload_n hx hb dX3_init_12 rfl (lv_at hl 0 rfl) ?_
  refine va_get (D := D) (ci := 3) (v := .ref q_1) (C := RX3) (T := TX3) (N := 2) hx hb hts hinX3 hown hK hP 0 rfl rfl 0 (by decide) (hts (.fieldLink RX3 9 "TaleReader$Pins" "targets" "[I") (uc4 _ (List.mem_of_getElem? (i := 12) rfl))) (fun _ h9 => h9) rfl dX3_init_13 ?_
  refine lv_iconst (v := (-1)) hx hb dX3_init_16 (by decide) ?_
  have hPc := hP.sub (ws' := [(q_1, .inl (cI, 80, .inl (fun _ => 0)))]) [1] rfl
  have hDc := hD.sub (ws' := [(q_1, .inl (cI, 80, .inl (fun _ => 0)))]) [1] (by decide) rfl
  have hFc := va_free (wc := [(q_1, .inl (cI, 80, .inl (fun _ => 0)))]) hD hS hA [1] rfl
  refine va_callv (va_runS (As := [.ref q_1, .int (-1)]) (rest := []) ⟨hx, hb, hml, hown, hts⟩ (s_fill l D cB cI cZ E H_3.size q_1 80 (fun _ => 0) (-1) (by first | assumption | omega)) (va_cwS 2 hts (uS (uc4 _ (List.mem_of_getElem? (i := 14) rfl)) (uc4 _ (List.mem_of_getElem? (i := 15) rfl)) (uc4 _ (List.mem_of_getElem? (i := 16) rfl)) (uc4 _ (List.mem_of_getElem? (i := 17) rfl))) rfl rfl rfl (by decide +kernel) ⟨Nat.le_of_ble_eq_true rfl, Nat.le_of_ble_eq_true rfl⟩) (pSE hE hS hFc hK hPc hDc) rfl rfl hl.1 rfl (lv_room (Nat.le_of_ble_eq_true rfl)) dX3_init_17 ⟨Nat.le_of_ble_eq_true rfl, Nat.le_of_ble_eq_true rfl⟩) hS (fun q _ h => hFc q h) hFc (fun u t H_6 L_7 ht hvm hw hB hz1 hk1 hS => ?_)
  obtain ⟨g_8, rfl⟩ : ∃ z, z = u := ⟨_, rfl⟩
  obtain ⟨hP1, -, hD1⟩ := hB
  rw [ht] at hP1
  obtain ⟨hP, hD⟩ := va_join (wr := [(h0, .inr (3, [.ref q_1, .int 0]))]) (w1 := [(q_1, .inl (cI, 80, .inl g_8))]) hP hD [1] [0] rfl rfl (by decide) (by decide) hk1 hFc hP1 hD1
  have hP : va_P D vwCl [(h0, .inr (3, [.ref q_1, .int 0])), (q_1, .inl (cI, 80, .inl g_8))] H_6 := hP.sub [0, 1] rfl
  have hD : va_D A [(h0, .inr (3, [.ref q_1, .int 0])), (q_1, .inl (cI, 80, .inl g_8))] := hD.sub [0, 1] (by decide) rfl
  try dsimp only at hw
  have h_9 := hw
  refine lv_aload_n hx hb dX3_init_20 rfl (lv_at hl 0 rfl) ?_
  refine lv_iconst (v := 0) hx hb dX3_init_21 (by decide) ?_
  refine va_put (D := D) (ci := 3) (v := .int 0) (ty := .int) (C := RX3) (T := TX3) (N := 2) hx hb hts hinX3 tyX3 tyX3_ok nmX3 hown hK hP hD hS 0 rfl rfl 1 (by decide) (hts (.fieldLink RX3 21 "TaleReader$Pins" "count" "I") (uc4 _ (List.mem_of_getElem? (i := 13) rfl))) (fun _ h9 => h9) rfl (by decide +kernel) rfl rfl (Nat.le_of_ble_eq_true rfl) dX3_init_22 (fun H_10 L_11 hP hD hS => ?_)
  have hP : va_P D vwCl [(h0, .inr (3, [.ref q_1, .int 0])), (q_1, .inl (cI, 80, .inl g_8))] H_10 := hP
  have hD : va_D A [(h0, .inr (3, [.ref q_1, .int 0])), (q_1, .inl (cI, 80, .inl g_8))] := hD
  have hP9 := hP.sub (ws' := [(h0, .inr (3, [.ref q_1, .int 0])), (q_1, .inl (cI, 80, .inl g_8))]) [0, 1] rfl
  have hD9 := hD.sub (ws' := [(h0, .inr (3, [.ref q_1, .int 0])), (q_1, .inl (cI, 80, .inl g_8))]) [0, 1] (by decide) rfl
  exact W.vret hx hb hr (fun t ht hW => ⟨⟨(q_1, g_8), rfl, (by first | assumption | rfl | omega), ⟨by rw [ht]; exact hP9, va_K.moved hW.alike hK, hD9⟩⟩, hS.F ht⟩) hS.2.2 dX3_init_25
set_option maxHeartbeats 4000000 in
set_option maxRecDepth 100000 in
theorem s_X3_size (l : Launch) (D : va_G) (cB cI cZ : ClassId) (E : pEt) (sz : Nat) (h0 : Nat) (a : Nat) (v : Int32) : Met l yX3_size (.code yX3_size cX3_size 1 (some .int) :: wsL_law) ({ frames := 0, cells := 0, slots := 0, locals := 0 } : Room) (va_Pc [.ref h0] (pInE E D (pT cB cI cZ) sz [(h0, .inr (3, [.ref a, .int v]))])) (va_Qi (fun (r : Int32) (u : Unit) => v = r) (fun (u : Unit) (t : State) => pAt D (pT cB cI cZ) (va_A [(h0, .inr (3, [.ref a, .int v]))] sz) [(h0, .inr (3, [.ref a, .int v]))] t) (va_A [(h0, .inr (3, [.ref a, .int v]))] sz)) 0 0 (va_A [(h0, .inr (3, [.ref a, .int v]))] sz) := by
  refine Met.ofW (cc := cX3_size) (maxL := 1) (ret := (some .int)) (by decide) rfl ?_
  intro p e s m args below meth cd s₁ B hml hv
  obtain ⟨rfl, hsz, hP, hK, hD0, hE⟩ := hv
  have hx := B.exec
  have hb := B.bytes
  have hr := B.returns
  have hts0 := atoms_spec (ws := .code yX3_size cX3_size 1 (some .int) :: wsL_law) B.pre
  have hts := fun (w : Cond) (h : w ∈ wsL_law) => hts0 w (List.mem_cons_of_mem _ h)
  have hown : s.vm.findClass RX3 = some m.cls := findClass_of_methodNamed B.named
  have hlocks := B.notSynchronized
  have hinX3 := inlX3
  subst hsz
  have hD := hD0.self (sz := s.heap.size)
  generalize hAe : va_A [(h0, .inr (3, [.ref a, .int v]))] s.heap.size = A at hD hE ⊢
  have hA : ∀ q : Nat, s.heap.size ≤ q → A q := fun q h => by rw [← hAe]; exact Or.inr h
  have hS : va_S A s.heap s.heap [] := va_S.rf
  have hP : va_P D vwCl [(h0, .inr (3, [.ref a, .int v]))] s.heap := hP
  have hl := lv_entry ([.ref h0]) (n := 1) (Nat.le_of_ble_eq_true rfl)
  rw [lg_entry_eq]
  generalize (lg_sl ([.ref h0]) ++ List.replicate (1 - (lg_sl ([.ref h0])).length) Slot.unset).toArray = ls at hl ⊢
  have hl : lv_has ls 1 [(0, .ref h0)] := hl
  refine lv_aload_n hx hb dX3_size_0 rfl (lv_at hl 0 rfl) ?_
  refine va_get (D := D) (ci := 3) (v := .int v) (C := RX3) (T := TX3) (N := 2) hx hb hts hinX3 hown hK hP 0 rfl rfl 1 (by decide) (hts (.fieldLink RX3 21 "TaleReader$Pins" "count" "I") (uc4 _ (List.mem_of_getElem? (i := 13) rfl))) (fun _ h9 => h9) rfl dX3_size_1 ?_
  have hP9 := hP.sub (ws' := [(h0, .inr (3, [.ref a, .int v]))]) [0] rfl
  have hD9 := hD.sub (ws' := [(h0, .inr (3, [.ref a, .int v]))]) [0] (by decide) rfl
  exact W.iret (v := v) hx hb hr (fun t ht hW => ⟨⟨v, (), rfl, rfl, ⟨by rw [ht]; exact hP9, va_K.moved hW.alike hK, hD9⟩⟩, hS.F ht⟩) hS.2.2 dX3_size_4
set_option maxHeartbeats 4000000 in
set_option maxRecDepth 100000 in
theorem s_X3_clear (l : Launch) (D : va_G) (cB cI cZ : ClassId) (E : pEt) (sz : Nat) (h0 : Nat) (a : Nat) (v : Int32) (f : Nat → Int32) : Met l yX3_clear (.code yX3_clear cX3_clear 1 none :: wsL_law) ({ frames := 1, cells := 0, slots := 0, locals := 23 } : Room) (va_Pc [.ref h0] (pInE E D (pT cB cI cZ) sz [(h0, .inr (3, [.ref a, .int v])), (a, .inl (cI, 80, .inl f))])) (va_Qv (fun (u : (Nat → Int32)) => ∀ j, j < 80 → u j = -1) (fun (u : (Nat → Int32)) (t : State) => pAt D (pT cB cI cZ) (va_A [(h0, .inr (3, [.ref a, .int v])), (a, .inl (cI, 80, .inl f))] sz) [(h0, .inr (3, [.ref a, .int 0])), (a, .inl (cI, 80, .inl u))] t) (va_A [(h0, .inr (3, [.ref a, .int v])), (a, .inl (cI, 80, .inl f))] sz)) 0 0 (va_A [(h0, .inr (3, [.ref a, .int v])), (a, .inl (cI, 80, .inl f))] sz) := by
  refine Met.ofW (cc := cX3_clear) (maxL := 1) (ret := none) (by decide) rfl ?_
  intro p e s m args below meth cd s₁ B hml hv
  obtain ⟨rfl, hsz, hP, hK, hD0, hE⟩ := hv
  have hx := B.exec
  have hb := B.bytes
  have hr := B.returns
  have hts0 := atoms_spec (ws := .code yX3_clear cX3_clear 1 none :: wsL_law) B.pre
  have hts := fun (w : Cond) (h : w ∈ wsL_law) => hts0 w (List.mem_cons_of_mem _ h)
  have hown : s.vm.findClass RX3 = some m.cls := findClass_of_methodNamed B.named
  have hlocks := B.notSynchronized
  have hinX3 := inlX3
  subst hsz
  have hD := hD0.self (sz := s.heap.size)
  generalize hAe : va_A [(h0, .inr (3, [.ref a, .int v])), (a, .inl (cI, 80, .inl f))] s.heap.size = A at hD hE ⊢
  have hA : ∀ q : Nat, s.heap.size ≤ q → A q := fun q h => by rw [← hAe]; exact Or.inr h
  have hS : va_S A s.heap s.heap [] := va_S.rf
  have hP : va_P D vwCl [(h0, .inr (3, [.ref a, .int v])), (a, .inl (cI, 80, .inl f))] s.heap := hP
  have hl := lv_entry ([.ref h0]) (n := 1) (Nat.le_of_ble_eq_true rfl)
  rw [lg_entry_eq]
  generalize (lg_sl ([.ref h0]) ++ List.replicate (1 - (lg_sl ([.ref h0])).length) Slot.unset).toArray = ls at hl ⊢
  have hl : lv_has ls 1 [(0, .ref h0)] := hl
  refine lv_aload_n hx hb dX3_clear_0 rfl (lv_at hl 0 rfl) ?_
  refine va_get (D := D) (ci := 3) (v := .ref a) (C := RX3) (T := TX3) (N := 2) hx hb hts hinX3 hown hK hP 0 rfl rfl 0 (by decide) (hts (.fieldLink RX3 9 "TaleReader$Pins" "targets" "[I") (uc4 _ (List.mem_of_getElem? (i := 12) rfl))) (fun _ h9 => h9) rfl dX3_clear_1 ?_
  refine lv_iconst (v := (-1)) hx hb dX3_clear_4 (by decide) ?_
  have hPc := hP.sub (ws' := [(a, .inl (cI, 80, .inl f))]) [1] rfl
  have hDc := hD.sub (ws' := [(a, .inl (cI, 80, .inl f))]) [1] (by decide) rfl
  have hFc := va_free (wc := [(a, .inl (cI, 80, .inl f))]) hD hS hA [1] rfl
  refine va_callv (va_runS (As := [.ref a, .int (-1)]) (rest := []) ⟨hx, hb, hml, hown, hts⟩ (s_fill l D cB cI cZ E s.heap.size a 80 f (-1) (by first | assumption | omega)) (va_cwS 2 hts (uS (uc4 _ (List.mem_of_getElem? (i := 14) rfl)) (uc4 _ (List.mem_of_getElem? (i := 15) rfl)) (uc4 _ (List.mem_of_getElem? (i := 16) rfl)) (uc4 _ (List.mem_of_getElem? (i := 17) rfl))) rfl rfl rfl (by decide +kernel) ⟨Nat.le_of_ble_eq_true rfl, Nat.le_of_ble_eq_true rfl⟩) (pSE hE hS hFc hK hPc hDc) rfl rfl hl.1 rfl (lv_room (Nat.le_of_ble_eq_true rfl)) dX3_clear_5 ⟨Nat.le_of_ble_eq_true rfl, Nat.le_of_ble_eq_true rfl⟩) hS (fun q _ h => hFc q h) hFc (fun u t H_2 L_3 ht hvm hw hB hz1 hk1 hS => ?_)
  obtain ⟨g_4, rfl⟩ : ∃ z, z = u := ⟨_, rfl⟩
  obtain ⟨hP1, -, hD1⟩ := hB
  rw [ht] at hP1
  obtain ⟨hP, hD⟩ := va_join (wr := [(h0, .inr (3, [.ref a, .int v]))]) (w1 := [(a, .inl (cI, 80, .inl g_4))]) hP hD [1] [0] rfl rfl (by decide) (by decide) hk1 hFc hP1 hD1
  have hP : va_P D vwCl [(h0, .inr (3, [.ref a, .int v])), (a, .inl (cI, 80, .inl g_4))] H_2 := hP.sub [0, 1] rfl
  have hD : va_D A [(h0, .inr (3, [.ref a, .int v])), (a, .inl (cI, 80, .inl g_4))] := hD.sub [0, 1] (by decide) rfl
  try dsimp only at hw
  have h_5 := hw
  refine lv_aload_n hx hb dX3_clear_8 rfl (lv_at hl 0 rfl) ?_
  refine lv_iconst (v := 0) hx hb dX3_clear_9 (by decide) ?_
  refine va_put (D := D) (ci := 3) (v := .int 0) (ty := .int) (C := RX3) (T := TX3) (N := 2) hx hb hts hinX3 tyX3 tyX3_ok nmX3 hown hK hP hD hS 0 rfl rfl 1 (by decide) (hts (.fieldLink RX3 21 "TaleReader$Pins" "count" "I") (uc4 _ (List.mem_of_getElem? (i := 13) rfl))) (fun _ h9 => h9) rfl (by decide +kernel) rfl rfl (Nat.le_of_ble_eq_true rfl) dX3_clear_10 (fun H_6 L_7 hP hD hS => ?_)
  have hP : va_P D vwCl [(h0, .inr (3, [.ref a, .int 0])), (a, .inl (cI, 80, .inl g_4))] H_6 := hP
  have hD : va_D A [(h0, .inr (3, [.ref a, .int 0])), (a, .inl (cI, 80, .inl g_4))] := hD
  have hP9 := hP.sub (ws' := [(h0, .inr (3, [.ref a, .int 0])), (a, .inl (cI, 80, .inl g_4))]) [0, 1] rfl
  have hD9 := hD.sub (ws' := [(h0, .inr (3, [.ref a, .int 0])), (a, .inl (cI, 80, .inl g_4))]) [0, 1] (by decide) rfl
  exact W.vret hx hb hr (fun t ht hW => ⟨⟨g_4, rfl, (by first | assumption | rfl | omega), ⟨by rw [ht]; exact hP9, va_K.moved hW.alike hK, hD9⟩⟩, hS.F ht⟩) hS.2.2 dX3_clear_13
set_option maxHeartbeats 4000000 in
set_option maxRecDepth 100000 in
theorem s_X3_targetOf (l : Launch) (D : va_G) (cB cI cZ : ClassId) (E : pEt) (sz : Nat) (h0 : Nat) (x : Int32) (a : Nat) (v : Int32) (f : Nat → Int32) : Met l yX3_targetOf (.code yX3_targetOf cX3_targetOf 2 (some .int) :: wsL_law) ({ frames := 0, cells := 0, slots := 0, locals := 0 } : Room) (va_Pc [.ref h0, .int x] (pInE E D (pT cB cI cZ) sz [(h0, .inr (3, [.ref a, .int v])), (a, .inl (cI, 80, .inl f))])) (va_Qi (fun (r : Int32) (u : Unit) => (((-1) = r) ∧ (x < 0 ∨ 80 ≤ x)) ∨ (((f x.toNatClampNeg) = r) ∧ (¬ x < 0) ∧ (¬ 80 ≤ x))) (fun (u : Unit) (t : State) => pAt D (pT cB cI cZ) (va_A [(h0, .inr (3, [.ref a, .int v])), (a, .inl (cI, 80, .inl f))] sz) [(h0, .inr (3, [.ref a, .int v])), (a, .inl (cI, 80, .inl f))] t) (va_A [(h0, .inr (3, [.ref a, .int v])), (a, .inl (cI, 80, .inl f))] sz)) 0 0 (va_A [(h0, .inr (3, [.ref a, .int v])), (a, .inl (cI, 80, .inl f))] sz) := by
  refine Met.ofW (cc := cX3_targetOf) (maxL := 2) (ret := (some .int)) (by decide) rfl ?_
  intro p e s m args below meth cd s₁ B hml hv
  obtain ⟨rfl, hsz, hP, hK, hD0, hE⟩ := hv
  have hx := B.exec
  have hb := B.bytes
  have hr := B.returns
  have hts0 := atoms_spec (ws := .code yX3_targetOf cX3_targetOf 2 (some .int) :: wsL_law) B.pre
  have hts := fun (w : Cond) (h : w ∈ wsL_law) => hts0 w (List.mem_cons_of_mem _ h)
  have hown : s.vm.findClass RX3 = some m.cls := findClass_of_methodNamed B.named
  have hlocks := B.notSynchronized
  have hinX3 := inlX3
  subst hsz
  have hD := hD0.self (sz := s.heap.size)
  generalize hAe : va_A [(h0, .inr (3, [.ref a, .int v])), (a, .inl (cI, 80, .inl f))] s.heap.size = A at hD hE ⊢
  have hA : ∀ q : Nat, s.heap.size ≤ q → A q := fun q h => by rw [← hAe]; exact Or.inr h
  have hS : va_S A s.heap s.heap [] := va_S.rf
  have hP : va_P D vwCl [(h0, .inr (3, [.ref a, .int v])), (a, .inl (cI, 80, .inl f))] s.heap := hP
  have hl := lv_entry ([.ref h0, .int x]) (n := 2) (Nat.le_of_ble_eq_true rfl)
  rw [lg_entry_eq]
  generalize (lg_sl ([.ref h0, .int x]) ++ List.replicate (2 - (lg_sl ([.ref h0, .int x])).length) Slot.unset).toArray = ls at hl ⊢
  have hl : lv_has ls 2 [(0, .ref h0), (1, .int x)] := hl
  refine lv_iload_n hx hb dX3_targetOf_0 rfl (lv_at hl 1 rfl) ?_
  refine lv_if_lt (tgt := 19) hx hb dX3_targetOf_1 (by decide) (fun c_1 => ?_) (fun c_1 => ?_)
  · refine lv_iconst (v := (-1)) hx hb dX3_targetOf_19 (by decide) ?_
    have hP9 := hP.sub (ws' := [(h0, .inr (3, [.ref a, .int v])), (a, .inl (cI, 80, .inl f))]) [0, 1] rfl
    have hD9 := hD.sub (ws' := [(h0, .inr (3, [.ref a, .int v])), (a, .inl (cI, 80, .inl f))]) [0, 1] (by decide) rfl
    exact W.iret (v := (-1)) hx hb hr (fun t ht hW => ⟨⟨(-1), (), rfl, Or.inl (⟨rfl, Or.inl c_1⟩), ⟨by rw [ht]; exact hP9, va_K.moved hW.alike hK, hD9⟩⟩, hS.F ht⟩) hS.2.2 dX3_targetOf_20
  · refine lv_iload_n hx hb dX3_targetOf_4 rfl (lv_at hl 1 rfl) ?_
    refine lv_bipush (v := 80) hx hb dX3_targetOf_5 (by decide) ?_
    refine lv_icmp_ge (tgt := 19) hx hb dX3_targetOf_7 (by decide) (fun c_2 => ?_) (fun c_2 => ?_)
    · refine lv_iconst (v := (-1)) hx hb dX3_targetOf_19 (by decide) ?_
      have hP9 := hP.sub (ws' := [(h0, .inr (3, [.ref a, .int v])), (a, .inl (cI, 80, .inl f))]) [0, 1] rfl
      have hD9 := hD.sub (ws' := [(h0, .inr (3, [.ref a, .int v])), (a, .inl (cI, 80, .inl f))]) [0, 1] (by decide) rfl
      exact W.iret (v := (-1)) hx hb hr (fun t ht hW => ⟨⟨(-1), (), rfl, Or.inl (⟨rfl, Or.inr c_2⟩), ⟨by rw [ht]; exact hP9, va_K.moved hW.alike hK, hD9⟩⟩, hS.F ht⟩) hS.2.2 dX3_targetOf_20
    · refine lv_aload_n hx hb dX3_targetOf_10 rfl (lv_at hl 0 rfl) ?_
      refine va_get (D := D) (ci := 3) (v := .ref a) (C := RX3) (T := TX3) (N := 2) hx hb hts hinX3 hown hK hP 0 rfl rfl 0 (by decide) (hts (.fieldLink RX3 9 "TaleReader$Pins" "targets" "[I") (uc4 _ (List.mem_of_getElem? (i := 12) rfl))) (fun _ h9 => h9) rfl dX3_targetOf_11 ?_
      refine lv_iload_n hx hb dX3_targetOf_14 rfl (lv_at hl 1 rfl) ?_
      refine va_iald (D := D) hx hb hK hP 1 1 rfl rfl (pIx c_1 c_2 (by decide)) dX3_targetOf_15 ?_
      refine lv_topi (fun z_3 ez_3 => ?_)
      obtain rfl : z_3 = f x.toNatClampNeg := ez_3.trans (rfl)
      refine lv_goto (tgt := 20) hx hb dX3_targetOf_16 (by decide) ?_
      have hP9 := hP.sub (ws' := [(h0, .inr (3, [.ref a, .int v])), (a, .inl (cI, 80, .inl f))]) [0, 1] rfl
      have hD9 := hD.sub (ws' := [(h0, .inr (3, [.ref a, .int v])), (a, .inl (cI, 80, .inl f))]) [0, 1] (by decide) rfl
      exact W.iret (v := f x.toNatClampNeg) hx hb hr (fun t ht hW => ⟨⟨f x.toNatClampNeg, (), rfl, Or.inr ((⟨rfl, by first | assumption | rfl | omega, by first | assumption | rfl | omega⟩)), ⟨by rw [ht]; exact hP9, va_K.moved hW.alike hK, hD9⟩⟩, hS.F ht⟩) hS.2.2 dX3_targetOf_20
set_option maxHeartbeats 4000000 in
set_option maxRecDepth 100000 in
theorem s_X3_put (l : Launch) (D : va_G) (cB cI cZ : ClassId) (E : pEt) (sz : Nat) (h0 : Nat) (x : Int32) (y : Int32) (a : Nat) (v : Int32) (f : Nat → Int32) : Met l yX3_put (.code yX3_put cX3_put 3 none :: wsL_law) ({ frames := 0, cells := 0, slots := 0, locals := 0 } : Room) (va_Pc [.ref h0, .int x, .int y] (pInE E D (pT cB cI cZ) sz [(h0, .inr (3, [.ref a, .int v])), (a, .inl (cI, 80, .inl f))])) (va_Qv (fun (u : Int32 × (Nat → Int32)) => True) (fun (u : Int32 × (Nat → Int32)) (t : State) => pAt D (pT cB cI cZ) (va_A [(h0, .inr (3, [.ref a, .int v])), (a, .inl (cI, 80, .inl f))] sz) [(h0, .inr (3, [.ref a, .int u.1])), (a, .inl (cI, 80, .inl u.2))] t) (va_A [(h0, .inr (3, [.ref a, .int v])), (a, .inl (cI, 80, .inl f))] sz)) 0 0 (va_A [(h0, .inr (3, [.ref a, .int v])), (a, .inl (cI, 80, .inl f))] sz) := by
  refine Met.ofW (cc := cX3_put) (maxL := 3) (ret := none) (by decide) rfl ?_
  intro p e s m args below meth cd s₁ B hml hv
  obtain ⟨rfl, hsz, hP, hK, hD0, hE⟩ := hv
  have hx := B.exec
  have hb := B.bytes
  have hr := B.returns
  have hts0 := atoms_spec (ws := .code yX3_put cX3_put 3 none :: wsL_law) B.pre
  have hts := fun (w : Cond) (h : w ∈ wsL_law) => hts0 w (List.mem_cons_of_mem _ h)
  have hown : s.vm.findClass RX3 = some m.cls := findClass_of_methodNamed B.named
  have hlocks := B.notSynchronized
  have hinX3 := inlX3
  subst hsz
  have hD := hD0.self (sz := s.heap.size)
  generalize hAe : va_A [(h0, .inr (3, [.ref a, .int v])), (a, .inl (cI, 80, .inl f))] s.heap.size = A at hD hE ⊢
  have hA : ∀ q : Nat, s.heap.size ≤ q → A q := fun q h => by rw [← hAe]; exact Or.inr h
  have hS : va_S A s.heap s.heap [] := va_S.rf
  have hP : va_P D vwCl [(h0, .inr (3, [.ref a, .int v])), (a, .inl (cI, 80, .inl f))] s.heap := hP
  have hl := lv_entry ([.ref h0, .int x, .int y]) (n := 3) (Nat.le_of_ble_eq_true rfl)
  rw [lg_entry_eq]
  generalize (lg_sl ([.ref h0, .int x, .int y]) ++ List.replicate (3 - (lg_sl ([.ref h0, .int x, .int y])).length) Slot.unset).toArray = ls at hl ⊢
  have hl : lv_has ls 3 [(0, .ref h0), (1, .int x), (2, .int y)] := hl
  refine lv_iload_n hx hb dX3_put_0 rfl (lv_at hl 1 rfl) ?_
  refine lv_if_lt (tgt := 37) hx hb dX3_put_1 (by decide) (fun c_1 => ?_) (fun c_1 => ?_)
  · have hP9 := hP.sub (ws' := [(h0, .inr (3, [.ref a, .int v])), (a, .inl (cI, 80, .inl f))]) [0, 1] rfl
    have hD9 := hD.sub (ws' := [(h0, .inr (3, [.ref a, .int v])), (a, .inl (cI, 80, .inl f))]) [0, 1] (by decide) rfl
    exact W.vret hx hb hr (fun t ht hW => ⟨⟨(v, f), rfl, trivial, ⟨by rw [ht]; exact hP9, va_K.moved hW.alike hK, hD9⟩⟩, hS.F ht⟩) hS.2.2 dX3_put_37
  · refine lv_iload_n hx hb dX3_put_4 rfl (lv_at hl 1 rfl) ?_
    refine lv_bipush (v := 80) hx hb dX3_put_5 (by decide) ?_
    refine lv_icmp_ge (tgt := 37) hx hb dX3_put_7 (by decide) (fun c_2 => ?_) (fun c_2 => ?_)
    · have hP9 := hP.sub (ws' := [(h0, .inr (3, [.ref a, .int v])), (a, .inl (cI, 80, .inl f))]) [0, 1] rfl
      have hD9 := hD.sub (ws' := [(h0, .inr (3, [.ref a, .int v])), (a, .inl (cI, 80, .inl f))]) [0, 1] (by decide) rfl
      exact W.vret hx hb hr (fun t ht hW => ⟨⟨(v, f), rfl, trivial, ⟨by rw [ht]; exact hP9, va_K.moved hW.alike hK, hD9⟩⟩, hS.F ht⟩) hS.2.2 dX3_put_37
    · refine lv_aload_n hx hb dX3_put_10 rfl (lv_at hl 0 rfl) ?_
      refine va_get (D := D) (ci := 3) (v := .ref a) (C := RX3) (T := TX3) (N := 2) hx hb hts hinX3 hown hK hP 0 rfl rfl 0 (by decide) (hts (.fieldLink RX3 9 "TaleReader$Pins" "targets" "[I") (uc4 _ (List.mem_of_getElem? (i := 12) rfl))) (fun _ h9 => h9) rfl dX3_put_11 ?_
      refine lv_iload_n hx hb dX3_put_14 rfl (lv_at hl 1 rfl) ?_
      refine va_iald (D := D) hx hb hK hP 1 1 rfl rfl (pIx (n := 80) (by assumption) (by assumption) (by decide)) dX3_put_15 ?_
      refine lv_topi (fun v_3 ev_3 => ?_)
      refine lv_iconst (v := (-1)) hx hb dX3_put_16 (by decide) ?_
      refine lv_icmp_ne (tgt := 30) hx hb dX3_put_17 (by decide) (fun c_4 => ?_) (fun c_4 => ?_)
      · refine lv_aload_n hx hb dX3_put_30 rfl (lv_at hl 0 rfl) ?_
        refine va_get (D := D) (ci := 3) (v := .ref a) (C := RX3) (T := TX3) (N := 2) hx hb hts hinX3 hown hK hP 0 rfl rfl 0 (by decide) (hts (.fieldLink RX3 9 "TaleReader$Pins" "targets" "[I") (uc4 _ (List.mem_of_getElem? (i := 12) rfl))) (fun _ h9 => h9) rfl dX3_put_31 ?_
        refine lv_iload_n hx hb dX3_put_34 rfl (lv_at hl 1 rfl) ?_
        refine lv_iload_n hx hb dX3_put_35 rfl (lv_at hl 2 rfl) ?_
        refine va_iast (D := D) hx hb hK hP hD hS 1 1 rfl rfl (pIx (n := 80) (by assumption) (by assumption) (by decide)) dX3_put_36 (fun H_5 L_6 hP hD hS => ?_)
        obtain ⟨g_7, eg_7⟩ : ∃ gg : Nat → Int32, gg = upd f (x).toNatClampNeg y := ⟨_, rfl⟩
        have hP : va_P D vwCl [(h0, .inr (3, [.ref a, .int v])), (a, .inl (cI, 80, .inl g_7))] H_5 := by rw [eg_7]; exact hP
        have hD : va_D A [(h0, .inr (3, [.ref a, .int v])), (a, .inl (cI, 80, .inl g_7))] := by rw [eg_7]; exact hD
        have hP9 := hP.sub (ws' := [(h0, .inr (3, [.ref a, .int v])), (a, .inl (cI, 80, .inl g_7))]) [0, 1] rfl
        have hD9 := hD.sub (ws' := [(h0, .inr (3, [.ref a, .int v])), (a, .inl (cI, 80, .inl g_7))]) [0, 1] (by decide) rfl
        exact W.vret hx hb hr (fun t ht hW => ⟨⟨(v, g_7), rfl, trivial, ⟨by rw [ht]; exact hP9, va_K.moved hW.alike hK, hD9⟩⟩, hS.F ht⟩) hS.2.2 dX3_put_37
      · refine lv_aload_n hx hb dX3_put_20 rfl (lv_at hl 0 rfl) ?_
        refine lv_dup hx hb dX3_put_21 rfl ?_
        refine va_get (D := D) (ci := 3) (v := .int v) (C := RX3) (T := TX3) (N := 2) hx hb hts hinX3 hown hK hP 0 rfl rfl 1 (by decide) (hts (.fieldLink RX3 21 "TaleReader$Pins" "count" "I") (uc4 _ (List.mem_of_getElem? (i := 13) rfl))) (fun _ h9 => h9) rfl dX3_put_22 ?_
        refine lv_iconst (v := 1) hx hb dX3_put_25 (by decide) ?_
        refine lv_iadd hx hb dX3_put_26 ?_
        refine lv_topi (fun v_8 ev_8 => ?_)
        refine va_put (D := D) (ci := 3) (v := .int v_8) (ty := .int) (C := RX3) (T := TX3) (N := 2) hx hb hts hinX3 tyX3 tyX3_ok nmX3 hown hK hP hD hS 0 rfl rfl 1 (by decide) (hts (.fieldLink RX3 21 "TaleReader$Pins" "count" "I") (uc4 _ (List.mem_of_getElem? (i := 13) rfl))) (fun _ h9 => h9) rfl (by decide +kernel) rfl rfl (Nat.le_of_ble_eq_true rfl) dX3_put_27 (fun H_9 L_10 hP hD hS => ?_)
        have hP : va_P D vwCl [(h0, .inr (3, [.ref a, .int v_8])), (a, .inl (cI, 80, .inl f))] H_9 := hP
        have hD : va_D A [(h0, .inr (3, [.ref a, .int v_8])), (a, .inl (cI, 80, .inl f))] := hD
        refine lv_aload_n hx hb dX3_put_30 rfl (lv_at hl 0 rfl) ?_
        refine va_get (D := D) (ci := 3) (v := .ref a) (C := RX3) (T := TX3) (N := 2) hx hb hts hinX3 hown hK hP 0 rfl rfl 0 (by decide) (hts (.fieldLink RX3 9 "TaleReader$Pins" "targets" "[I") (uc4 _ (List.mem_of_getElem? (i := 12) rfl))) (fun _ h9 => h9) rfl dX3_put_31 ?_
        refine lv_iload_n hx hb dX3_put_34 rfl (lv_at hl 1 rfl) ?_
        refine lv_iload_n hx hb dX3_put_35 rfl (lv_at hl 2 rfl) ?_
        refine va_iast (D := D) hx hb hK hP hD hS 1 1 rfl rfl (pIx (n := 80) (by assumption) (by assumption) (by decide)) dX3_put_36 (fun H_11 L_12 hP hD hS => ?_)
        obtain ⟨g_13, eg_13⟩ : ∃ gg : Nat → Int32, gg = upd f (x).toNatClampNeg y := ⟨_, rfl⟩
        have hP : va_P D vwCl [(h0, .inr (3, [.ref a, .int v_8])), (a, .inl (cI, 80, .inl g_13))] H_11 := by rw [eg_13]; exact hP
        have hD : va_D A [(h0, .inr (3, [.ref a, .int v_8])), (a, .inl (cI, 80, .inl g_13))] := by rw [eg_13]; exact hD
        have hP9 := hP.sub (ws' := [(h0, .inr (3, [.ref a, .int v_8])), (a, .inl (cI, 80, .inl g_13))]) [0, 1] rfl
        have hD9 := hD.sub (ws' := [(h0, .inr (3, [.ref a, .int v_8])), (a, .inl (cI, 80, .inl g_13))]) [0, 1] (by decide) rfl
        exact W.vret hx hb hr (fun t ht hW => ⟨⟨(v_8, g_13), rfl, trivial, ⟨by rw [ht]; exact hP9, va_K.moved hW.alike hK, hD9⟩⟩, hS.F ht⟩) hS.2.2 dX3_put_37
set_option maxHeartbeats 4000000 in
set_option maxRecDepth 100000 in
theorem s_X3_drop (l : Launch) (D : va_G) (cB cI cZ : ClassId) (E : pEt) (sz : Nat) (h0 : Nat) (x : Int32) (a : Nat) (v : Int32) (f : Nat → Int32) : Met l yX3_drop (.code yX3_drop cX3_drop 2 none :: wsL_law) ({ frames := 1, cells := 0, slots := 0, locals := 21 } : Room) (va_Pc [.ref h0, .int x] (pInE E D (pT cB cI cZ) sz [(h0, .inr (3, [.ref a, .int v])), (a, .inl (cI, 80, .inl f))])) (va_Qv (fun (u : Int32 × (Nat → Int32)) => True) (fun (u : Int32 × (Nat → Int32)) (t : State) => pAt D (pT cB cI cZ) (va_A [(h0, .inr (3, [.ref a, .int v])), (a, .inl (cI, 80, .inl f))] sz) [(h0, .inr (3, [.ref a, .int u.1])), (a, .inl (cI, 80, .inl u.2))] t) (va_A [(h0, .inr (3, [.ref a, .int v])), (a, .inl (cI, 80, .inl f))] sz)) 0 0 (va_A [(h0, .inr (3, [.ref a, .int v])), (a, .inl (cI, 80, .inl f))] sz) := by
  refine Met.ofW (cc := cX3_drop) (maxL := 2) (ret := none) (by decide) rfl ?_
  intro p e s m args below meth cd s₁ B hml hv
  obtain ⟨rfl, hsz, hP, hK, hD0, hE⟩ := hv
  have hx := B.exec
  have hb := B.bytes
  have hr := B.returns
  have hts0 := atoms_spec (ws := .code yX3_drop cX3_drop 2 none :: wsL_law) B.pre
  have hts := fun (w : Cond) (h : w ∈ wsL_law) => hts0 w (List.mem_cons_of_mem _ h)
  have hown : s.vm.findClass RX3 = some m.cls := findClass_of_methodNamed B.named
  have hlocks := B.notSynchronized
  have hinX3 := inlX3
  subst hsz
  have hD := hD0.self (sz := s.heap.size)
  generalize hAe : va_A [(h0, .inr (3, [.ref a, .int v])), (a, .inl (cI, 80, .inl f))] s.heap.size = A at hD hE ⊢
  have hA : ∀ q : Nat, s.heap.size ≤ q → A q := fun q h => by rw [← hAe]; exact Or.inr h
  have hS : va_S A s.heap s.heap [] := va_S.rf
  have hP : va_P D vwCl [(h0, .inr (3, [.ref a, .int v])), (a, .inl (cI, 80, .inl f))] s.heap := hP
  have hl := lv_entry ([.ref h0, .int x]) (n := 2) (Nat.le_of_ble_eq_true rfl)
  rw [lg_entry_eq]
  generalize (lg_sl ([.ref h0, .int x]) ++ List.replicate (2 - (lg_sl ([.ref h0, .int x])).length) Slot.unset).toArray = ls at hl ⊢
  have hl : lv_has ls 2 [(0, .ref h0), (1, .int x)] := hl
  refine lv_aload_n hx hb dX3_drop_0 rfl (lv_at hl 0 rfl) ?_
  refine lv_iload_n hx hb dX3_drop_1 rfl (lv_at hl 1 rfl) ?_
  have hPc := hP.sub (ws' := [(h0, .inr (3, [.ref a, .int v])), (a, .inl (cI, 80, .inl f))]) [0, 1] rfl
  have hDc := hD.sub (ws' := [(h0, .inr (3, [.ref a, .int v])), (a, .inl (cI, 80, .inl f))]) [0, 1] (by decide) rfl
  have hFc := va_free (wc := [(h0, .inr (3, [.ref a, .int v])), (a, .inl (cI, 80, .inl f))]) hD hS hA [0, 1] rfl
  refine va_calli (va_runV (As := [.int x]) (rest := []) ⟨hx, hb, hml, hown, hts⟩ (s_X3_targetOf l D cB cI cZ E s.heap.size h0 x a v f) (cwV 1 hts (uV (uc33 _ (List.mem_of_getElem? (i := 22) rfl)) (uc18 _ (List.mem_of_getElem? (i := 8) rfl)) (uc18 _ (List.mem_of_getElem? (i := 9) rfl)) (uc2 _ (List.mem_of_getElem? (i := 2) rfl)) (uc18 _ (List.mem_of_getElem? (i := 10) rfl))) rfl rfl rfl (by decide +kernel) ⟨Nat.le_of_ble_eq_true rfl, Nat.le_of_ble_eq_true rfl⟩) (pVE hE hS hFc hK hPc hDc 0 rfl rfl) rfl rfl hl.1 rfl (lv_room (Nat.le_of_ble_eq_true rfl)) dX3_drop_2 ⟨Nat.le_of_ble_eq_true rfl, Nat.le_of_ble_eq_true rfl⟩) hS (fun q _ h => hFc q h) hFc (fun r_1 u t H_2 L_3 ht hvm hw hB hz1 hk1 hS => ?_)
  obtain ⟨hP1, -, hD1⟩ := hB
  rw [ht] at hP1
  obtain ⟨hP, hD⟩ := va_join (wr := []) (w1 := [(h0, .inr (3, [.ref a, .int v])), (a, .inl (cI, 80, .inl f))]) hP hD [0, 1] [] rfl rfl (by decide) (by decide) hk1 hFc hP1 hD1
  have hP : va_P D vwCl [(h0, .inr (3, [.ref a, .int v])), (a, .inl (cI, 80, .inl f))] H_2 := hP.sub [0, 1] rfl
  have hD : va_D A [(h0, .inr (3, [.ref a, .int v])), (a, .inl (cI, 80, .inl f))] := hD.sub [0, 1] (by decide) rfl
  try dsimp only at hw
  rcases hw with ⟨rfl, h_4⟩ | ⟨rfl, h_5, h_6⟩
  · refine lv_iconst (v := (-1)) hx hb dX3_drop_5 (by decide) ?_
    refine lv_icmp_eq (tgt := 26) hx hb dX3_drop_6 (by decide) (fun c_7 => ?_) (fun c_7 => ?_)
    · have hP9 := hP.sub (ws' := [(h0, .inr (3, [.ref a, .int v])), (a, .inl (cI, 80, .inl f))]) [0, 1] rfl
      have hD9 := hD.sub (ws' := [(h0, .inr (3, [.ref a, .int v])), (a, .inl (cI, 80, .inl f))]) [0, 1] (by decide) rfl
      exact W.vret hx hb hr (fun t ht hW => ⟨⟨(v, f), rfl, trivial, ⟨by rw [ht]; exact hP9, va_K.moved hW.alike hK, hD9⟩⟩, hS.F ht⟩) hS.2.2 dX3_drop_26
    · exact False.elim (by revert c_7; decide)
  · refine lv_iconst (v := (-1)) hx hb dX3_drop_5 (by decide) ?_
    refine lv_icmp_eq (tgt := 26) hx hb dX3_drop_6 (by decide) (fun c_8 => ?_) (fun c_8 => ?_)
    · have hP9 := hP.sub (ws' := [(h0, .inr (3, [.ref a, .int v])), (a, .inl (cI, 80, .inl f))]) [0, 1] rfl
      have hD9 := hD.sub (ws' := [(h0, .inr (3, [.ref a, .int v])), (a, .inl (cI, 80, .inl f))]) [0, 1] (by decide) rfl
      exact W.vret hx hb hr (fun t ht hW => ⟨⟨(v, f), rfl, trivial, ⟨by rw [ht]; exact hP9, va_K.moved hW.alike hK, hD9⟩⟩, hS.F ht⟩) hS.2.2 dX3_drop_26
    · refine lv_aload_n hx hb dX3_drop_9 rfl (lv_at hl 0 rfl) ?_
      refine va_get (D := D) (ci := 3) (v := .ref a) (C := RX3) (T := TX3) (N := 2) hx hb hts hinX3 hown hK hP 0 rfl rfl 0 (by decide) (hts (.fieldLink RX3 9 "TaleReader$Pins" "targets" "[I") (uc4 _ (List.mem_of_getElem? (i := 12) rfl))) (fun _ h9 => h9) rfl dX3_drop_10 ?_
      refine lv_iload_n hx hb dX3_drop_13 rfl (lv_at hl 1 rfl) ?_
      refine lv_iconst (v := (-1)) hx hb dX3_drop_14 (by decide) ?_
      refine va_iast (D := D) hx hb hK hP hD hS 1 1 rfl rfl (pIx (n := 80) (by assumption) (by assumption) (by decide)) dX3_drop_15 (fun H_9 L_10 hP hD hS => ?_)
      obtain ⟨g_11, eg_11⟩ : ∃ gg : Nat → Int32, gg = upd f (x).toNatClampNeg (-1) := ⟨_, rfl⟩
      have hP : va_P D vwCl [(h0, .inr (3, [.ref a, .int v])), (a, .inl (cI, 80, .inl g_11))] H_9 := by rw [eg_11]; exact hP
      have hD : va_D A [(h0, .inr (3, [.ref a, .int v])), (a, .inl (cI, 80, .inl g_11))] := by rw [eg_11]; exact hD
      refine lv_aload_n hx hb dX3_drop_16 rfl (lv_at hl 0 rfl) ?_
      refine lv_dup hx hb dX3_drop_17 rfl ?_
      refine va_get (D := D) (ci := 3) (v := .int v) (C := RX3) (T := TX3) (N := 2) hx hb hts hinX3 hown hK hP 0 rfl rfl 1 (by decide) (hts (.fieldLink RX3 21 "TaleReader$Pins" "count" "I") (uc4 _ (List.mem_of_getElem? (i := 13) rfl))) (fun _ h9 => h9) rfl dX3_drop_18 ?_
      refine lv_iconst (v := 1) hx hb dX3_drop_21 (by decide) ?_
      refine lv_isub hx hb dX3_drop_22 ?_
      refine lv_topi (fun v_12 ev_12 => ?_)
      refine va_put (D := D) (ci := 3) (v := .int v_12) (ty := .int) (C := RX3) (T := TX3) (N := 2) hx hb hts hinX3 tyX3 tyX3_ok nmX3 hown hK hP hD hS 0 rfl rfl 1 (by decide) (hts (.fieldLink RX3 21 "TaleReader$Pins" "count" "I") (uc4 _ (List.mem_of_getElem? (i := 13) rfl))) (fun _ h9 => h9) rfl (by decide +kernel) rfl rfl (Nat.le_of_ble_eq_true rfl) dX3_drop_23 (fun H_13 L_14 hP hD hS => ?_)
      have hP : va_P D vwCl [(h0, .inr (3, [.ref a, .int v_12])), (a, .inl (cI, 80, .inl g_11))] H_13 := hP
      have hD : va_D A [(h0, .inr (3, [.ref a, .int v_12])), (a, .inl (cI, 80, .inl g_11))] := hD
      have hP9 := hP.sub (ws' := [(h0, .inr (3, [.ref a, .int v_12])), (a, .inl (cI, 80, .inl g_11))]) [0, 1] rfl
      have hD9 := hD.sub (ws' := [(h0, .inr (3, [.ref a, .int v_12])), (a, .inl (cI, 80, .inl g_11))]) [0, 1] (by decide) rfl
      exact W.vret hx hb hr (fun t ht hW => ⟨⟨(v_12, g_11), rfl, trivial, ⟨by rw [ht]; exact hP9, va_K.moved hW.alike hK, hD9⟩⟩, hS.F ht⟩) hS.2.2 dX3_drop_26
