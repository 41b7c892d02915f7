set_option maxHeartbeats 4000000 in
set_option maxRecDepth 100000 in
theorem c_X6_init (l : Launch) (D : va_G) (cB cI cZ : ClassId) (sz : Nat) (h0 : Nat) : Met l yX6_init (.code yX6_init cX6_init 1 none :: wsL_law) ({ frames := 2, cells := 5, slots := 106, locals := 35 } : Room) (va_Pc [.ref h0] (pIn D (pT cB cI cZ) sz [(h0, .inr (6, [.null, .null, .null, .null, .int 0]))])) (va_Qv (fun (u : Nat × Nat × Nat × Nat × Nat) => True) (fun (u : Nat × Nat × Nat × Nat × Nat) (t : State) => pAt D (pT cB cI cZ) (va_A [(h0, .inr (6, [.null, .null, .null, .null, .int 0]))] sz) [(h0, .inr (6, [.ref u.1, .ref u.2.2.1, .ref u.2.2.2.1, .ref u.2.2.2.2, .int 0])), (u.1, .inr (5, [.ref u.2.1, .int 0])), (u.2.1, .inl (cB, 80, .inl (fun _ => 0))), (u.2.2.1, .inl (cI, 8, .inl (fun _ => 0))), (u.2.2.2.1, .inl (cI, 8, .inl (fun _ => 0))), (u.2.2.2.2, .inl (cI, 8, .inl (fun _ => 0)))] t) (va_A [(h0, .inr (6, [.null, .null, .null, .null, .int 0]))] sz)) 5 106 (va_A [(h0, .inr (6, [.null, .null, .null, .null, .int 0]))] sz) := by
  refine Met.ofW (cc := cX6_init) (maxL := 1) (ret := none) (by decide) rfl ?_
  intro p e s m args below meth c s₁ B hml hv
  obtain ⟨rfl, hsz, hP, hK, hD0⟩ := hv
  have hx := B.exec
  have hb := B.bytes
  have hr := B.returns
  have hts0 := atoms_spec (ws := .code yX6_init cX6_init 1 none :: wsL_law) B.pre
  have hts := fun (w : Cond) (h : w ∈ wsL_law) => hts0 w (List.mem_cons_of_mem _ h)
  have hown : s.vm.findClass RX6 = some m.cls := findClass_of_methodNamed B.named
  have hlocks := B.notSynchronized
  have hin : meth.name = "<init>" := (name_of_methodNamed B.named B.method).1
  have hinX5 := inlX5
  have hinX6 := inlX6
  subst hsz
  have hD := hD0.self (sz := s.heap.size)
  generalize hAe : va_A [(h0, .inr (6, [.null, .null, .null, .null, .int 0]))] s.heap.size = A at hD ⊢
  have hA : ∀ q : Nat, s.heap.size ≤ q → A q := fun q h => by rw [← hAe]; exact Or.inr h
  have hS : va_S A s.heap s.heap [] := va_S.rf
  have hP : va_P D vwCl [(h0, .inr (6, [.null, .null, .null, .null, .int 0]))] s.heap := hP
  have hl := lv_entry ([.ref h0]) (n := 1) (Nat.le_of_ble_eq_true rfl)
  rw [lg_entry_eq]
  generalize (lg_sl ([.ref h0]) ++ List.replicate (1 - (lg_sl ([.ref h0])).length) Slot.unset).toArray = ls at hl ⊢
  have hl : lv_has ls 1 [(0, .ref h0)] := hl
  refine lv_aload_n hx hb dX6_init_0 rfl (lv_at hl 0 rfl) ?_
  refine W.objInit hx hb hown (hts (.methodLink RX6 3 objectInit) (uc4 _ (List.mem_of_getElem? (i := 0) rfl))) (hts (.instanceMethod objectInit) (uc1 _ (List.mem_of_getElem? (i := 10) rfl))) (hts (.code objectInit ⟨#[0xb1]⟩ 1 none) (uc1 _ (List.mem_of_getElem? (i := 11) rfl))) rfl (by rw [hml]; exact hl.1) rfl dX6_init_1 (Nat.le_of_ble_eq_true rfl) (Nat.le_of_ble_eq_true rfl) ?_
  refine W.eq (g2 := F0 m 4 ls []) rfl ?_
  refine lv_aload_n hx hb dX6_init_4 rfl (lv_at hl 0 rfl) ?_
  refine va_new (ci := 5) (fs := [.null, .int 0]) (C := RX5) (T := TX5) (N := 2) hx hb hts hinX5 tyX5 tyX5_ok hown (hts (.classLink RX6 9 RX5) (uc4 _ (List.mem_of_getElem? (i := 1) rfl))) (hts (.instantiable RX5 2) (uc1 _ (List.mem_of_getElem? (i := 13) rfl))) (hts (.initialized RX5) (uc1 _ (List.mem_of_getElem? (i := 14) rfl))) hK hP hD hS hA rfl (fun j hj => by rcases (show j = 0 ∨ j = 1 by omega) with rfl | rfl <;> rfl) (Nat.le_of_ble_eq_true rfl) (Nat.le_of_ble_eq_true rfl) dX6_init_5 (fun q_1 H_2 hP hD hS => ?_)
  have hP : va_P D vwCl [(h0, .inr (6, [.null, .null, .null, .null, .int 0])), (q_1, .inr (5, [.null, .int 0]))] H_2 := hP
  have hD : va_D A [(h0, .inr (6, [.null, .null, .null, .null, .int 0])), (q_1, .inr (5, [.null, .int 0]))] := hD
  refine W.widen (k := 1) (n := 2) (by decide) (by decide) ?_
  refine lv_dup hx hb dX6_init_8 rfl ?_
  refine lv_bipush (v := 80) hx hb dX6_init_9 (by decide) ?_
  have hPc := hP.sub (ws' := [(q_1, .inr (5, [.null, .int 0]))]) [1] rfl
  have hDc := hD.sub (ws' := [(q_1, .inr (5, [.null, .int 0]))]) [1] (by decide) rfl
  have hFc := va_free (wc := [(q_1, .inr (5, [.null, .int 0]))]) hD hS hA [1] rfl
  refine va_callv (va_runI (As := [.int 80]) (rest := [.ref q_1, .ref h0]) ⟨hx, hb, hml, hown, hts⟩ (c_X5_init_80 l D cB cI cZ H_2.size q_1) (cwI 1 hts (uI (uc2 _ (List.mem_of_getElem? (i := 22) rfl))) rfl rfl rfl (hts (.initialized RX5) (uc1 _ (List.mem_of_getElem? (i := 14) rfl))) (hts (.methodLink RX6 11 yX5_init) (uc4 _ (List.mem_of_getElem? (i := 7) rfl))) (hts (.instanceMethod yX5_init) (uc2 _ (List.mem_of_getElem? (i := 21) rfl))) rfl (by decide +kernel) ⟨Nat.le_of_ble_eq_true rfl, Nat.le_of_ble_eq_true rfl⟩) (pS hK hPc hDc) rfl rfl hl.1 rfl (lv_room (Nat.le_of_ble_eq_true rfl)) dX6_init_11 ⟨Nat.le_of_ble_eq_true rfl, Nat.le_of_ble_eq_true rfl⟩) hS (fun q _ h => hFc q h) hFc (fun u t H_4 L_5 ht hvm hw hB hz1 hk1 hS => ?_)
  obtain ⟨qa_6, rfl⟩ : ∃ z, z = u := ⟨_, rfl⟩
  obtain ⟨hP1, -, hD1⟩ := hB
  rw [ht] at hP1
  obtain ⟨hP, hD⟩ := va_join (wr := [(h0, .inr (6, [.null, .null, .null, .null, .int 0]))]) (w1 := [(q_1, .inr (5, [.ref qa_6, .int 0])), (qa_6, .inl (cB, 80, .inl (fun _ => 0)))]) hP hD [1] [0] rfl rfl (by decide) (by decide) hk1 hFc hP1 hD1
  have hP : va_P D vwCl [(h0, .inr (6, [.null, .null, .null, .null, .int 0])), (q_1, .inr (5, [.ref qa_6, .int 0])), (qa_6, .inl (cB, 80, .inl (fun _ => 0)))] H_4 := hP.sub [0, 1, 2] rfl
  have hD : va_D A [(h0, .inr (6, [.null, .null, .null, .null, .int 0])), (q_1, .inr (5, [.ref qa_6, .int 0])), (qa_6, .inl (cB, 80, .inl (fun _ => 0)))] := hD.sub [0, 1, 2] (by decide) rfl
  refine W.widen (k := 2) (n := 82) (by decide) (by decide) ?_
  try dsimp only at hw
  refine va_putF (D := D) (ci := 6) (v := .ref q_1) (ty := (.object "TaleReader$Text")) (C := RX6) (T := TX6) (N := 5) hx hb hts hinX6 tyX6 tyX6_ok nmX6 hown hK hP hD hS 0 rfl rfl 0 (by decide) (hts (.fieldLink RX6 14 "TaleReader$ToldNames" "letters" "LTaleReader$Text;") (uc4 _ (List.mem_of_getElem? (i := 2) rfl))) (fun _ h9 => h9) rfl hin rfl (by decide +kernel) rfl rfl (Nat.le_of_ble_eq_true rfl) dX6_init_14 (fun H_7 L_8 hP hD hS => ?_)
  have hP : va_P D vwCl [(h0, .inr (6, [.ref q_1, .null, .null, .null, .int 0])), (q_1, .inr (5, [.ref qa_6, .int 0])), (qa_6, .inl (cB, 80, .inl (fun _ => 0)))] H_7 := hP
  have hD : va_D A [(h0, .inr (6, [.ref q_1, .null, .null, .null, .int 0])), (q_1, .inr (5, [.ref qa_6, .int 0])), (qa_6, .inl (cB, 80, .inl (fun _ => 0)))] := hD
  refine lv_aload_n hx hb dX6_init_17 rfl (lv_at hl 0 rfl) ?_
  refine lv_bipush (v := 8) hx hb dX6_init_18 (by decide) ?_
  refine pNewa (D := D) (cl := vwCl) (ty := .int) (N' := 8) (a0 := (8, .inl (fun _ => 0))) (cA := cI) hx hb (hts (.arrayClass .int) (uc3 _ (List.mem_of_getElem? (i := 13) rfl))) rfl hK hP hD hS hA (fun _ => rfl) (by decide) (by decide) (by decide) (Nat.le_of_ble_eq_true rfl) (Nat.le_of_ble_eq_true rfl) dX6_init_20 1 rfl (fun q_9 H_10 hP hD hS => ?_)
  have hP : va_P D vwCl [(h0, .inr (6, [.ref q_1, .null, .null, .null, .int 0])), (q_1, .inr (5, [.ref qa_6, .int 0])), (qa_6, .inl (cB, 80, .inl (fun _ => 0))), (q_9, .inl (cI, 8, .inl (fun _ => 0)))] H_10 := hP
  have hD : va_D A [(h0, .inr (6, [.ref q_1, .null, .null, .null, .int 0])), (q_1, .inr (5, [.ref qa_6, .int 0])), (qa_6, .inl (cB, 80, .inl (fun _ => 0))), (q_9, .inl (cI, 8, .inl (fun _ => 0)))] := hD
  refine W.widen (k := 3) (n := 90) (by decide) (by decide) ?_
  refine va_putF (D := D) (ci := 6) (v := .ref q_9) (ty := (.array .int)) (C := RX6) (T := TX6) (N := 5) hx hb hts hinX6 tyX6 tyX6_ok nmX6 hown hK hP hD hS 0 rfl rfl 1 (by decide) (hts (.fieldLink RX6 20 "TaleReader$ToldNames" "starts" "[I") (uc4 _ (List.mem_of_getElem? (i := 3) rfl))) (fun _ h9 => h9) rfl hin rfl (by decide +kernel) rfl rfl (Nat.le_of_ble_eq_true rfl) dX6_init_22 (fun H_11 L_12 hP hD hS => ?_)
  have hP : va_P D vwCl [(h0, .inr (6, [.ref q_1, .ref q_9, .null, .null, .int 0])), (q_1, .inr (5, [.ref qa_6, .int 0])), (qa_6, .inl (cB, 80, .inl (fun _ => 0))), (q_9, .inl (cI, 8, .inl (fun _ => 0)))] H_11 := hP
  have hD : va_D A [(h0, .inr (6, [.ref q_1, .ref q_9, .null, .null, .int 0])), (q_1, .inr (5, [.ref qa_6, .int 0])), (qa_6, .inl (cB, 80, .inl (fun _ => 0))), (q_9, .inl (cI, 8, .inl (fun _ => 0)))] := hD
  refine lv_aload_n hx hb dX6_init_25 rfl (lv_at hl 0 rfl) ?_
  refine lv_bipush (v := 8) hx hb dX6_init_26 (by decide) ?_
  refine pNewa (D := D) (cl := vwCl) (ty := .int) (N' := 8) (a0 := (8, .inl (fun _ => 0))) (cA := cI) hx hb (hts (.arrayClass .int) (uc3 _ (List.mem_of_getElem? (i := 13) rfl))) rfl hK hP hD hS hA (fun _ => rfl) (by decide) (by decide) (by decide) (Nat.le_of_ble_eq_true rfl) (Nat.le_of_ble_eq_true rfl) dX6_init_28 1 rfl (fun q_13 H_14 hP hD hS => ?_)
  have hP : va_P D vwCl [(h0, .inr (6, [.ref q_1, .ref q_9, .null, .null, .int 0])), (q_1, .inr (5, [.ref qa_6, .int 0])), (qa_6, .inl (cB, 80, .inl (fun _ => 0))), (q_9, .inl (cI, 8, .inl (fun _ => 0))), (q_13, .inl (cI, 8, .inl (fun _ => 0)))] H_14 := hP
  have hD : va_D A [(h0, .inr (6, [.ref q_1, .ref q_9, .null, .null, .int 0])), (q_1, .inr (5, [.ref qa_6, .int 0])), (qa_6, .inl (cB, 80, .inl (fun _ => 0))), (q_9, .inl (cI, 8, .inl (fun _ => 0))), (q_13, .inl (cI, 8, .inl (fun _ => 0)))] := hD
  refine W.widen (k := 4) (n := 98) (by decide) (by decide) ?_
  refine va_putF (D := D) (ci := 6) (v := .ref q_13) (ty := (.array .int)) (C := RX6) (T := TX6) (N := 5) hx hb hts hinX6 tyX6 tyX6_ok nmX6 hown hK hP hD hS 0 rfl rfl 2 (by decide) (hts (.fieldLink RX6 24 "TaleReader$ToldNames" "lengths" "[I") (uc4 _ (List.mem_of_getElem? (i := 4) rfl))) (fun _ h9 => h9) rfl hin rfl (by decide +kernel) rfl rfl (Nat.le_of_ble_eq_true rfl) dX6_init_30 (fun H_15 L_16 hP hD hS => ?_)
  have hP : va_P D vwCl [(h0, .inr (6, [.ref q_1, .ref q_9, .ref q_13, .null, .int 0])), (q_1, .inr (5, [.ref qa_6, .int 0])), (qa_6, .inl (cB, 80, .inl (fun _ => 0))), (q_9, .inl (cI, 8, .inl (fun _ => 0))), (q_13, .inl (cI, 8, .inl (fun _ => 0)))] H_15 := hP
  have hD : va_D A [(h0, .inr (6, [.ref q_1, .ref q_9, .ref q_13, .null, .int 0])), (q_1, .inr (5, [.ref qa_6, .int 0])), (qa_6, .inl (cB, 80, .inl (fun _ => 0))), (q_9, .inl (cI, 8, .inl (fun _ => 0))), (q_13, .inl (cI, 8, .inl (fun _ => 0)))] := hD
  refine lv_aload_n hx hb dX6_init_33 rfl (lv_at hl 0 rfl) ?_
  refine lv_bipush (v := 8) hx hb dX6_init_34 (by decide) ?_
  refine pNewa (D := D) (cl := vwCl) (ty := .int) (N' := 8) (a0 := (8, .inl (fun _ => 0))) (cA := cI) hx hb (hts (.arrayClass .int) (uc3 _ (List.mem_of_getElem? (i := 13) rfl))) rfl hK hP hD hS hA (fun _ => rfl) (by decide) (by decide) (by decide) (Nat.le_of_ble_eq_true rfl) (Nat.le_of_ble_eq_true rfl) dX6_init_36 1 rfl (fun q_17 H_18 hP hD hS => ?_)
  have hP : va_P D vwCl [(h0, .inr (6, [.ref q_1, .ref q_9, .ref q_13, .null, .int 0])), (q_1, .inr (5, [.ref qa_6, .int 0])), (qa_6, .inl (cB, 80, .inl (fun _ => 0))), (q_9, .inl (cI, 8, .inl (fun _ => 0))), (q_13, .inl (cI, 8, .inl (fun _ => 0))), (q_17, .inl (cI, 8, .inl (fun _ => 0)))] H_18 := hP
  have hD : va_D A [(h0, .inr (6, [.ref q_1, .ref q_9, .ref q_13, .null, .int 0])), (q_1, .inr (5, [.ref qa_6, .int 0])), (qa_6, .inl (cB, 80, .inl (fun _ => 0))), (q_9, .inl (cI, 8, .inl (fun _ => 0))), (q_13, .inl (cI, 8, .inl (fun _ => 0))), (q_17, .inl (cI, 8, .inl (fun _ => 0)))] := hD
  refine W.widen (k := 5) (n := 106) (by decide) (by decide) ?_
  refine va_putF (D := D) (ci := 6) (v := .ref q_17) (ty := (.array .int)) (C := RX6) (T := TX6) (N := 5) hx hb hts hinX6 tyX6 tyX6_ok nmX6 hown hK hP hD hS 0 rfl rfl 3 (by decide) (hts (.fieldLink RX6 27 "TaleReader$ToldNames" "sexes" "[I") (uc4 _ (List.mem_of_getElem? (i := 5) rfl))) (fun _ h9 => h9) rfl hin rfl (by decide +kernel) rfl rfl (Nat.le_of_ble_eq_true rfl) dX6_init_38 (fun H_19 L_20 hP hD hS => ?_)
  have hP : va_P D vwCl [(h0, .inr (6, [.ref q_1, .ref q_9, .ref q_13, .ref q_17, .int 0])), (q_1, .inr (5, [.ref qa_6, .int 0])), (qa_6, .inl (cB, 80, .inl (fun _ => 0))), (q_9, .inl (cI, 8, .inl (fun _ => 0))), (q_13, .inl (cI, 8, .inl (fun _ => 0))), (q_17, .inl (cI, 8, .inl (fun _ => 0)))] H_19 := hP
  have hD : va_D A [(h0, .inr (6, [.ref q_1, .ref q_9, .ref q_13, .ref q_17, .int 0])), (q_1, .inr (5, [.ref qa_6, .int 0])), (qa_6, .inl (cB, 80, .inl (fun _ => 0))), (q_9, .inl (cI, 8, .inl (fun _ => 0))), (q_13, .inl (cI, 8, .inl (fun _ => 0))), (q_17, .inl (cI, 8, .inl (fun _ => 0)))] := hD
  refine lv_aload_n hx hb dX6_init_41 rfl (lv_at hl 0 rfl) ?_
  refine lv_iconst (v := 0) hx hb dX6_init_42 (by decide) ?_
  refine va_put (D := D) (ci := 6) (v := .int 0) (ty := .int) (C := RX6) (T := TX6) (N := 5) hx hb hts hinX6 tyX6 tyX6_ok nmX6 hown hK hP hD hS 0 rfl rfl 4 (by decide) (hts (.fieldLink RX6 30 "TaleReader$ToldNames" "count" "I") (uc4 _ (List.mem_of_getElem? (i := 6) rfl))) (fun _ h9 => h9) rfl (by decide +kernel) rfl rfl (Nat.le_of_ble_eq_true rfl) dX6_init_43 (fun H_21 L_22 hP hD hS => ?_)
  have hP : va_P D vwCl [(h0, .inr (6, [.ref q_1, .ref q_9, .ref q_13, .ref q_17, .int 0])), (q_1, .inr (5, [.ref qa_6, .int 0])), (qa_6, .inl (cB, 80, .inl (fun _ => 0))), (q_9, .inl (cI, 8, .inl (fun _ => 0))), (q_13, .inl (cI, 8, .inl (fun _ => 0))), (q_17, .inl (cI, 8, .inl (fun _ => 0)))] H_21 := hP
  have hD : va_D A [(h0, .inr (6, [.ref q_1, .ref q_9, .ref q_13, .ref q_17, .int 0])), (q_1, .inr (5, [.ref qa_6, .int 0])), (qa_6, .inl (cB, 80, .inl (fun _ => 0))), (q_9, .inl (cI, 8, .inl (fun _ => 0))), (q_13, .inl (cI, 8, .inl (fun _ => 0))), (q_17, .inl (cI, 8, .inl (fun _ => 0)))] := hD
  have hP9 := hP.sub (ws' := [(h0, .inr (6, [.ref q_1, .ref q_9, .ref q_13, .ref q_17, .int 0])), (q_1, .inr (5, [.ref qa_6, .int 0])), (qa_6, .inl (cB, 80, .inl (fun _ => 0))), (q_9, .inl (cI, 8, .inl (fun _ => 0))), (q_13, .inl (cI, 8, .inl (fun _ => 0))), (q_17, .inl (cI, 8, .inl (fun _ => 0)))]) [0, 1, 2, 3, 4, 5] rfl
  have hD9 := hD.sub (ws' := [(h0, .inr (6, [.ref q_1, .ref q_9, .ref q_13, .ref q_17, .int 0])), (q_1, .inr (5, [.ref qa_6, .int 0])), (qa_6, .inl (cB, 80, .inl (fun _ => 0))), (q_9, .inl (cI, 8, .inl (fun _ => 0))), (q_13, .inl (cI, 8, .inl (fun _ => 0))), (q_17, .inl (cI, 8, .inl (fun _ => 0)))]) [0, 1, 2, 3, 4, 5] (by decide) rfl
  exact W.vret hx hb hr (fun t ht hW => ⟨⟨(q_1, qa_6, q_9, q_13, q_17), rfl, trivial, ⟨by rw [ht]; exact hP9, va_K.moved hW.alike hK, hD9⟩⟩, hS.F ht⟩) hS.2.2 dX6_init_46
set_option maxHeartbeats 4000000 in
set_option maxRecDepth 100000 in
theorem c_X6_size (l : Launch) (D : va_G) (cB cI cZ : ClassId) (sz : Nat) (h0 : Nat) (lt : Nat) (ta1 : Nat) (ta2 : Nat) (ta3 : Nat) (cnt : Int32) : Met l yX6_size (.code yX6_size cX6_size 1 (some .int) :: wsL_law) ({ frames := 0, cells := 0, slots := 0, locals := 0 } : Room) (va_Pc [.ref h0] (pIn D (pT cB cI cZ) sz [(h0, .inr (6, [.ref lt, .ref ta1, .ref ta2, .ref ta3, .int cnt]))])) (va_Qi (fun (r : Int32) (u : Unit) => r = cnt) (fun (u : Unit) (t : State) => pAt D (pT cB cI cZ) (va_A [(h0, .inr (6, [.ref lt, .ref ta1, .ref ta2, .ref ta3, .int cnt]))] sz) [(h0, .inr (6, [.ref lt, .ref ta1, .ref ta2, .ref ta3, .int cnt]))] t) (va_A [(h0, .inr (6, [.ref lt, .ref ta1, .ref ta2, .ref ta3, .int cnt]))] sz)) 0 0 (va_A [(h0, .inr (6, [.ref lt, .ref ta1, .ref ta2, .ref ta3, .int cnt]))] sz) := by
  refine Met.ofW (cc := cX6_size) (maxL := 1) (ret := (some .int)) (by decide) rfl ?_
  intro p e s m args below meth c s₁ B hml hv
  obtain ⟨rfl, hsz, hP, hK, hD0⟩ := hv
  have hx := B.exec
  have hb := B.bytes
  have hr := B.returns
  have hts0 := atoms_spec (ws := .code yX6_size cX6_size 1 (some .int) :: wsL_law) B.pre
  have hts := fun (w : Cond) (h : w ∈ wsL_law) => hts0 w (List.mem_cons_of_mem _ h)
  have hown : s.vm.findClass RX6 = some m.cls := findClass_of_methodNamed B.named
  have hlocks := B.notSynchronized
  have hinX6 := inlX6
  subst hsz
  have hD := hD0.self (sz := s.heap.size)
  generalize hAe : va_A [(h0, .inr (6, [.ref lt, .ref ta1, .ref ta2, .ref ta3, .int cnt]))] s.heap.size = A at hD ⊢
  have hA : ∀ q : Nat, s.heap.size ≤ q → A q := fun q h => by rw [← hAe]; exact Or.inr h
  have hS : va_S A s.heap s.heap [] := va_S.rf
  have hP : va_P D vwCl [(h0, .inr (6, [.ref lt, .ref ta1, .ref ta2, .ref ta3, .int cnt]))] s.heap := hP
  have hl := lv_entry ([.ref h0]) (n := 1) (Nat.le_of_ble_eq_true rfl)
  rw [lg_entry_eq]
  generalize (lg_sl ([.ref h0]) ++ List.replicate (1 - (lg_sl ([.ref h0])).length) Slot.unset).toArray = ls at hl ⊢
  have hl : lv_has ls 1 [(0, .ref h0)] := hl
  refine lv_aload_n hx hb dX6_size_0 rfl (lv_at hl 0 rfl) ?_
  refine va_get (D := D) (ci := 6) (v := .int cnt) (C := RX6) (T := TX6) (N := 5) hx hb hts hinX6 hown hK hP 0 rfl rfl 4 (by decide) (hts (.fieldLink RX6 30 "TaleReader$ToldNames" "count" "I") (uc4 _ (List.mem_of_getElem? (i := 6) rfl))) (fun _ h9 => h9) rfl dX6_size_1 ?_
  have hP9 := hP.sub (ws' := [(h0, .inr (6, [.ref lt, .ref ta1, .ref ta2, .ref ta3, .int cnt]))]) [0] rfl
  have hD9 := hD.sub (ws' := [(h0, .inr (6, [.ref lt, .ref ta1, .ref ta2, .ref ta3, .int cnt]))]) [0] (by decide) rfl
  exact W.iret (v := cnt) hx hb hr (fun t ht hW => ⟨⟨cnt, (), rfl, rfl, ⟨by rw [ht]; exact hP9, va_K.moved hW.alike hK, hD9⟩⟩, hS.F ht⟩) hS.2.2 dX6_size_4
set_option maxHeartbeats 4000000 in
set_option maxRecDepth 100000 in
theorem c_X6_clear (l : Launch) (D : va_G) (cB cI cZ : ClassId) (sz : Nat) (h0 : Nat) (lt : Nat) (ta1 : Nat) (ta2 : Nat) (ta3 : Nat) (cnt : Int32) (a : Nat) (v : Int32) : Met l yX6_clear (.code yX6_clear cX6_clear 1 none :: wsL_law) ({ frames := 1, cells := 0, slots := 0, locals := 20 } : Room) (va_Pc [.ref h0] (pIn D (pT cB cI cZ) sz [(h0, .inr (6, [.ref lt, .ref ta1, .ref ta2, .ref ta3, .int cnt])), (lt, .inr (5, [.ref a, .int v]))])) (va_Qv (fun (u : Unit) => True) (fun (u : Unit) (t : State) => pAt D (pT cB cI cZ) (va_A [(h0, .inr (6, [.ref lt, .ref ta1, .ref ta2, .ref ta3, .int cnt])), (lt, .inr (5, [.ref a, .int v]))] sz) [(h0, .inr (6, [.ref lt, .ref ta1, .ref ta2, .ref ta3, .int 0])), (lt, .inr (5, [.ref a, .int 0]))] t) (va_A [(h0, .inr (6, [.ref lt, .ref ta1, .ref ta2, .ref ta3, .int cnt])), (lt, .inr (5, [.ref a, .int v]))] sz)) 0 0 (va_A [(h0, .inr (6, [.ref lt, .ref ta1, .ref ta2, .ref ta3, .int cnt])), (lt, .inr (5, [.ref a, .int v]))] sz) := by
  refine Met.ofW (cc := cX6_clear) (maxL := 1) (ret := none) (by decide) rfl ?_
  intro p e s m args below meth c s₁ B hml hv
  obtain ⟨rfl, hsz, hP, hK, hD0⟩ := hv
  have hx := B.exec
  have hb := B.bytes
  have hr := B.returns
  have hts0 := atoms_spec (ws := .code yX6_clear cX6_clear 1 none :: wsL_law) B.pre
  have hts := fun (w : Cond) (h : w ∈ wsL_law) => hts0 w (List.mem_cons_of_mem _ h)
  have hown : s.vm.findClass RX6 = some m.cls := findClass_of_methodNamed B.named
  have hlocks := B.notSynchronized
  have hinX6 := inlX6
  subst hsz
  have hD := hD0.self (sz := s.heap.size)
  generalize hAe : va_A [(h0, .inr (6, [.ref lt, .ref ta1, .ref ta2, .ref ta3, .int cnt])), (lt, .inr (5, [.ref a, .int v]))] s.heap.size = A at hD ⊢
  have hA : ∀ q : Nat, s.heap.size ≤ q → A q := fun q h => by rw [← hAe]; exact Or.inr h
  have hS : va_S A s.heap s.heap [] := va_S.rf
  have hP : va_P D vwCl [(h0, .inr (6, [.ref lt, .ref ta1, .ref ta2, .ref ta3, .int cnt])), (lt, .inr (5, [.ref a, .int v]))] s.heap := hP
  have hl := lv_entry ([.ref h0]) (n := 1) (Nat.le_of_ble_eq_true rfl)
  rw [lg_entry_eq]
  generalize (lg_sl ([.ref h0]) ++ List.replicate (1 - (lg_sl ([.ref h0])).length) Slot.unset).toArray = ls at hl ⊢
  have hl : lv_has ls 1 [(0, .ref h0)] := hl
  refine lv_aload_n hx hb dX6_clear_0 rfl (lv_at hl 0 rfl) ?_
  refine lv_iconst (v := 0) hx hb dX6_clear_1 (by decide) ?_
  refine va_put (D := D) (ci := 6) (v := .int 0) (ty := .int) (C := RX6) (T := TX6) (N := 5) hx hb hts hinX6 tyX6 tyX6_ok nmX6 hown hK hP hD hS 0 rfl rfl 4 (by decide) (hts (.fieldLink RX6 30 "TaleReader$ToldNames" "count" "I") (uc4 _ (List.mem_of_getElem? (i := 6) rfl))) (fun _ h9 => h9) rfl (by decide +kernel) rfl rfl (Nat.le_of_ble_eq_true rfl) dX6_clear_2 (fun H_1 L_2 hP hD hS => ?_)
  have hP : va_P D vwCl [(h0, .inr (6, [.ref lt, .ref ta1, .ref ta2, .ref ta3, .int 0])), (lt, .inr (5, [.ref a, .int v]))] H_1 := hP
  have hD : va_D A [(h0, .inr (6, [.ref lt, .ref ta1, .ref ta2, .ref ta3, .int 0])), (lt, .inr (5, [.ref a, .int v]))] := hD
  refine lv_aload_n hx hb dX6_clear_5 rfl (lv_at hl 0 rfl) ?_
  refine va_get (D := D) (ci := 6) (v := .ref lt) (C := RX6) (T := TX6) (N := 5) hx hb hts hinX6 hown hK hP 0 rfl rfl 0 (by decide) (hts (.fieldLink RX6 14 "TaleReader$ToldNames" "letters" "LTaleReader$Text;") (uc4 _ (List.mem_of_getElem? (i := 2) rfl))) (fun _ h9 => h9) rfl dX6_clear_6 ?_
  have hPc := hP.sub (ws' := [(lt, .inr (5, [.ref a, .int v]))]) [1] rfl
  have hDc := hD.sub (ws' := [(lt, .inr (5, [.ref a, .int v]))]) [1] (by decide) rfl
  have hFc := va_free (wc := [(lt, .inr (5, [.ref a, .int v]))]) hD hS hA [1] rfl
  refine va_callv (va_runV (As := []) (rest := []) ⟨hx, hb, hml, hown, hts⟩ (c_X5_clear l D cB cI cZ H_1.size lt a v) (cwV 0 hts (uV (uc32 _ (List.mem_of_getElem? (i := 15) rfl)) (uc9 _ (List.mem_of_getElem? (i := 14) rfl)) (uc9 _ (List.mem_of_getElem? (i := 15) rfl)) (uc1 _ (List.mem_of_getElem? (i := 14) rfl)) (uc9 _ (List.mem_of_getElem? (i := 16) rfl))) rfl rfl rfl (by decide +kernel) ⟨Nat.le_of_ble_eq_true rfl, Nat.le_of_ble_eq_true rfl⟩) (pV hK hPc hDc 0 rfl rfl) rfl rfl hl.1 rfl (lv_room (Nat.le_of_ble_eq_true rfl)) dX6_clear_9 ⟨Nat.le_of_ble_eq_true rfl, Nat.le_of_ble_eq_true rfl⟩) hS (fun q _ h => hFc q h) hFc (fun u t H_4 L_5 ht hvm hw hB hz1 hk1 hS => ?_)
  obtain ⟨hP1, -, hD1⟩ := hB
  rw [ht] at hP1
  obtain ⟨hP, hD⟩ := va_join (wr := [(h0, .inr (6, [.ref lt, .ref ta1, .ref ta2, .ref ta3, .int 0]))]) (w1 := [(lt, .inr (5, [.ref a, .int 0]))]) hP hD [1] [0] rfl rfl (by decide) (by decide) hk1 hFc hP1 hD1
  have hP : va_P D vwCl [(h0, .inr (6, [.ref lt, .ref ta1, .ref ta2, .ref ta3, .int 0])), (lt, .inr (5, [.ref a, .int 0]))] H_4 := hP.sub [0, 1] rfl
  have hD : va_D A [(h0, .inr (6, [.ref lt, .ref ta1, .ref ta2, .ref ta3, .int 0])), (lt, .inr (5, [.ref a, .int 0]))] := hD.sub [0, 1] (by decide) rfl
  try dsimp only at hw
  have hP9 := hP.sub (ws' := [(h0, .inr (6, [.ref lt, .ref ta1, .ref ta2, .ref ta3, .int 0])), (lt, .inr (5, [.ref a, .int 0]))]) [0, 1] rfl
  have hD9 := hD.sub (ws' := [(h0, .inr (6, [.ref lt, .ref ta1, .ref ta2, .ref ta3, .int 0])), (lt, .inr (5, [.ref a, .int 0]))]) [0, 1] (by decide) rfl
  exact W.vret hx hb hr (fun t ht hW => ⟨⟨(), rfl, trivial, ⟨by rw [ht]; exact hP9, va_K.moved hW.alike hK, hD9⟩⟩, hS.F ht⟩) hS.2.2 dX6_clear_12
set_option maxHeartbeats 4000000 in
set_option maxRecDepth 100000 in
theorem c_X6_take_0 (l : Launch) (D : va_G) (cB cI cZ : ClassId) (sz : Nat) (h0 : Nat) (lt : Nat) (ta1 : Nat) (ta2 : Nat) (ta3 : Nat) (cnt : Int32) (h1 : Nat) (b : Nat) (x : Int32) : Met l yX6_take (.code yX6_take cX6_take 6 (some .boolean) :: wsL_law) ({ frames := 1, cells := 0, slots := 0, locals := 23 } : Room) (va_Pc [.ref h0, .ref h1, .int x] (pIn D (pT cB cI cZ) sz [(h0, .inr (6, [.ref lt, .ref ta1, .ref ta2, .ref ta3, .int cnt])), (h1, .inr (5, [.ref b, .int 0]))])) (va_Qi (fun (r : Int32) (u : Unit) => r = 0) (fun (u : Unit) (t : State) => pAt D (pT cB cI cZ) (va_A [(h0, .inr (6, [.ref lt, .ref ta1, .ref ta2, .ref ta3, .int cnt])), (h1, .inr (5, [.ref b, .int 0]))] sz) [(h0, .inr (6, [.ref lt, .ref ta1, .ref ta2, .ref ta3, .int cnt])), (h1, .inr (5, [.ref b, .int 0]))] t) (va_A [(h0, .inr (6, [.ref lt, .ref ta1, .ref ta2, .ref ta3, .int cnt])), (h1, .inr (5, [.ref b, .int 0]))] sz)) 0 0 (va_A [(h0, .inr (6, [.ref lt, .ref ta1, .ref ta2, .ref ta3, .int cnt])), (h1, .inr (5, [.ref b, .int 0]))] sz) := by
  refine Met.ofW (cc := cX6_take) (maxL := 6) (ret := (some .boolean)) (by decide) rfl ?_
  intro p e s m args below meth c s₁ B hml hv
  obtain ⟨rfl, hsz, hP, hK, hD0⟩ := hv
  have hx := B.exec
  have hb := B.bytes
  have hr := B.returns
  have hts0 := atoms_spec (ws := .code yX6_take cX6_take 6 (some .boolean) :: wsL_law) B.pre
  have hts := fun (w : Cond) (h : w ∈ wsL_law) => hts0 w (List.mem_cons_of_mem _ h)
  have hown : s.vm.findClass RX6 = some m.cls := findClass_of_methodNamed B.named
  have hlocks := B.notSynchronized
  subst hsz
  have hD := hD0.self (sz := s.heap.size)
  generalize hAe : va_A [(h0, .inr (6, [.ref lt, .ref ta1, .ref ta2, .ref ta3, .int cnt])), (h1, .inr (5, [.ref b, .int 0]))] s.heap.size = A at hD ⊢
  have hA : ∀ q : Nat, s.heap.size ≤ q → A q := fun q h => by rw [← hAe]; exact Or.inr h
  have hS : va_S A s.heap s.heap [] := va_S.rf
  have hP : va_P D vwCl [(h0, .inr (6, [.ref lt, .ref ta1, .ref ta2, .ref ta3, .int cnt])), (h1, .inr (5, [.ref b, .int 0]))] s.heap := hP
  have hl := lv_entry ([.ref h0, .ref h1, .int x]) (n := 6) (Nat.le_of_ble_eq_true rfl)
  rw [lg_entry_eq]
  generalize (lg_sl ([.ref h0, .ref h1, .int x]) ++ List.replicate (6 - (lg_sl ([.ref h0, .ref h1, .int x])).length) Slot.unset).toArray = ls at hl ⊢
  have hl : lv_has ls 6 [(0, .ref h0), (1, .ref h1), (2, .int x)] := hl
  refine lv_aload_n hx hb dX6_take_0 rfl (lv_at hl 1 rfl) ?_
  have hPc := hP.sub (ws' := [(h1, .inr (5, [.ref b, .int 0]))]) [1] rfl
  have hDc := hD.sub (ws' := [(h1, .inr (5, [.ref b, .int 0]))]) [1] (by decide) rfl
  have hFc := va_free (wc := [(h1, .inr (5, [.ref b, .int 0]))]) hD hS hA [1] rfl
  refine va_calli (va_runV (As := []) (rest := []) ⟨hx, hb, hml, hown, hts⟩ (c_X5_size l D cB cI cZ s.heap.size h1 b 0) (cwV 0 hts (uV (uc31 _ (List.mem_of_getElem? (i := 13) rfl)) (uc7 _ (List.mem_of_getElem? (i := 22) rfl)) (uc7 _ (List.mem_of_getElem? (i := 23) rfl)) (uc1 _ (List.mem_of_getElem? (i := 14) rfl)) (uc8 _ (List.mem_of_getElem? (i := 0) rfl))) rfl rfl rfl (by decide +kernel) ⟨Nat.le_of_ble_eq_true rfl, Nat.le_of_ble_eq_true rfl⟩) (pV hK hPc hDc 0 rfl rfl) rfl rfl hl.1 rfl (lv_room (Nat.le_of_ble_eq_true rfl)) dX6_take_1 ⟨Nat.le_of_ble_eq_true rfl, Nat.le_of_ble_eq_true rfl⟩) hS (fun q _ h => hFc q h) hFc (fun r_1 u t H_2 L_3 ht hvm hw hB hz1 hk1 hS => ?_)
  obtain ⟨hP1, -, hD1⟩ := hB
  rw [ht] at hP1
  obtain ⟨hP, hD⟩ := va_join (wr := [(h0, .inr (6, [.ref lt, .ref ta1, .ref ta2, .ref ta3, .int cnt]))]) (w1 := [(h1, .inr (5, [.ref b, .int 0]))]) hP hD [1] [0] rfl rfl (by decide) (by decide) hk1 hFc hP1 hD1
  have hP : va_P D vwCl [(h0, .inr (6, [.ref lt, .ref ta1, .ref ta2, .ref ta3, .int cnt])), (h1, .inr (5, [.ref b, .int 0]))] H_2 := hP.sub [0, 1] rfl
  have hD : va_D A [(h0, .inr (6, [.ref lt, .ref ta1, .ref ta2, .ref ta3, .int cnt])), (h1, .inr (5, [.ref b, .int 0]))] := hD.sub [0, 1] (by decide) rfl
  try dsimp only at hw
  subst hw
  refine lv_istore_n (lv' := [(3, .int 0), (0, .ref h0), (1, .ref h1), (2, .int x)]) hx hb dX6_take_4 rfl hl (by decide) rfl (fun ls hl => ?_)
  refine lv_aload_n hx hb dX6_take_5 rfl (lv_at hl 2 rfl) ?_
  refine lv_iconst (v := 0) hx hb dX6_take_6 (by decide) ?_
  refine lv_iload_n hx hb dX6_take_7 rfl (lv_at hl 0 rfl) ?_
  have hPc := hP.sub (ws' := [(h1, .inr (5, [.ref b, .int 0]))]) [1] rfl
  have hDc := hD.sub (ws' := [(h1, .inr (5, [.ref b, .int 0]))]) [1] (by decide) rfl
  have hFc := va_free (wc := [(h1, .inr (5, [.ref b, .int 0]))]) hD hS hA [1] rfl
  refine va_calli (va_runV (As := [.int 0, .int 0]) (rest := []) ⟨hx, hb, hml, hown, hts⟩ (c_X5_looksLikeName_0 l D cB cI cZ H_2.size h1 b 0) (cwV 2 hts (uV (uc31 _ (List.mem_of_getElem? (i := 14) rfl)) (uc14 _ (List.mem_of_getElem? (i := 14) rfl)) (uc14 _ (List.mem_of_getElem? (i := 15) rfl)) (uc1 _ (List.mem_of_getElem? (i := 14) rfl)) (uc14 _ (List.mem_of_getElem? (i := 16) rfl))) rfl rfl rfl (by decide +kernel) ⟨Nat.le_of_ble_eq_true rfl, Nat.le_of_ble_eq_true rfl⟩) (pV hK hPc hDc 0 rfl rfl) rfl rfl hl.1 rfl (lv_room (Nat.le_of_ble_eq_true rfl)) dX6_take_8 ⟨Nat.le_of_ble_eq_true rfl, Nat.le_of_ble_eq_true rfl⟩) hS (fun q _ h => hFc q h) hFc (fun r_4 u t H_5 L_6 ht hvm hw hB hz1 hk1 hS => ?_)
  obtain ⟨hP1, -, hD1⟩ := hB
  rw [ht] at hP1
  obtain ⟨hP, hD⟩ := va_join (wr := [(h0, .inr (6, [.ref lt, .ref ta1, .ref ta2, .ref ta3, .int cnt]))]) (w1 := [(h1, .inr (5, [.ref b, .int 0]))]) hP hD [1] [0] rfl rfl (by decide) (by decide) hk1 hFc hP1 hD1
  have hP : va_P D vwCl [(h0, .inr (6, [.ref lt, .ref ta1, .ref ta2, .ref ta3, .int cnt])), (h1, .inr (5, [.ref b, .int 0]))] H_5 := hP.sub [0, 1] rfl
  have hD : va_D A [(h0, .inr (6, [.ref lt, .ref ta1, .ref ta2, .ref ta3, .int cnt])), (h1, .inr (5, [.ref b, .int 0]))] := hD.sub [0, 1] (by decide) rfl
  try dsimp only at hw
  subst hw
  refine lv_if_eq (tgt := 23) hx hb dX6_take_11 (by decide) (fun c_7 => ?_) (fun c_7 => ?_)
  · refine lv_iconst (v := 0) hx hb dX6_take_23 (by decide) ?_
    have hP9 := hP.sub (ws' := [(h0, .inr (6, [.ref lt, .ref ta1, .ref ta2, .ref ta3, .int cnt])), (h1, .inr (5, [.ref b, .int 0]))]) [0, 1] rfl
    have hD9 := hD.sub (ws' := [(h0, .inr (6, [.ref lt, .ref ta1, .ref ta2, .ref ta3, .int cnt])), (h1, .inr (5, [.ref b, .int 0]))]) [0, 1] (by decide) rfl
    exact W.zret (v := 0) hx hb hr (rfl) (fun t ht hW => ⟨⟨0, (), rfl, rfl, ⟨by rw [ht]; exact hP9, va_K.moved hW.alike hK, hD9⟩⟩, hS.F ht⟩) hS.2.2 dX6_take_24
  · exact False.elim (by revert c_7; decide)
