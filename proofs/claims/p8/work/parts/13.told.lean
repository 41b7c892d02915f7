set_option maxHeartbeats 4000000 in
set_option maxRecDepth 100000 in
theorem s_X6_init (l : Launch) (D : va_G) (cB cI cZ : ClassId) (E : pEt) (sz : Nat) (h0 : Nat) : Met l yX6_init (.code yX6_init cX6_init 1 none :: wsL_law) ({ frames := 2, cells := 5, slots := 106, locals := 35 } : Room) (va_Pc [.ref h0] (pInE E D (pT cB cI cZ) sz [(h0, .inr (6, [.null, .null, .null, .null, .int 0]))])) (va_Qv (fun (u : Nat × Nat × Nat × Nat × Nat) => True) (fun (u : Nat × Nat × Nat × Nat × Nat) (t : State) => pAt D (pT cB cI cZ) (va_A [(h0, .inr (6, [.null, .null, .null, .null, .int 0]))] sz) [(h0, .inr (6, [.ref u.1, .ref u.2.2.1, .ref u.2.2.2.1, .ref u.2.2.2.2, .int 0])), (u.1, .inr (5, [.ref u.2.1, .int 0])), (u.2.1, .inl (cB, 80, .inl (fun _ => 0))), (u.2.2.1, .inl (cI, 8, .inl (fun _ => 0))), (u.2.2.2.1, .inl (cI, 8, .inl (fun _ => 0))), (u.2.2.2.2, .inl (cI, 8, .inl (fun _ => 0)))] t) (va_A [(h0, .inr (6, [.null, .null, .null, .null, .int 0]))] sz)) 5 106 (va_A [(h0, .inr (6, [.null, .null, .null, .null, .int 0]))] sz) := by
  refine Met.ofW (cc := cX6_init) (maxL := 1) (ret := none) (by decide) rfl ?_
  intro p e s m args below meth cd s₁ B hml hv
  obtain ⟨rfl, hsz, hP, hK, hD0, hE⟩ := hv
  have hx := B.exec
  have hb := B.bytes
  have hr := B.returns
  have hts0 := atoms_spec (ws := .code yX6_init cX6_init 1 none :: wsL_law) B.pre
  have hts := fun (w : Cond) (h : w ∈ wsL_law) => hts0 w (List.mem_cons_of_mem _ h)
  have hown : s.vm.findClass RX6 = some m.cls := findClass_of_methodNamed B.named
  have hlocks := B.notSynchronized
  have hin : meth.name = "<init>" := (name_of_methodNamed B.named B.method).1
  have hinX5 := inlX5
  have hinX6 := inlX6
  subst hsz
  have hD := hD0.self (sz := s.heap.size)
  generalize hAe : va_A [(h0, .inr (6, [.null, .null, .null, .null, .int 0]))] s.heap.size = A at hD hE ⊢
  have hA : ∀ q : Nat, s.heap.size ≤ q → A q := fun q h => by rw [← hAe]; exact Or.inr h
  have hS : va_S A s.heap s.heap [] := va_S.rf
  have hP : va_P D vwCl [(h0, .inr (6, [.null, .null, .null, .null, .int 0]))] s.heap := hP
  have hl := lv_entry ([.ref h0]) (n := 1) (Nat.le_of_ble_eq_true rfl)
  rw [lg_entry_eq]
  generalize (lg_sl ([.ref h0]) ++ List.replicate (1 - (lg_sl ([.ref h0])).length) Slot.unset).toArray = ls at hl ⊢
  have hl : lv_has ls 1 [(0, .ref h0)] := hl
  refine lv_aload_n hx hb dX6_init_0 rfl (lv_at hl 0 rfl) ?_
  refine W.objInit hx hb hown (hts (.methodLink RX6 3 objectInit) (uc4 _ (List.mem_of_getElem? (i := 0) rfl))) (hts (.instanceMethod objectInit) (uc1 _ (List.mem_of_getElem? (i := 10) rfl))) (hts (.code objectInit ⟨#[0xb1]⟩ 1 none) (uc1 _ (List.mem_of_getElem? (i := 11) rfl))) rfl (by rw [hml]; exact hl.1) rfl dX6_init_1 (Nat.le_of_ble_eq_true rfl) (Nat.le_of_ble_eq_true rfl) ?_
  refine W.eq (g2 := F0 m 4 ls []) rfl ?_
  refine lv_aload_n hx hb dX6_init_4 rfl (lv_at hl 0 rfl) ?_
  refine va_new (ci := 5) (fs := [.null, .int 0]) (C := RX5) (T := TX5) (N := 2) hx hb hts hinX5 tyX5 tyX5_ok hown (hts (.classLink RX6 9 RX5) (uc4 _ (List.mem_of_getElem? (i := 1) rfl))) (hts (.instantiable RX5 2) (uc1 _ (List.mem_of_getElem? (i := 13) rfl))) (hts (.initialized RX5) (uc1 _ (List.mem_of_getElem? (i := 14) rfl))) hK hP hD hS hA rfl (fun j hj => by rcases (show j = 0 ∨ j = 1 by omega) with rfl | rfl <;> rfl) (Nat.le_of_ble_eq_true rfl) (Nat.le_of_ble_eq_true rfl) dX6_init_5 (fun q_1 H_2 hP hD hS => ?_)
  have hP : va_P D vwCl [(h0, .inr (6, [.null, .null, .null, .null, .int 0])), (q_1, .inr (5, [.null, .int 0]))] H_2 := hP
  have hD : va_D A [(h0, .inr (6, [.null, .null, .null, .null, .int 0])), (q_1, .inr (5, [.null, .int 0]))] := hD
  refine W.widen (k := 1) (n := 2) (by decide) (by decide) ?_
  refine lv_dup hx hb dX6_init_8 rfl ?_
  refine lv_bipush (v := 80) hx hb dX6_init_9 (by decide) ?_
  have hPc := hP.sub (ws' := [(q_1, .inr (5, [.null, .int 0]))]) [1] rfl
  have hDc := hD.sub (ws' := [(q_1, .inr (5, [.null, .int 0]))]) [1] (by decide) rfl
  have hFc := va_free (wc := [(q_1, .inr (5, [.null, .int 0]))]) hD hS hA [1] rfl
  refine va_callv (va_runI (As := [.int 80]) (rest := [.ref q_1, .ref h0]) ⟨hx, hb, hml, hown, hts⟩ (s_X5_init_80 l D cB cI cZ E H_2.size q_1) (cwI 1 hts (uI (uc2 _ (List.mem_of_getElem? (i := 22) rfl))) rfl rfl rfl (hts (.initialized RX5) (uc1 _ (List.mem_of_getElem? (i := 14) rfl))) (hts (.methodLink RX6 11 yX5_init) (uc4 _ (List.mem_of_getElem? (i := 7) rfl))) (hts (.instanceMethod yX5_init) (uc2 _ (List.mem_of_getElem? (i := 21) rfl))) rfl (by decide +kernel) ⟨Nat.le_of_ble_eq_true rfl, Nat.le_of_ble_eq_true rfl⟩) (pSE hE hS hFc hK hPc hDc) rfl rfl hl.1 rfl (lv_room (Nat.le_of_ble_eq_true rfl)) dX6_init_11 ⟨Nat.le_of_ble_eq_true rfl, Nat.le_of_ble_eq_true rfl⟩) hS (fun q _ h => hFc q h) hFc (fun u t H_4 L_5 ht hvm hw hB hz1 hk1 hS => ?_)
  obtain ⟨qa_6, rfl⟩ : ∃ z, z = u := ⟨_, rfl⟩
  obtain ⟨hP1, -, hD1⟩ := hB
  rw [ht] at hP1
  obtain ⟨hP, hD⟩ := va_join (wr := [(h0, .inr (6, [.null, .null, .null, .null, .int 0]))]) (w1 := [(q_1, .inr (5, [.ref qa_6, .int 0])), (qa_6, .inl (cB, 80, .inl (fun _ => 0)))]) hP hD [1] [0] rfl rfl (by decide) (by decide) hk1 hFc hP1 hD1
  have hP : va_P D vwCl [(h0, .inr (6, [.null, .null, .null, .null, .int 0])), (q_1, .inr (5, [.ref qa_6, .int 0])), (qa_6, .inl (cB, 80, .inl (fun _ => 0)))] H_4 := hP.sub [0, 1, 2] rfl
  have hD : va_D A [(h0, .inr (6, [.null, .null, .null, .null, .int 0])), (q_1, .inr (5, [.ref qa_6, .int 0])), (qa_6, .inl (cB, 80, .inl (fun _ => 0)))] := hD.sub [0, 1, 2] (by decide) rfl
  refine W.widen (k := 2) (n := 82) (by decide) (by decide) ?_
  try dsimp only at hw
  refine va_putF (D := D) (ci := 6) (v := .ref q_1) (ty := (.object "TaleReader$Text")) (C := RX6) (T := TX6) (N := 5) hx hb hts hinX6 tyX6 tyX6_ok nmX6 hown hK hP hD hS 0 rfl rfl 0 (by decide) (hts (.fieldLink RX6 14 "TaleReader$ToldNames" "letters" "LTaleReader$Text;") (uc4 _ (List.mem_of_getElem? (i := 2) rfl))) (fun _ h9 => h9) rfl hin rfl (by decide +kernel) rfl rfl (Nat.le_of_ble_eq_true rfl) dX6_init_14 (fun H_7 L_8 hP hD hS => ?_)
  have hP : va_P D vwCl [(h0, .inr (6, [.ref q_1, .null, .null, .null, .int 0])), (q_1, .inr (5, [.ref qa_6, .int 0])), (qa_6, .inl (cB, 80, .inl (fun _ => 0)))] H_7 := hP
  have hD : va_D A [(h0, .inr (6, [.ref q_1, .null, .null, .null, .int 0])), (q_1, .inr (5, [.ref qa_6, .int 0])), (qa_6, .inl (cB, 80, .inl (fun _ => 0)))] := hD
  refine lv_aload_n hx hb dX6_init_17 rfl (lv_at hl 0 rfl) ?_
  refine lv_bipush (v := 8) hx hb dX6_init_18 (by decide) ?_
  refine pNewa (D := D) (cl := vwCl) (ty := .int) (N' := 8) (a0 := (8, .inl (fun _ => 0))) (cA := cI) hx hb (hts (.arrayClass .int) (uc3 _ (List.mem_of_getElem? (i := 13) rfl))) rfl hK hP hD hS hA (fun _ => rfl) (by decide) (by decide) (by decide) (Nat.le_of_ble_eq_true rfl) (Nat.le_of_ble_eq_true rfl) dX6_init_20 1 rfl (fun q_9 H_10 hP hD hS => ?_)
  have hP : va_P D vwCl [(h0, .inr (6, [.ref q_1, .null, .null, .null, .int 0])), (q_1, .inr (5, [.ref qa_6, .int 0])), (qa_6, .inl (cB, 80, .inl (fun _ => 0))), (q_9, .inl (cI, 8, .inl (fun _ => 0)))] H_10 := hP
  have hD : va_D A [(h0, .inr (6, [.ref q_1, .null, .null, .null, .int 0])), (q_1, .inr (5, [.ref qa_6, .int 0])), (qa_6, .inl (cB, 80, .inl (fun _ => 0))), (q_9, .inl (cI, 8, .inl (fun _ => 0)))] := hD
  refine W.widen (k := 3) (n := 90) (by decide) (by decide) ?_
  refine va_putF (D := D) (ci := 6) (v := .ref q_9) (ty := (.array .int)) (C := RX6) (T := TX6) (N := 5) hx hb hts hinX6 tyX6 tyX6_ok nmX6 hown hK hP hD hS 0 rfl rfl 1 (by decide) (hts (.fieldLink RX6 20 "TaleReader$ToldNames" "starts" "[I") (uc4 _ (List.mem_of_getElem? (i := 3) rfl))) (fun _ h9 => h9) rfl hin rfl (by decide +kernel) rfl rfl (Nat.le_of_ble_eq_true rfl) dX6_init_22 (fun H_11 L_12 hP hD hS => ?_)
  have hP : va_P D vwCl [(h0, .inr (6, [.ref q_1, .ref q_9, .null, .null, .int 0])), (q_1, .inr (5, [.ref qa_6, .int 0])), (qa_6, .inl (cB, 80, .inl (fun _ => 0))), (q_9, .inl (cI, 8, .inl (fun _ => 0)))] H_11 := hP
  have hD : va_D A [(h0, .inr (6, [.ref q_1, .ref q_9, .null, .null, .int 0])), (q_1, .inr (5, [.ref qa_6, .int 0])), (qa_6, .inl (cB, 80, .inl (fun _ => 0))), (q_9, .inl (cI, 8, .inl (fun _ => 0)))] := hD
  refine lv_aload_n hx hb dX6_init_25 rfl (lv_at hl 0 rfl) ?_
  refine lv_bipush (v := 8) hx hb dX6_init_26 (by decide) ?_
  refine pNewa (D := D) (cl := vwCl) (ty := .int) (N' := 8) (a0 := (8, .inl (fun _ => 0))) (cA := cI) hx hb (hts (.arrayClass .int) (uc3 _ (List.mem_of_getElem? (i := 13) rfl))) rfl hK hP hD hS hA (fun _ => rfl) (by decide) (by decide) (by decide) (Nat.le_of_ble_eq_true rfl) (Nat.le_of_ble_eq_true rfl) dX6_init_28 1 rfl (fun q_13 H_14 hP hD hS => ?_)
  have hP : va_P D vwCl [(h0, .inr (6, [.ref q_1, .ref q_9, .null, .null, .int 0])), (q_1, .inr (5, [.ref qa_6, .int 0])), (qa_6, .inl (cB, 80, .inl (fun _ => 0))), (q_9, .inl (cI, 8, .inl (fun _ => 0))), (q_13, .inl (cI, 8, .inl (fun _ => 0)))] H_14 := hP
  have hD : va_D A [(h0, .inr (6, [.ref q_1, .ref q_9, .null, .null, .int 0])), (q_1, .inr (5, [.ref qa_6, .int 0])), (qa_6, .inl (cB, 80, .inl (fun _ => 0))), (q_9, .inl (cI, 8, .inl (fun _ => 0))), (q_13, .inl (cI, 8, .inl (fun _ => 0)))] := hD
  refine W.widen (k := 4) (n := 98) (by decide) (by decide) ?_
  refine va_putF (D := D) (ci := 6) (v := .ref q_13) (ty := (.array .int)) (C := RX6) (T := TX6) (N := 5) hx hb hts hinX6 tyX6 tyX6_ok nmX6 hown hK hP hD hS 0 rfl rfl 2 (by decide) (hts (.fieldLink RX6 24 "TaleReader$ToldNames" "lengths" "[I") (uc4 _ (List.mem_of_getElem? (i := 4) rfl))) (fun _ h9 => h9) rfl hin rfl (by decide +kernel) rfl rfl (Nat.le_of_ble_eq_true rfl) dX6_init_30 (fun H_15 L_16 hP hD hS => ?_)
  have hP : va_P D vwCl [(h0, .inr (6, [.ref q_1, .ref q_9, .ref q_13, .null, .int 0])), (q_1, .inr (5, [.ref qa_6, .int 0])), (qa_6, .inl (cB, 80, .inl (fun _ => 0))), (q_9, .inl (cI, 8, .inl (fun _ => 0))), (q_13, .inl (cI, 8, .inl (fun _ => 0)))] H_15 := hP
  have hD : va_D A [(h0, .inr (6, [.ref q_1, .ref q_9, .ref q_13, .null, .int 0])), (q_1, .inr (5, [.ref qa_6, .int 0])), (qa_6, .inl (cB, 80, .inl (fun _ => 0))), (q_9, .inl (cI, 8, .inl (fun _ => 0))), (q_13, .inl (cI, 8, .inl (fun _ => 0)))] := hD
  refine lv_aload_n hx hb dX6_init_33 rfl (lv_at hl 0 rfl) ?_
  refine lv_bipush (v := 8) hx hb dX6_init_34 (by decide) ?_
  refine pNewa (D := D) (cl := vwCl) (ty := .int) (N' := 8) (a0 := (8, .inl (fun _ => 0))) (cA := cI) hx hb (hts (.arrayClass .int) (uc3 _ (List.mem_of_getElem? (i := 13) rfl))) rfl hK hP hD hS hA (fun _ => rfl) (by decide) (by decide) (by decide) (Nat.le_of_ble_eq_true rfl) (Nat.le_of_ble_eq_true rfl) dX6_init_36 1 rfl (fun q_17 H_18 hP hD hS => ?_)
  have hP : va_P D vwCl [(h0, .inr (6, [.ref q_1, .ref q_9, .ref q_13, .null, .int 0])), (q_1, .inr (5, [.ref qa_6, .int 0])), (qa_6, .inl (cB, 80, .inl (fun _ => 0))), (q_9, .inl (cI, 8, .inl (fun _ => 0))), (q_13, .inl (cI, 8, .inl (fun _ => 0))), (q_17, .inl (cI, 8, .inl (fun _ => 0)))] H_18 := hP
  have hD : va_D A [(h0, .inr (6, [.ref q_1, .ref q_9, .ref q_13, .null, .int 0])), (q_1, .inr (5, [.ref qa_6, .int 0])), (qa_6, .inl (cB, 80, .inl (fun _ => 0))), (q_9, .inl (cI, 8, .inl (fun _ => 0))), (q_13, .inl (cI, 8, .inl (fun _ => 0))), (q_17, .inl (cI, 8, .inl (fun _ => 0)))] := hD
  refine W.widen (k := 5) (n := 106) (by decide) (by decide) ?_
  refine va_putF (D := D) (ci := 6) (v := .ref q_17) (ty := (.array .int)) (C := RX6) (T := TX6) (N := 5) hx hb hts hinX6 tyX6 tyX6_ok nmX6 hown hK hP hD hS 0 rfl rfl 3 (by decide) (hts (.fieldLink RX6 27 "TaleReader$ToldNames" "sexes" "[I") (uc4 _ (List.mem_of_getElem? (i := 5) rfl))) (fun _ h9 => h9) rfl hin rfl (by decide +kernel) rfl rfl (Nat.le_of_ble_eq_true rfl) dX6_init_38 (fun H_19 L_20 hP hD hS => ?_)
  have hP : va_P D vwCl [(h0, .inr (6, [.ref q_1, .ref q_9, .ref q_13, .ref q_17, .int 0])), (q_1, .inr (5, [.ref qa_6, .int 0])), (qa_6, .inl (cB, 80, .inl (fun _ => 0))), (q_9, .inl (cI, 8, .inl (fun _ => 0))), (q_13, .inl (cI, 8, .inl (fun _ => 0))), (q_17, .inl (cI, 8, .inl (fun _ => 0)))] H_19 := hP
  have hD : va_D A [(h0, .inr (6, [.ref q_1, .ref q_9, .ref q_13, .ref q_17, .int 0])), (q_1, .inr (5, [.ref qa_6, .int 0])), (qa_6, .inl (cB, 80, .inl (fun _ => 0))), (q_9, .inl (cI, 8, .inl (fun _ => 0))), (q_13, .inl (cI, 8, .inl (fun _ => 0))), (q_17, .inl (cI, 8, .inl (fun _ => 0)))] := hD
  refine lv_aload_n hx hb dX6_init_41 rfl (lv_at hl 0 rfl) ?_
  refine lv_iconst (v := 0) hx hb dX6_init_42 (by decide) ?_
  refine va_put (D := D) (ci := 6) (v := .int 0) (ty := .int) (C := RX6) (T := TX6) (N := 5) hx hb hts hinX6 tyX6 tyX6_ok nmX6 hown hK hP hD hS 0 rfl rfl 4 (by decide) (hts (.fieldLink RX6 30 "TaleReader$ToldNames" "count" "I") (uc4 _ (List.mem_of_getElem? (i := 6) rfl))) (fun _ h9 => h9) rfl (by decide +kernel) rfl rfl (Nat.le_of_ble_eq_true rfl) dX6_init_43 (fun H_21 L_22 hP hD hS => ?_)
  have hP : va_P D vwCl [(h0, .inr (6, [.ref q_1, .ref q_9, .ref q_13, .ref q_17, .int 0])), (q_1, .inr (5, [.ref qa_6, .int 0])), (qa_6, .inl (cB, 80, .inl (fun _ => 0))), (q_9, .inl (cI, 8, .inl (fun _ => 0))), (q_13, .inl (cI, 8, .inl (fun _ => 0))), (q_17, .inl (cI, 8, .inl (fun _ => 0)))] H_21 := hP
  have hD : va_D A [(h0, .inr (6, [.ref q_1, .ref q_9, .ref q_13, .ref q_17, .int 0])), (q_1, .inr (5, [.ref qa_6, .int 0])), (qa_6, .inl (cB, 80, .inl (fun _ => 0))), (q_9, .inl (cI, 8, .inl (fun _ => 0))), (q_13, .inl (cI, 8, .inl (fun _ => 0))), (q_17, .inl (cI, 8, .inl (fun _ => 0)))] := hD
  have hP9 := hP.sub (ws' := [(h0, .inr (6, [.ref q_1, .ref q_9, .ref q_13, .ref q_17, .int 0])), (q_1, .inr (5, [.ref qa_6, .int 0])), (qa_6, .inl (cB, 80, .inl (fun _ => 0))), (q_9, .inl (cI, 8, .inl (fun _ => 0))), (q_13, .inl (cI, 8, .inl (fun _ => 0))), (q_17, .inl (cI, 8, .inl (fun _ => 0)))]) [0, 1, 2, 3, 4, 5] rfl
  have hD9 := hD.sub (ws' := [(h0, .inr (6, [.ref q_1, .ref q_9, .ref q_13, .ref q_17, .int 0])), (q_1, .inr (5, [.ref qa_6, .int 0])), (qa_6, .inl (cB, 80, .inl (fun _ => 0))), (q_9, .inl (cI, 8, .inl (fun _ => 0))), (q_13, .inl (cI, 8, .inl (fun _ => 0))), (q_17, .inl (cI, 8, .inl (fun _ => 0)))]) [0, 1, 2, 3, 4, 5] (by decide) rfl
  exact W.vret hx hb hr (fun t ht hW => ⟨⟨(q_1, qa_6, q_9, q_13, q_17), rfl, trivial, ⟨by rw [ht]; exact hP9, va_K.moved hW.alike hK, hD9⟩⟩, hS.F ht⟩) hS.2.2 dX6_init_46
set_option maxHeartbeats 4000000 in
set_option maxRecDepth 100000 in
theorem s_X6_size (l : Launch) (D : va_G) (cB cI cZ : ClassId) (E : pEt) (sz : Nat) (h0 : Nat) (lt : Nat) (ta1 : Nat) (ta2 : Nat) (ta3 : Nat) (v : Int32) : Met l yX6_size (.code yX6_size cX6_size 1 (some .int) :: wsL_law) ({ frames := 0, cells := 0, slots := 0, locals := 0 } : Room) (va_Pc [.ref h0] (pInE E D (pT cB cI cZ) sz [(h0, .inr (6, [.ref lt, .ref ta1, .ref ta2, .ref ta3, .int v]))])) (va_Qi (fun (r : Int32) (u : Unit) => v = r) (fun (u : Unit) (t : State) => pAt D (pT cB cI cZ) (va_A [(h0, .inr (6, [.ref lt, .ref ta1, .ref ta2, .ref ta3, .int v]))] sz) [(h0, .inr (6, [.ref lt, .ref ta1, .ref ta2, .ref ta3, .int v]))] t) (va_A [(h0, .inr (6, [.ref lt, .ref ta1, .ref ta2, .ref ta3, .int v]))] sz)) 0 0 (va_A [(h0, .inr (6, [.ref lt, .ref ta1, .ref ta2, .ref ta3, .int v]))] sz) := by
  refine Met.ofW (cc := cX6_size) (maxL := 1) (ret := (some .int)) (by decide) rfl ?_
  intro p e s m args below meth cd s₁ B hml hv
  obtain ⟨rfl, hsz, hP, hK, hD0, hE⟩ := hv
  have hx := B.exec
  have hb := B.bytes
  have hr := B.returns
  have hts0 := atoms_spec (ws := .code yX6_size cX6_size 1 (some .int) :: wsL_law) B.pre
  have hts := fun (w : Cond) (h : w ∈ wsL_law) => hts0 w (List.mem_cons_of_mem _ h)
  have hown : s.vm.findClass RX6 = some m.cls := findClass_of_methodNamed B.named
  have hlocks := B.notSynchronized
  have hinX6 := inlX6
  subst hsz
  have hD := hD0.self (sz := s.heap.size)
  generalize hAe : va_A [(h0, .inr (6, [.ref lt, .ref ta1, .ref ta2, .ref ta3, .int v]))] s.heap.size = A at hD hE ⊢
  have hA : ∀ q : Nat, s.heap.size ≤ q → A q := fun q h => by rw [← hAe]; exact Or.inr h
  have hS : va_S A s.heap s.heap [] := va_S.rf
  have hP : va_P D vwCl [(h0, .inr (6, [.ref lt, .ref ta1, .ref ta2, .ref ta3, .int v]))] s.heap := hP
  have hl := lv_entry ([.ref h0]) (n := 1) (Nat.le_of_ble_eq_true rfl)
  rw [lg_entry_eq]
  generalize (lg_sl ([.ref h0]) ++ List.replicate (1 - (lg_sl ([.ref h0])).length) Slot.unset).toArray = ls at hl ⊢
  have hl : lv_has ls 1 [(0, .ref h0)] := hl
  refine lv_aload_n hx hb dX6_size_0 rfl (lv_at hl 0 rfl) ?_
  refine va_get (D := D) (ci := 6) (v := .int v) (C := RX6) (T := TX6) (N := 5) hx hb hts hinX6 hown hK hP 0 rfl rfl 4 (by decide) (hts (.fieldLink RX6 30 "TaleReader$ToldNames" "count" "I") (uc4 _ (List.mem_of_getElem? (i := 6) rfl))) (fun _ h9 => h9) rfl dX6_size_1 ?_
  have hP9 := hP.sub (ws' := [(h0, .inr (6, [.ref lt, .ref ta1, .ref ta2, .ref ta3, .int v]))]) [0] rfl
  have hD9 := hD.sub (ws' := [(h0, .inr (6, [.ref lt, .ref ta1, .ref ta2, .ref ta3, .int v]))]) [0] (by decide) rfl
  exact W.iret (v := v) hx hb hr (fun t ht hW => ⟨⟨v, (), rfl, rfl, ⟨by rw [ht]; exact hP9, va_K.moved hW.alike hK, hD9⟩⟩, hS.F ht⟩) hS.2.2 dX6_size_4
set_option maxHeartbeats 4000000 in
set_option maxRecDepth 100000 in
theorem s_X6_clear (l : Launch) (D : va_G) (cB cI cZ : ClassId) (E : pEt) (sz : Nat) (h0 : Nat) (lt : Nat) (ta1 : Nat) (ta2 : Nat) (ta3 : Nat) (v : Int32) (la : Nat) (v2 : Int32) : Met l yX6_clear (.code yX6_clear cX6_clear 1 none :: wsL_law) ({ frames := 1, cells := 0, slots := 0, locals := 20 } : Room) (va_Pc [.ref h0] (pInE E D (pT cB cI cZ) sz [(h0, .inr (6, [.ref lt, .ref ta1, .ref ta2, .ref ta3, .int v])), (lt, .inr (5, [.ref la, .int v2]))])) (va_Qv (fun (u : Unit) => True) (fun (u : Unit) (t : State) => pAt D (pT cB cI cZ) (va_A [(h0, .inr (6, [.ref lt, .ref ta1, .ref ta2, .ref ta3, .int v])), (lt, .inr (5, [.ref la, .int v2]))] sz) [(h0, .inr (6, [.ref lt, .ref ta1, .ref ta2, .ref ta3, .int 0])), (lt, .inr (5, [.ref la, .int 0]))] t) (va_A [(h0, .inr (6, [.ref lt, .ref ta1, .ref ta2, .ref ta3, .int v])), (lt, .inr (5, [.ref la, .int v2]))] sz)) 0 0 (va_A [(h0, .inr (6, [.ref lt, .ref ta1, .ref ta2, .ref ta3, .int v])), (lt, .inr (5, [.ref la, .int v2]))] sz) := by
  refine Met.ofW (cc := cX6_clear) (maxL := 1) (ret := none) (by decide) rfl ?_
  intro p e s m args below meth cd s₁ B hml hv
  obtain ⟨rfl, hsz, hP, hK, hD0, hE⟩ := hv
  have hx := B.exec
  have hb := B.bytes
  have hr := B.returns
  have hts0 := atoms_spec (ws := .code yX6_clear cX6_clear 1 none :: wsL_law) B.pre
  have hts := fun (w : Cond) (h : w ∈ wsL_law) => hts0 w (List.mem_cons_of_mem _ h)
  have hown : s.vm.findClass RX6 = some m.cls := findClass_of_methodNamed B.named
  have hlocks := B.notSynchronized
  have hinX6 := inlX6
  subst hsz
  have hD := hD0.self (sz := s.heap.size)
  generalize hAe : va_A [(h0, .inr (6, [.ref lt, .ref ta1, .ref ta2, .ref ta3, .int v])), (lt, .inr (5, [.ref la, .int v2]))] s.heap.size = A at hD hE ⊢
  have hA : ∀ q : Nat, s.heap.size ≤ q → A q := fun q h => by rw [← hAe]; exact Or.inr h
  have hS : va_S A s.heap s.heap [] := va_S.rf
  have hP : va_P D vwCl [(h0, .inr (6, [.ref lt, .ref ta1, .ref ta2, .ref ta3, .int v])), (lt, .inr (5, [.ref la, .int v2]))] s.heap := hP
  have hl := lv_entry ([.ref h0]) (n := 1) (Nat.le_of_ble_eq_true rfl)
  rw [lg_entry_eq]
  generalize (lg_sl ([.ref h0]) ++ List.replicate (1 - (lg_sl ([.ref h0])).length) Slot.unset).toArray = ls at hl ⊢
  have hl : lv_has ls 1 [(0, .ref h0)] := hl
  refine lv_aload_n hx hb dX6_clear_0 rfl (lv_at hl 0 rfl) ?_
  refine lv_iconst (v := 0) hx hb dX6_clear_1 (by decide) ?_
  refine va_put (D := D) (ci := 6) (v := .int 0) (ty := .int) (C := RX6) (T := TX6) (N := 5) hx hb hts hinX6 tyX6 tyX6_ok nmX6 hown hK hP hD hS 0 rfl rfl 4 (by decide) (hts (.fieldLink RX6 30 "TaleReader$ToldNames" "count" "I") (uc4 _ (List.mem_of_getElem? (i := 6) rfl))) (fun _ h9 => h9) rfl (by decide +kernel) rfl rfl (Nat.le_of_ble_eq_true rfl) dX6_clear_2 (fun H_1 L_2 hP hD hS => ?_)
  have hP : va_P D vwCl [(h0, .inr (6, [.ref lt, .ref ta1, .ref ta2, .ref ta3, .int 0])), (lt, .inr (5, [.ref la, .int v2]))] H_1 := hP
  have hD : va_D A [(h0, .inr (6, [.ref lt, .ref ta1, .ref ta2, .ref ta3, .int 0])), (lt, .inr (5, [.ref la, .int v2]))] := hD
  refine lv_aload_n hx hb dX6_clear_5 rfl (lv_at hl 0 rfl) ?_
  refine va_get (D := D) (ci := 6) (v := .ref lt) (C := RX6) (T := TX6) (N := 5) hx hb hts hinX6 hown hK hP 0 rfl rfl 0 (by decide) (hts (.fieldLink RX6 14 "TaleReader$ToldNames" "letters" "LTaleReader$Text;") (uc4 _ (List.mem_of_getElem? (i := 2) rfl))) (fun _ h9 => h9) rfl dX6_clear_6 ?_
  have hPc := hP.sub (ws' := [(lt, .inr (5, [.ref la, .int v2]))]) [1] rfl
  have hDc := hD.sub (ws' := [(lt, .inr (5, [.ref la, .int v2]))]) [1] (by decide) rfl
  have hFc := va_free (wc := [(lt, .inr (5, [.ref la, .int v2]))]) hD hS hA [1] rfl
  refine va_callv (va_runV (As := []) (rest := []) ⟨hx, hb, hml, hown, hts⟩ (s_X5_clear l D cB cI cZ E H_1.size lt la v2) (cwV 0 hts (uV (uc32 _ (List.mem_of_getElem? (i := 15) rfl)) (uc9 _ (List.mem_of_getElem? (i := 14) rfl)) (uc9 _ (List.mem_of_getElem? (i := 15) rfl)) (uc1 _ (List.mem_of_getElem? (i := 14) rfl)) (uc9 _ (List.mem_of_getElem? (i := 16) rfl))) rfl rfl rfl (by decide +kernel) ⟨Nat.le_of_ble_eq_true rfl, Nat.le_of_ble_eq_true rfl⟩) (pVE hE hS hFc hK hPc hDc 0 rfl rfl) rfl rfl hl.1 rfl (lv_room (Nat.le_of_ble_eq_true rfl)) dX6_clear_9 ⟨Nat.le_of_ble_eq_true rfl, Nat.le_of_ble_eq_true rfl⟩) hS (fun q _ h => hFc q h) hFc (fun u t H_4 L_5 ht hvm hw hB hz1 hk1 hS => ?_)
  obtain ⟨hP1, -, hD1⟩ := hB
  rw [ht] at hP1
  obtain ⟨hP, hD⟩ := va_join (wr := [(h0, .inr (6, [.ref lt, .ref ta1, .ref ta2, .ref ta3, .int 0]))]) (w1 := [(lt, .inr (5, [.ref la, .int 0]))]) hP hD [1] [0] rfl rfl (by decide) (by decide) hk1 hFc hP1 hD1
  have hP : va_P D vwCl [(h0, .inr (6, [.ref lt, .ref ta1, .ref ta2, .ref ta3, .int 0])), (lt, .inr (5, [.ref la, .int 0]))] H_4 := hP.sub [0, 1] rfl
  have hD : va_D A [(h0, .inr (6, [.ref lt, .ref ta1, .ref ta2, .ref ta3, .int 0])), (lt, .inr (5, [.ref la, .int 0]))] := hD.sub [0, 1] (by decide) rfl
  try dsimp only at hw
  have hP9 := hP.sub (ws' := [(h0, .inr (6, [.ref lt, .ref ta1, .ref ta2, .ref ta3, .int 0])), (lt, .inr (5, [.ref la, .int 0]))]) [0, 1] rfl
  have hD9 := hD.sub (ws' := [(h0, .inr (6, [.ref lt, .ref ta1, .ref ta2, .ref ta3, .int 0])), (lt, .inr (5, [.ref la, .int 0]))]) [0, 1] (by decide) rfl
  exact W.vret hx hb hr (fun t ht hW => ⟨⟨(), rfl, trivial, ⟨by rw [ht]; exact hP9, va_K.moved hW.alike hK, hD9⟩⟩, hS.F ht⟩) hS.2.2 dX6_clear_12
set_option maxHeartbeats 4000000 in
set_option maxRecDepth 100000 in
theorem s_X6_sexOf (l : Launch) (D : va_G) (cB cI cZ : ClassId) (E : pEt) (sz : Nat) (h0 : Nat) (x : Int32) (lt : Nat) (ta1 : Nat) (ta2 : Nat) (ta3 : Nat) (d : Nat) (fd3 : Nat → Int32) (hd : d ≤ 8) : Met l yX6_sexOf (.code yX6_sexOf cX6_sexOf 2 (some .int) :: wsL_law) ({ frames := 0, cells := 0, slots := 0, locals := 0 } : Room) (va_Pc [.ref h0, .int x] (pInE E D (pT cB cI cZ) sz [(h0, .inr (6, [.ref lt, .ref ta1, .ref ta2, .ref ta3, .int (nI d)])), (ta3, .inl (cI, 8, .inl fd3))])) (va_Qi (fun (r : Int32) (u : Unit) => True) (fun (u : Unit) (t : State) => pAt D (pT cB cI cZ) (va_A [(h0, .inr (6, [.ref lt, .ref ta1, .ref ta2, .ref ta3, .int (nI d)])), (ta3, .inl (cI, 8, .inl fd3))] sz) [(h0, .inr (6, [.ref lt, .ref ta1, .ref ta2, .ref ta3, .int (nI d)])), (ta3, .inl (cI, 8, .inl fd3))] t) (va_A [(h0, .inr (6, [.ref lt, .ref ta1, .ref ta2, .ref ta3, .int (nI d)])), (ta3, .inl (cI, 8, .inl fd3))] sz)) 0 0 (va_A [(h0, .inr (6, [.ref lt, .ref ta1, .ref ta2, .ref ta3, .int (nI d)])), (ta3, .inl (cI, 8, .inl fd3))] sz) := by
  refine Met.ofW (cc := cX6_sexOf) (maxL := 2) (ret := (some .int)) (by decide) rfl ?_
  intro p e s m args below meth cd s₁ B hml hv
  obtain ⟨rfl, hsz, hP, hK, hD0, hE⟩ := hv
  have hx := B.exec
  have hb := B.bytes
  have hr := B.returns
  have hts0 := atoms_spec (ws := .code yX6_sexOf cX6_sexOf 2 (some .int) :: wsL_law) B.pre
  have hts := fun (w : Cond) (h : w ∈ wsL_law) => hts0 w (List.mem_cons_of_mem _ h)
  have hown : s.vm.findClass RX6 = some m.cls := findClass_of_methodNamed B.named
  have hlocks := B.notSynchronized
  have hinX6 := inlX6
  subst hsz
  have hD := hD0.self (sz := s.heap.size)
  generalize hAe : va_A [(h0, .inr (6, [.ref lt, .ref ta1, .ref ta2, .ref ta3, .int (nI d)])), (ta3, .inl (cI, 8, .inl fd3))] s.heap.size = A at hD hE ⊢
  have hA : ∀ q : Nat, s.heap.size ≤ q → A q := fun q h => by rw [← hAe]; exact Or.inr h
  have hS : va_S A s.heap s.heap [] := va_S.rf
  have hP : va_P D vwCl [(h0, .inr (6, [.ref lt, .ref ta1, .ref ta2, .ref ta3, .int (nI d)])), (ta3, .inl (cI, 8, .inl fd3))] s.heap := hP
  have hl := lv_entry ([.ref h0, .int x]) (n := 2) (Nat.le_of_ble_eq_true rfl)
  rw [lg_entry_eq]
  generalize (lg_sl ([.ref h0, .int x]) ++ List.replicate (2 - (lg_sl ([.ref h0, .int x])).length) Slot.unset).toArray = ls at hl ⊢
  have hl : lv_has ls 2 [(0, .ref h0), (1, .int x)] := hl
  refine lv_iload_n hx hb dX6_sexOf_0 rfl (lv_at hl 1 rfl) ?_
  refine lv_if_lt (tgt := 21) hx hb dX6_sexOf_1 (by decide) (fun c_1 => ?_) (fun c_1 => ?_)
  · refine lv_iconst (v := 0) hx hb dX6_sexOf_21 (by decide) ?_
    have hP9 := hP.sub (ws' := [(h0, .inr (6, [.ref lt, .ref ta1, .ref ta2, .ref ta3, .int (nI d)])), (ta3, .inl (cI, 8, .inl fd3))]) [0, 1] rfl
    have hD9 := hD.sub (ws' := [(h0, .inr (6, [.ref lt, .ref ta1, .ref ta2, .ref ta3, .int (nI d)])), (ta3, .inl (cI, 8, .inl fd3))]) [0, 1] (by decide) rfl
    exact W.iret (v := 0) hx hb hr (fun t ht hW => ⟨⟨0, (), rfl, trivial, ⟨by rw [ht]; exact hP9, va_K.moved hW.alike hK, hD9⟩⟩, hS.F ht⟩) hS.2.2 dX6_sexOf_22
  · refine lv_iload_n hx hb dX6_sexOf_4 rfl (lv_at hl 1 rfl) ?_
    refine lv_aload_n hx hb dX6_sexOf_5 rfl (lv_at hl 0 rfl) ?_
    refine va_get (D := D) (ci := 6) (v := .int (nI d)) (C := RX6) (T := TX6) (N := 5) hx hb hts hinX6 hown hK hP 0 rfl rfl 4 (by decide) (hts (.fieldLink RX6 30 "TaleReader$ToldNames" "count" "I") (uc4 _ (List.mem_of_getElem? (i := 6) rfl))) (fun _ h9 => h9) rfl dX6_sexOf_6 ?_
    refine lv_icmp_ge (tgt := 21) hx hb dX6_sexOf_9 (by decide) (fun c_2 => ?_) (fun c_2 => ?_)
    · refine lv_iconst (v := 0) hx hb dX6_sexOf_21 (by decide) ?_
      have hP9 := hP.sub (ws' := [(h0, .inr (6, [.ref lt, .ref ta1, .ref ta2, .ref ta3, .int (nI d)])), (ta3, .inl (cI, 8, .inl fd3))]) [0, 1] rfl
      have hD9 := hD.sub (ws' := [(h0, .inr (6, [.ref lt, .ref ta1, .ref ta2, .ref ta3, .int (nI d)])), (ta3, .inl (cI, 8, .inl fd3))]) [0, 1] (by decide) rfl
      exact W.iret (v := 0) hx hb hr (fun t ht hW => ⟨⟨0, (), rfl, trivial, ⟨by rw [ht]; exact hP9, va_K.moved hW.alike hK, hD9⟩⟩, hS.F ht⟩) hS.2.2 dX6_sexOf_22
    · refine lv_aload_n hx hb dX6_sexOf_12 rfl (lv_at hl 0 rfl) ?_
      refine va_get (D := D) (ci := 6) (v := .ref ta3) (C := RX6) (T := TX6) (N := 5) hx hb hts hinX6 hown hK hP 0 rfl rfl 3 (by decide) (hts (.fieldLink RX6 27 "TaleReader$ToldNames" "sexes" "[I") (uc4 _ (List.mem_of_getElem? (i := 5) rfl))) (fun _ h9 => h9) rfl dX6_sexOf_13 ?_
      refine lv_iload_n hx hb dX6_sexOf_16 rfl (lv_at hl 1 rfl) ?_
      refine va_iald (D := D) hx hb hK hP 1 1 rfl rfl (by first | assumption | exact pIxc (by assumption) (by assumption) (by omega) (by omega)) dX6_sexOf_17 ?_
      refine lv_topi (fun v_3 ev_3 => ?_)
      refine lv_goto (tgt := 22) hx hb dX6_sexOf_18 (by decide) ?_
      have hP9 := hP.sub (ws' := [(h0, .inr (6, [.ref lt, .ref ta1, .ref ta2, .ref ta3, .int (nI d)])), (ta3, .inl (cI, 8, .inl fd3))]) [0, 1] rfl
      have hD9 := hD.sub (ws' := [(h0, .inr (6, [.ref lt, .ref ta1, .ref ta2, .ref ta3, .int (nI d)])), (ta3, .inl (cI, 8, .inl fd3))]) [0, 1] (by decide) rfl
      exact W.iret (v := v_3) hx hb hr (fun t ht hW => ⟨⟨v_3, (), rfl, trivial, ⟨by rw [ht]; exact hP9, va_K.moved hW.alike hK, hD9⟩⟩, hS.F ht⟩) hS.2.2 dX6_sexOf_22
set_option maxHeartbeats 4000000 in
set_option maxRecDepth 100000 in
theorem s_X6_find (l : Launch) (D : va_G) (cB cI cZ : ClassId) (E : pEt) (sz : Nat) (h0 : Nat) (h1 : Nat) (x : Int32) (y : Int32) (lt : Nat) (ta1 : Nat) (ta2 : Nat) (ta3 : Nat) (d : Nat) (fd1 : Nat → Int32) (fd2 : Nat → Int32) (la : Nat) (kl : Nat) (fl : Nat → Int32) (a1 : Nat) (k1 : Nat) (n1 : Nat) (f1 : Nat → Int32) (hd : d ≤ 8) (hkl : kl ≤ 80) (hk1 : k1 ≤ n1) (hn1 : n1 ≤ 600) : Met l yX6_find (.code yX6_find cX6_find 5 (some .int) :: wsL_law) ({ frames := 1, cells := 0, slots := 0, locals := 25 } : Room) (va_Pc [.ref h0, .ref h1, .int x, .int y] (pInE E D (pT cB cI cZ) sz [(h0, .inr (6, [.ref lt, .ref ta1, .ref ta2, .ref ta3, .int (nI d)])), (ta1, .inl (cI, 8, .inl fd1)), (ta2, .inl (cI, 8, .inl fd2)), (lt, .inr (5, [.ref la, .int (nI kl)])), (la, .inl (cB, 80, .inl fl)), (h1, .inr (5, [.ref a1, .int (nI k1)])), (a1, .inl (cB, n1, .inl f1))])) (va_Qi (fun (r : Int32) (u : Unit) => ((-1) = r) ∨ (∃ j : Nat, j < d ∧ r = nI j)) (fun (u : Unit) (t : State) => pAt D (pT cB cI cZ) (va_A [(h0, .inr (6, [.ref lt, .ref ta1, .ref ta2, .ref ta3, .int (nI d)])), (ta1, .inl (cI, 8, .inl fd1)), (ta2, .inl (cI, 8, .inl fd2)), (lt, .inr (5, [.ref la, .int (nI kl)])), (la, .inl (cB, 80, .inl fl)), (h1, .inr (5, [.ref a1, .int (nI k1)])), (a1, .inl (cB, n1, .inl f1))] sz) [(h0, .inr (6, [.ref lt, .ref ta1, .ref ta2, .ref ta3, .int (nI d)])), (ta1, .inl (cI, 8, .inl fd1)), (ta2, .inl (cI, 8, .inl fd2)), (lt, .inr (5, [.ref la, .int (nI kl)])), (la, .inl (cB, 80, .inl fl)), (h1, .inr (5, [.ref a1, .int (nI k1)])), (a1, .inl (cB, n1, .inl f1))] t) (va_A [(h0, .inr (6, [.ref lt, .ref ta1, .ref ta2, .ref ta3, .int (nI d)])), (ta1, .inl (cI, 8, .inl fd1)), (ta2, .inl (cI, 8, .inl fd2)), (lt, .inr (5, [.ref la, .int (nI kl)])), (la, .inl (cB, 80, .inl fl)), (h1, .inr (5, [.ref a1, .int (nI k1)])), (a1, .inl (cB, n1, .inl f1))] sz)) 0 0 (va_A [(h0, .inr (6, [.ref lt, .ref ta1, .ref ta2, .ref ta3, .int (nI d)])), (ta1, .inl (cI, 8, .inl fd1)), (ta2, .inl (cI, 8, .inl fd2)), (lt, .inr (5, [.ref la, .int (nI kl)])), (la, .inl (cB, 80, .inl fl)), (h1, .inr (5, [.ref a1, .int (nI k1)])), (a1, .inl (cB, n1, .inl f1))] sz) := by
  refine Met.ofW (cc := cX6_find) (maxL := 5) (ret := (some .int)) (by decide) rfl ?_
  intro p e s m args below meth cd s₁ B hml hv
  obtain ⟨rfl, hsz, hP, hK, hD0, hE⟩ := hv
  have hx := B.exec
  have hb := B.bytes
  have hr := B.returns
  have hts0 := atoms_spec (ws := .code yX6_find cX6_find 5 (some .int) :: wsL_law) B.pre
  have hts := fun (w : Cond) (h : w ∈ wsL_law) => hts0 w (List.mem_cons_of_mem _ h)
  have hown : s.vm.findClass RX6 = some m.cls := findClass_of_methodNamed B.named
  have hlocks := B.notSynchronized
  have hinX6 := inlX6
  subst hsz
  have hD := hD0.self (sz := s.heap.size)
  generalize hAe : va_A [(h0, .inr (6, [.ref lt, .ref ta1, .ref ta2, .ref ta3, .int (nI d)])), (ta1, .inl (cI, 8, .inl fd1)), (ta2, .inl (cI, 8, .inl fd2)), (lt, .inr (5, [.ref la, .int (nI kl)])), (la, .inl (cB, 80, .inl fl)), (h1, .inr (5, [.ref a1, .int (nI k1)])), (a1, .inl (cB, n1, .inl f1))] s.heap.size = A at hD hE ⊢
  have hA : ∀ q : Nat, s.heap.size ≤ q → A q := fun q h => by rw [← hAe]; exact Or.inr h
  have hS : va_S A s.heap s.heap [] := va_S.rf
  have hP : va_P D vwCl [(h0, .inr (6, [.ref lt, .ref ta1, .ref ta2, .ref ta3, .int (nI d)])), (ta1, .inl (cI, 8, .inl fd1)), (ta2, .inl (cI, 8, .inl fd2)), (lt, .inr (5, [.ref la, .int (nI kl)])), (la, .inl (cB, 80, .inl fl)), (h1, .inr (5, [.ref a1, .int (nI k1)])), (a1, .inl (cB, n1, .inl f1))] s.heap := hP
  have hl := lv_entry ([.ref h0, .ref h1, .int x, .int y]) (n := 5) (Nat.le_of_ble_eq_true rfl)
  rw [lg_entry_eq]
  generalize (lg_sl ([.ref h0, .ref h1, .int x, .int y]) ++ List.replicate (5 - (lg_sl ([.ref h0, .ref h1, .int x, .int y])).length) Slot.unset).toArray = ls at hl ⊢
  have hl : lv_has ls 5 [(0, .ref h0), (1, .ref h1), (2, .int x), (3, .int y)] := hl
  generalize hQ : MQ below _ _ _ _ _ _ = Q
  refine lv_iconst (v := 0) hx hb dX6_find_0 (by decide) ?_
  refine lv_istore (lv' := [(4, .int 0), (0, .ref h0), (1, .ref h1), (2, .int x), (3, .int y)]) hx hb dX6_find_1 hl (by decide) rfl (fun ls hl => ?_)
  have loop_1 : ∀ (nn_3 : Nat) (i : Nat), (i ≤ 600) → (d - i < nn_3) → ∀ (H : Heap) (locs : List Loc) (ls : Array Slot), va_P D vwCl [(h0, .inr (6, [.ref lt, .ref ta1, .ref ta2, .ref ta3, .int (nI d)])), (ta1, .inl (cI, 8, .inl fd1)), (ta2, .inl (cI, 8, .inl fd2)), (lt, .inr (5, [.ref la, .int (nI kl)])), (la, .inl (cB, 80, .inl fl)), (h1, .inr (5, [.ref a1, .int (nI k1)])), (a1, .inl (cB, n1, .inl f1))] H → va_D A [(h0, .inr (6, [.ref lt, .ref ta1, .ref ta2, .ref ta3, .int (nI d)])), (ta1, .inl (cI, 8, .inl fd1)), (ta2, .inl (cI, 8, .inl fd2)), (lt, .inr (5, [.ref la, .int (nI kl)])), (la, .inl (cB, 80, .inl fl)), (h1, .inr (5, [.ref a1, .int (nI k1)])), (a1, .inl (cB, n1, .inl f1))] → va_S A s.heap H locs → lv_has ls 5 [(0, .ref h0), (1, .ref h1), (2, .int x), (3, .int y), (4, .int (nI i))] → W p l e ({ frames := 1, cells := 0, slots := 0, locals := 25 } : Room) s m ([.ref h0, .ref h1, .int x, .int y] : List Value).toArray below meth cd H locs 0 0 Q (F0 m 3 ls []) := by
    intro nn_3
    induction nn_3 with
    | zero => intros; exact absurd ‹_ < 0› (Nat.not_lt_zero _)
    | succ nn_3 ih_2 =>
      intro i hi600 hmu H locs ls hP hD hS hl
      refine lv_iload hx hb dX6_find_3 (lv_at hl 4 rfl) ?_
      refine lv_aload_n hx hb dX6_find_5 rfl (lv_at hl 0 rfl) ?_
      refine va_get (D := D) (ci := 6) (v := .int (nI d)) (C := RX6) (T := TX6) (N := 5) hx hb hts hinX6 hown hK hP 0 rfl rfl 4 (by decide) (hts (.fieldLink RX6 30 "TaleReader$ToldNames" "count" "I") (uc4 _ (List.mem_of_getElem? (i := 6) rfl))) (fun _ h9 => h9) rfl dX6_find_6 ?_
      refine lv_icmp_ge (tgt := 52) hx hb dX6_find_9 (by decide) (fun c_4 => ?_) (fun c_4 => ?_)
      · refine lv_iconst (v := (-1)) hx hb dX6_find_52 (by decide) ?_
        have hP9 := hP.sub (ws' := [(h0, .inr (6, [.ref lt, .ref ta1, .ref ta2, .ref ta3, .int (nI d)])), (ta1, .inl (cI, 8, .inl fd1)), (ta2, .inl (cI, 8, .inl fd2)), (lt, .inr (5, [.ref la, .int (nI kl)])), (la, .inl (cB, 80, .inl fl)), (h1, .inr (5, [.ref a1, .int (nI k1)])), (a1, .inl (cB, n1, .inl f1))]) [0, 1, 2, 3, 4, 5, 6] rfl
        have hD9 := hD.sub (ws' := [(h0, .inr (6, [.ref lt, .ref ta1, .ref ta2, .ref ta3, .int (nI d)])), (ta1, .inl (cI, 8, .inl fd1)), (ta2, .inl (cI, 8, .inl fd2)), (lt, .inr (5, [.ref la, .int (nI kl)])), (la, .inl (cB, 80, .inl fl)), (h1, .inr (5, [.ref a1, .int (nI k1)])), (a1, .inl (cB, n1, .inl f1))]) [0, 1, 2, 3, 4, 5, 6] (by decide) rfl
        rw [← hQ]
        exact W.iret (v := (-1)) hx hb hr (fun t ht hW => ⟨⟨(-1), (), rfl, Or.inl (rfl), ⟨by rw [ht]; exact hP9, va_K.moved hW.alike hK, hD9⟩⟩, hS.F ht⟩) hS.2.2 dX6_find_53
      · have hlt_i : i < d := Nat.lt_of_not_le (fun q => c_4 (nI_le q (by omega)))
        refine lv_aload_n hx hb dX6_find_12 rfl (lv_at hl 0 rfl) ?_
        refine va_get (D := D) (ci := 6) (v := .ref ta2) (C := RX6) (T := TX6) (N := 5) hx hb hts hinX6 hown hK hP 0 rfl rfl 2 (by decide) (hts (.fieldLink RX6 24 "TaleReader$ToldNames" "lengths" "[I") (uc4 _ (List.mem_of_getElem? (i := 4) rfl))) (fun _ h9 => h9) rfl dX6_find_13 ?_
        refine lv_iload hx hb dX6_find_16 (lv_at hl 4 rfl) ?_
        refine va_iald (D := D) hx hb hK hP 2 1 rfl rfl (vp_in_nI (by omega) (by omega)) dX6_find_18 ?_
        refine lv_topi (fun v_5 ev_5 => ?_)
        refine lv_iload_n hx hb dX6_find_19 rfl (lv_at hl 3 rfl) ?_
        refine lv_icmp_ne (tgt := 46) hx hb dX6_find_20 (by decide) (fun c_6 => ?_) (fun c_6 => ?_)
        · refine lv_iinc (v := nI (i + 1)) (lv' := [(4, .int (nI (i + 1))), (0, .ref h0), (1, .ref h1), (2, .int x), (3, .int y)]) hx hb dX6_find_46 hl (k := 4) rfl (nI_add i 1) (by decide) rfl (fun ls hl => ?_)
          refine lv_goto (tgt := 3) hx hb dX6_find_49 (by decide) ?_
          exact ih_2 (i + 1) (by first | assumption | exact Or.inl rfl | exact Or.inr rfl | omega) (by omega) H _ ls (hP.sub (ws' := [(h0, .inr (6, [.ref lt, .ref ta1, .ref ta2, .ref ta3, .int (nI d)])), (ta1, .inl (cI, 8, .inl fd1)), (ta2, .inl (cI, 8, .inl fd2)), (lt, .inr (5, [.ref la, .int (nI kl)])), (la, .inl (cB, 80, .inl fl)), (h1, .inr (5, [.ref a1, .int (nI k1)])), (a1, .inl (cB, n1, .inl f1))]) [0, 1, 2, 3, 4, 5, 6] rfl) (hD.sub (ws' := [(h0, .inr (6, [.ref lt, .ref ta1, .ref ta2, .ref ta3, .int (nI d)])), (ta1, .inl (cI, 8, .inl fd1)), (ta2, .inl (cI, 8, .inl fd2)), (lt, .inr (5, [.ref la, .int (nI kl)])), (la, .inl (cB, 80, .inl fl)), (h1, .inr (5, [.ref a1, .int (nI k1)])), (a1, .inl (cB, n1, .inl f1))]) [0, 1, 2, 3, 4, 5, 6] (by decide) rfl) hS (lv_sub hl [1, 2, 3, 4, 0] rfl)
        · refine lv_aload_n hx hb dX6_find_23 rfl (lv_at hl 1 rfl) ?_
          refine lv_iload_n hx hb dX6_find_24 rfl (lv_at hl 2 rfl) ?_
          refine lv_aload_n hx hb dX6_find_25 rfl (lv_at hl 0 rfl) ?_
          refine va_get (D := D) (ci := 6) (v := .ref lt) (C := RX6) (T := TX6) (N := 5) hx hb hts hinX6 hown hK hP 0 rfl rfl 0 (by decide) (hts (.fieldLink RX6 14 "TaleReader$ToldNames" "letters" "LTaleReader$Text;") (uc4 _ (List.mem_of_getElem? (i := 2) rfl))) (fun _ h9 => h9) rfl dX6_find_26 ?_
          refine lv_aload_n hx hb dX6_find_29 rfl (lv_at hl 0 rfl) ?_
          refine va_get (D := D) (ci := 6) (v := .ref ta1) (C := RX6) (T := TX6) (N := 5) hx hb hts hinX6 hown hK hP 0 rfl rfl 1 (by decide) (hts (.fieldLink RX6 20 "TaleReader$ToldNames" "starts" "[I") (uc4 _ (List.mem_of_getElem? (i := 3) rfl))) (fun _ h9 => h9) rfl dX6_find_30 ?_
          refine lv_iload hx hb dX6_find_33 (lv_at hl 4 rfl) ?_
          refine va_iald (D := D) hx hb hK hP 1 1 rfl rfl (vp_in_nI (by omega) (by omega)) dX6_find_35 ?_
          refine lv_topi (fun v_7 ev_7 => ?_)
          refine lv_iload_n hx hb dX6_find_36 rfl (lv_at hl 3 rfl) ?_
          have hPc := hP.sub (ws' := [(h1, .inr (5, [.ref a1, .int (nI k1)])), (a1, .inl (cB, n1, .inl f1)), (lt, .inr (5, [.ref la, .int (nI kl)])), (la, .inl (cB, 80, .inl fl))]) [5, 6, 3, 4] rfl
          have hDc := hD.sub (ws' := [(h1, .inr (5, [.ref a1, .int (nI k1)])), (a1, .inl (cB, n1, .inl f1)), (lt, .inr (5, [.ref la, .int (nI kl)])), (la, .inl (cB, 80, .inl fl))]) [5, 6, 3, 4] (by decide) rfl
          have hFc := va_free (wc := [(h1, .inr (5, [.ref a1, .int (nI k1)])), (a1, .inl (cB, n1, .inl f1)), (lt, .inr (5, [.ref la, .int (nI kl)])), (la, .inl (cB, 80, .inl fl))]) hD hS hA [5, 6, 3, 4] rfl
          refine va_calli (va_runV (As := [.int x, .ref lt, .int v_7, .int y]) (rest := []) ⟨hx, hb, hml, hown, hts⟩ (s_X5_sameAs l D cB cI cZ E H.size h1 a1 n1 k1 f1 lt la 80 kl fl x v_7 y (by first | assumption | omega) (by first | assumption | omega) (by first | assumption | omega) (by first | assumption | omega)) (cwV 4 hts (uV (uc16 _ (List.mem_of_getElem? (i := 16) rfl)) (uc15 _ (List.mem_of_getElem? (i := 6) rfl)) (uc15 _ (List.mem_of_getElem? (i := 7) rfl)) (uc1 _ (List.mem_of_getElem? (i := 14) rfl)) (uc15 _ (List.mem_of_getElem? (i := 8) rfl))) rfl rfl rfl (by decide +kernel) ⟨Nat.le_of_ble_eq_true rfl, Nat.le_of_ble_eq_true rfl⟩) (pVE hE hS hFc hK hPc hDc 0 rfl rfl) rfl rfl hl.1 rfl (lv_room (Nat.le_of_ble_eq_true rfl)) dX6_find_37 ⟨Nat.le_of_ble_eq_true rfl, Nat.le_of_ble_eq_true rfl⟩) hS (fun q _ h => hFc q h) hFc (fun r_8 u t H_9 L_10 ht hvm hw hB hz1 hk1 hS => ?_)
          obtain ⟨hP1, -, hD1⟩ := hB
          rw [ht] at hP1
          obtain ⟨hP, hD⟩ := va_join (wr := [(h0, .inr (6, [.ref lt, .ref ta1, .ref ta2, .ref ta3, .int (nI d)])), (ta1, .inl (cI, 8, .inl fd1)), (ta2, .inl (cI, 8, .inl fd2))]) (w1 := [(h1, .inr (5, [.ref a1, .int (nI k1)])), (a1, .inl (cB, n1, .inl f1)), (lt, .inr (5, [.ref la, .int (nI kl)])), (la, .inl (cB, 80, .inl fl))]) hP hD [5, 6, 3, 4] [0, 1, 2] rfl rfl (by decide) (by decide) hk1 hFc hP1 hD1
          have hP : va_P D vwCl [(h0, .inr (6, [.ref lt, .ref ta1, .ref ta2, .ref ta3, .int (nI d)])), (ta1, .inl (cI, 8, .inl fd1)), (ta2, .inl (cI, 8, .inl fd2)), (lt, .inr (5, [.ref la, .int (nI kl)])), (la, .inl (cB, 80, .inl fl)), (h1, .inr (5, [.ref a1, .int (nI k1)])), (a1, .inl (cB, n1, .inl f1))] H_9 := hP.sub [0, 1, 2, 5, 6, 3, 4] rfl
          have hD : va_D A [(h0, .inr (6, [.ref lt, .ref ta1, .ref ta2, .ref ta3, .int (nI d)])), (ta1, .inl (cI, 8, .inl fd1)), (ta2, .inl (cI, 8, .inl fd2)), (lt, .inr (5, [.ref la, .int (nI kl)])), (la, .inl (cB, 80, .inl fl)), (h1, .inr (5, [.ref a1, .int (nI k1)])), (a1, .inl (cB, n1, .inl f1))] := hD.sub [0, 1, 2, 5, 6, 3, 4] (by decide) rfl
          try dsimp only at hw
          refine lv_if_eq (tgt := 46) hx hb dX6_find_40 (by decide) (fun c_11 => ?_) (fun c_11 => ?_)
          · refine lv_iinc (v := nI (i + 1)) (lv' := [(4, .int (nI (i + 1))), (0, .ref h0), (1, .ref h1), (2, .int x), (3, .int y)]) hx hb dX6_find_46 hl (k := 4) rfl (nI_add i 1) (by decide) rfl (fun ls hl => ?_)
            refine lv_goto (tgt := 3) hx hb dX6_find_49 (by decide) ?_
            exact ih_2 (i + 1) (by first | assumption | exact Or.inl rfl | exact Or.inr rfl | omega) (by omega) H_9 _ ls (hP.sub (ws' := [(h0, .inr (6, [.ref lt, .ref ta1, .ref ta2, .ref ta3, .int (nI d)])), (ta1, .inl (cI, 8, .inl fd1)), (ta2, .inl (cI, 8, .inl fd2)), (lt, .inr (5, [.ref la, .int (nI kl)])), (la, .inl (cB, 80, .inl fl)), (h1, .inr (5, [.ref a1, .int (nI k1)])), (a1, .inl (cB, n1, .inl f1))]) [0, 1, 2, 3, 4, 5, 6] rfl) (hD.sub (ws' := [(h0, .inr (6, [.ref lt, .ref ta1, .ref ta2, .ref ta3, .int (nI d)])), (ta1, .inl (cI, 8, .inl fd1)), (ta2, .inl (cI, 8, .inl fd2)), (lt, .inr (5, [.ref la, .int (nI kl)])), (la, .inl (cB, 80, .inl fl)), (h1, .inr (5, [.ref a1, .int (nI k1)])), (a1, .inl (cB, n1, .inl f1))]) [0, 1, 2, 3, 4, 5, 6] (by decide) rfl) hS (lv_sub hl [1, 2, 3, 4, 0] rfl)
          · refine lv_iload hx hb dX6_find_43 (lv_at hl 4 rfl) ?_
            have hP9 := hP.sub (ws' := [(h0, .inr (6, [.ref lt, .ref ta1, .ref ta2, .ref ta3, .int (nI d)])), (ta1, .inl (cI, 8, .inl fd1)), (ta2, .inl (cI, 8, .inl fd2)), (lt, .inr (5, [.ref la, .int (nI kl)])), (la, .inl (cB, 80, .inl fl)), (h1, .inr (5, [.ref a1, .int (nI k1)])), (a1, .inl (cB, n1, .inl f1))]) [0, 1, 2, 3, 4, 5, 6] rfl
            have hD9 := hD.sub (ws' := [(h0, .inr (6, [.ref lt, .ref ta1, .ref ta2, .ref ta3, .int (nI d)])), (ta1, .inl (cI, 8, .inl fd1)), (ta2, .inl (cI, 8, .inl fd2)), (lt, .inr (5, [.ref la, .int (nI kl)])), (la, .inl (cB, 80, .inl fl)), (h1, .inr (5, [.ref a1, .int (nI k1)])), (a1, .inl (cB, n1, .inl f1))]) [0, 1, 2, 3, 4, 5, 6] (by decide) rfl
            rw [← hQ]
            exact W.iret (v := nI i) hx hb hr (fun t ht hW => ⟨⟨nI i, (), rfl, Or.inr ((⟨i, hlt_i, rfl⟩)), ⟨by rw [ht]; exact hP9, va_K.moved hW.alike hK, hD9⟩⟩, hS.F ht⟩) hS.2.2 dX6_find_45
  exact loop_1 _ 0 (by first | assumption | exact Or.inl rfl | exact Or.inr rfl | omega) (Nat.lt_succ_self _) s.heap _ ls (hP.sub (ws' := [(h0, .inr (6, [.ref lt, .ref ta1, .ref ta2, .ref ta3, .int (nI d)])), (ta1, .inl (cI, 8, .inl fd1)), (ta2, .inl (cI, 8, .inl fd2)), (lt, .inr (5, [.ref la, .int (nI kl)])), (la, .inl (cB, 80, .inl fl)), (h1, .inr (5, [.ref a1, .int (nI k1)])), (a1, .inl (cB, n1, .inl f1))]) [0, 1, 2, 3, 4, 5, 6] rfl) (hD.sub (ws' := [(h0, .inr (6, [.ref lt, .ref ta1, .ref ta2, .ref ta3, .int (nI d)])), (ta1, .inl (cI, 8, .inl fd1)), (ta2, .inl (cI, 8, .inl fd2)), (lt, .inr (5, [.ref la, .int (nI kl)])), (la, .inl (cB, 80, .inl fl)), (h1, .inr (5, [.ref a1, .int (nI k1)])), (a1, .inl (cB, n1, .inl f1))]) [0, 1, 2, 3, 4, 5, 6] (by decide) rfl) hS (lv_sub hl [1, 2, 3, 4, 0] rfl)
set_option maxHeartbeats 4000000 in
set_option maxRecDepth 100000 in
theorem s_X6_append (l : Launch) (D : va_G) (cB cI cZ : ClassId) (E : pEt) (sz : Nat) (h0 : Nat) (h1 : Nat) (lt : Nat) (ta1 : Nat) (ta2 : Nat) (ta3 : Nat) (d : Nat) (fd1 : Nat → Int32) (fd2 : Nat → Int32) (la : Nat) (kl : Nat) (fl : Nat → Int32) (a1 : Nat) (k1 : Nat) (n1 : Nat) (f1 : Nat → Int32) (hd : d ≤ 8) (hkl : kl ≤ 80) (hk1 : k1 ≤ n1) (hn1 : n1 ≤ 600) : Met l yX6_append (.code yX6_append cX6_append 3 (some .int) :: wsL_law) ({ frames := 3, cells := 0, slots := 0, locals := 65 } : Room) (va_Pc [.ref h0, .ref h1] (pInE E D (pT cB cI cZ) sz [(h0, .inr (6, [.ref lt, .ref ta1, .ref ta2, .ref ta3, .int (nI d)])), (ta1, .inl (cI, 8, .inl fd1)), (ta2, .inl (cI, 8, .inl fd2)), (lt, .inr (5, [.ref la, .int (nI kl)])), (la, .inl (cB, 80, .inl fl)), (h1, .inr (5, [.ref a1, .int (nI k1)])), (a1, .inl (cB, n1, .inl f1))])) (va_Qi (fun (r : Int32) (u : Nat × (Nat → Int32) × (Nat → Int32) × Nat × (Nat → Int32)) => (u.1 ≤ 8) ∧ (u.2.2.2.1 ≤ 80) ∧ (∃ j : Nat, j < 8 ∧ r = nI j)) (fun (u : Nat × (Nat → Int32) × (Nat → Int32) × Nat × (Nat → Int32)) (t : State) => pAt D (pT cB cI cZ) (va_A [(h0, .inr (6, [.ref lt, .ref ta1, .ref ta2, .ref ta3, .int (nI d)])), (ta1, .inl (cI, 8, .inl fd1)), (ta2, .inl (cI, 8, .inl fd2)), (lt, .inr (5, [.ref la, .int (nI kl)])), (la, .inl (cB, 80, .inl fl)), (h1, .inr (5, [.ref a1, .int (nI k1)])), (a1, .inl (cB, n1, .inl f1))] sz) [(h0, .inr (6, [.ref lt, .ref ta1, .ref ta2, .ref ta3, .int (nI u.1)])), (ta1, .inl (cI, 8, .inl u.2.1)), (ta2, .inl (cI, 8, .inl u.2.2.1)), (lt, .inr (5, [.ref la, .int (nI u.2.2.2.1)])), (la, .inl (cB, 80, .inl u.2.2.2.2)), (h1, .inr (5, [.ref a1, .int (nI k1)])), (a1, .inl (cB, n1, .inl f1))] t) (va_A [(h0, .inr (6, [.ref lt, .ref ta1, .ref ta2, .ref ta3, .int (nI d)])), (ta1, .inl (cI, 8, .inl fd1)), (ta2, .inl (cI, 8, .inl fd2)), (lt, .inr (5, [.ref la, .int (nI kl)])), (la, .inl (cB, 80, .inl fl)), (h1, .inr (5, [.ref a1, .int (nI k1)])), (a1, .inl (cB, n1, .inl f1))] sz)) 0 0 (va_A [(h0, .inr (6, [.ref lt, .ref ta1, .ref ta2, .ref ta3, .int (nI d)])), (ta1, .inl (cI, 8, .inl fd1)), (ta2, .inl (cI, 8, .inl fd2)), (lt, .inr (5, [.ref la, .int (nI kl)])), (la, .inl (cB, 80, .inl fl)), (h1, .inr (5, [.ref a1, .int (nI k1)])), (a1, .inl (cB, n1, .inl f1))] sz) := by
  refine Met.ofW (cc := cX6_append) (maxL := 3) (ret := (some .int)) (by decide) rfl ?_
  intro p e s m args below meth cd s₁ B hml hv
  obtain ⟨rfl, hsz, hP, hK, hD0, hE⟩ := hv
  have hx := B.exec
  have hb := B.bytes
  have hr := B.returns
  have hts0 := atoms_spec (ws := .code yX6_append cX6_append 3 (some .int) :: wsL_law) B.pre
  have hts := fun (w : Cond) (h : w ∈ wsL_law) => hts0 w (List.mem_cons_of_mem _ h)
  have hown : s.vm.findClass RX6 = some m.cls := findClass_of_methodNamed B.named
  have hlocks := B.notSynchronized
  have hinX6 := inlX6
  subst hsz
  have hD := hD0.self (sz := s.heap.size)
  generalize hAe : va_A [(h0, .inr (6, [.ref lt, .ref ta1, .ref ta2, .ref ta3, .int (nI d)])), (ta1, .inl (cI, 8, .inl fd1)), (ta2, .inl (cI, 8, .inl fd2)), (lt, .inr (5, [.ref la, .int (nI kl)])), (la, .inl (cB, 80, .inl fl)), (h1, .inr (5, [.ref a1, .int (nI k1)])), (a1, .inl (cB, n1, .inl f1))] s.heap.size = A at hD hE ⊢
  have hA : ∀ q : Nat, s.heap.size ≤ q → A q := fun q h => by rw [← hAe]; exact Or.inr h
  have hS : va_S A s.heap s.heap [] := va_S.rf
  have hP : va_P D vwCl [(h0, .inr (6, [.ref lt, .ref ta1, .ref ta2, .ref ta3, .int (nI d)])), (ta1, .inl (cI, 8, .inl fd1)), (ta2, .inl (cI, 8, .inl fd2)), (lt, .inr (5, [.ref la, .int (nI kl)])), (la, .inl (cB, 80, .inl fl)), (h1, .inr (5, [.ref a1, .int (nI k1)])), (a1, .inl (cB, n1, .inl f1))] s.heap := hP
  have hl := lv_entry ([.ref h0, .ref h1]) (n := 3) (Nat.le_of_ble_eq_true rfl)
  rw [lg_entry_eq]
  generalize (lg_sl ([.ref h0, .ref h1]) ++ List.replicate (3 - (lg_sl ([.ref h0, .ref h1])).length) Slot.unset).toArray = ls at hl ⊢
  have hl : lv_has ls 3 [(0, .ref h0), (1, .ref h1)] := hl
  refine lv_aload_n hx hb dX6_append_0 rfl (lv_at hl 0 rfl) ?_
  refine va_get (D := D) (ci := 6) (v := .int (nI d)) (C := RX6) (T := TX6) (N := 5) hx hb hts hinX6 hown hK hP 0 rfl rfl 4 (by decide) (hts (.fieldLink RX6 30 "TaleReader$ToldNames" "count" "I") (uc4 _ (List.mem_of_getElem? (i := 6) rfl))) (fun _ h9 => h9) rfl dX6_append_1 ?_
  refine lv_bipush (v := 7) hx hb dX6_append_4 (by decide) ?_
  refine va_mmin hx hb (by rw [hml]; exact hl.1.symm) hown (hts (.methodLink RX6 57 Lib.Math.min.name) (uc31 _ (List.mem_of_getElem? (i := 21) rfl))) (hts (.static Lib.Math.min.name) (uc23 _ (List.mem_of_getElem? (i := 8) rfl))) (hts (.initialized "java/lang/Math") (uc3 _ (List.mem_of_getElem? (i := 2) rfl))) (hts (.code Lib.Math.min.name Lib.Math.min.code 2 (some .int)) (uc23 _ (List.mem_of_getElem? (i := 9) rfl))) (Nat.le_of_ble_eq_true rfl) (Nat.le_of_ble_eq_true rfl) (Nat.le_of_ble_eq_true rfl) (Nat.le_of_ble_eq_true rfl) dX6_append_6 ?_
  obtain ⟨M, hM, hM7⟩ := pMin7 hd
  refine lv_topi (fun z_1 ez_1 => ?_)
  obtain rfl : z_1 = nI M := ez_1.trans (hM)
  refine lv_istore_n (lv' := [(2, .int (nI M)), (0, .ref h0), (1, .ref h1)]) hx hb dX6_append_9 rfl hl (by decide) rfl (fun ls hl => ?_)
  refine lv_aload_n hx hb dX6_append_10 rfl (lv_at hl 1 rfl) ?_
  refine va_get (D := D) (ci := 6) (v := .ref ta1) (C := RX6) (T := TX6) (N := 5) hx hb hts hinX6 hown hK hP 0 rfl rfl 1 (by decide) (hts (.fieldLink RX6 20 "TaleReader$ToldNames" "starts" "[I") (uc4 _ (List.mem_of_getElem? (i := 3) rfl))) (fun _ h9 => h9) rfl dX6_append_11 ?_
  refine lv_iload_n hx hb dX6_append_14 rfl (lv_at hl 0 rfl) ?_
  refine lv_aload_n hx hb dX6_append_15 rfl (lv_at hl 1 rfl) ?_
  refine va_get (D := D) (ci := 6) (v := .ref lt) (C := RX6) (T := TX6) (N := 5) hx hb hts hinX6 hown hK hP 0 rfl rfl 0 (by decide) (hts (.fieldLink RX6 14 "TaleReader$ToldNames" "letters" "LTaleReader$Text;") (uc4 _ (List.mem_of_getElem? (i := 2) rfl))) (fun _ h9 => h9) rfl dX6_append_16 ?_
  have hPc := hP.sub (ws' := [(lt, .inr (5, [.ref la, .int (nI kl)]))]) [3] rfl
  have hDc := hD.sub (ws' := [(lt, .inr (5, [.ref la, .int (nI kl)]))]) [3] (by decide) rfl
  have hFc := va_free (wc := [(lt, .inr (5, [.ref la, .int (nI kl)]))]) hD hS hA [3] rfl
  refine va_calli (va_runV (As := []) (rest := [.int (nI M), .ref ta1]) ⟨hx, hb, hml, hown, hts⟩ (s_X5_size l D cB cI cZ E s.heap.size lt la (nI kl)) (cwV 0 hts (uV (uc31 _ (List.mem_of_getElem? (i := 13) rfl)) (uc7 _ (List.mem_of_getElem? (i := 22) rfl)) (uc7 _ (List.mem_of_getElem? (i := 23) rfl)) (uc1 _ (List.mem_of_getElem? (i := 14) rfl)) (uc8 _ (List.mem_of_getElem? (i := 0) rfl))) rfl rfl rfl (by decide +kernel) ⟨Nat.le_of_ble_eq_true rfl, Nat.le_of_ble_eq_true rfl⟩) (pVE hE hS hFc hK hPc hDc 0 rfl rfl) rfl rfl hl.1 rfl (lv_room (Nat.le_of_ble_eq_true rfl)) dX6_append_19 ⟨Nat.le_of_ble_eq_true rfl, Nat.le_of_ble_eq_true rfl⟩) hS (fun q _ h => hFc q h) hFc (fun r_2 u t H_3 L_4 ht hvm hw hB hz1 hk1 hS => ?_)
  obtain ⟨hP1, -, hD1⟩ := hB
  rw [ht] at hP1
  obtain ⟨hP, hD⟩ := va_join (wr := [(h0, .inr (6, [.ref lt, .ref ta1, .ref ta2, .ref ta3, .int (nI d)])), (ta1, .inl (cI, 8, .inl fd1)), (ta2, .inl (cI, 8, .inl fd2)), (la, .inl (cB, 80, .inl fl)), (h1, .inr (5, [.ref a1, .int (nI k1)])), (a1, .inl (cB, n1, .inl f1))]) (w1 := [(lt, .inr (5, [.ref la, .int (nI kl)]))]) hP hD [3] [0, 1, 2, 4, 5, 6] rfl rfl (by decide) (by decide) hk1 hFc hP1 hD1
  have hP : va_P D vwCl [(h0, .inr (6, [.ref lt, .ref ta1, .ref ta2, .ref ta3, .int (nI d)])), (ta1, .inl (cI, 8, .inl fd1)), (ta2, .inl (cI, 8, .inl fd2)), (lt, .inr (5, [.ref la, .int (nI kl)])), (la, .inl (cB, 80, .inl fl)), (h1, .inr (5, [.ref a1, .int (nI k1)])), (a1, .inl (cB, n1, .inl f1))] H_3 := hP.sub [0, 1, 2, 6, 3, 4, 5] rfl
  have hD : va_D A [(h0, .inr (6, [.ref lt, .ref ta1, .ref ta2, .ref ta3, .int (nI d)])), (ta1, .inl (cI, 8, .inl fd1)), (ta2, .inl (cI, 8, .inl fd2)), (lt, .inr (5, [.ref la, .int (nI kl)])), (la, .inl (cB, 80, .inl fl)), (h1, .inr (5, [.ref a1, .int (nI k1)])), (a1, .inl (cB, n1, .inl f1))] := hD.sub [0, 1, 2, 6, 3, 4, 5] (by decide) rfl
  try dsimp only at hw
  subst hw
  refine va_iast (D := D) hx hb hK hP hD hS 1 1 rfl rfl (vp_in_nI (by omega) (by omega)) dX6_append_22 (fun H_5 L_6 hP hD hS => ?_)
  obtain ⟨g_7, eg_7⟩ : ∃ gg : Nat → Int32, gg = upd fd1 ((nI M)).toNatClampNeg (nI kl) := ⟨_, rfl⟩
  have hP : va_P D vwCl [(h0, .inr (6, [.ref lt, .ref ta1, .ref ta2, .ref ta3, .int (nI d)])), (ta1, .inl (cI, 8, .inl g_7)), (ta2, .inl (cI, 8, .inl fd2)), (lt, .inr (5, [.ref la, .int (nI kl)])), (la, .inl (cB, 80, .inl fl)), (h1, .inr (5, [.ref a1, .int (nI k1)])), (a1, .inl (cB, n1, .inl f1))] H_5 := by rw [eg_7]; exact hP
  have hD : va_D A [(h0, .inr (6, [.ref lt, .ref ta1, .ref ta2, .ref ta3, .int (nI d)])), (ta1, .inl (cI, 8, .inl g_7)), (ta2, .inl (cI, 8, .inl fd2)), (lt, .inr (5, [.ref la, .int (nI kl)])), (la, .inl (cB, 80, .inl fl)), (h1, .inr (5, [.ref a1, .int (nI k1)])), (a1, .inl (cB, n1, .inl f1))] := by rw [eg_7]; exact hD
  refine lv_aload_n hx hb dX6_append_23 rfl (lv_at hl 1 rfl) ?_
  refine va_get (D := D) (ci := 6) (v := .ref ta2) (C := RX6) (T := TX6) (N := 5) hx hb hts hinX6 hown hK hP 0 rfl rfl 2 (by decide) (hts (.fieldLink RX6 24 "TaleReader$ToldNames" "lengths" "[I") (uc4 _ (List.mem_of_getElem? (i := 4) rfl))) (fun _ h9 => h9) rfl dX6_append_24 ?_
  refine lv_iload_n hx hb dX6_append_27 rfl (lv_at hl 0 rfl) ?_
  refine lv_aload_n hx hb dX6_append_28 rfl (lv_at hl 2 rfl) ?_
  have hPc := hP.sub (ws' := [(h1, .inr (5, [.ref a1, .int (nI k1)]))]) [5] rfl
  have hDc := hD.sub (ws' := [(h1, .inr (5, [.ref a1, .int (nI k1)]))]) [5] (by decide) rfl
  have hFc := va_free (wc := [(h1, .inr (5, [.ref a1, .int (nI k1)]))]) hD hS hA [5] rfl
  refine va_calli (va_runV (As := []) (rest := [.int (nI M), .ref ta2]) ⟨hx, hb, hml, hown, hts⟩ (s_X5_size l D cB cI cZ E H_5.size h1 a1 (nI k1)) (cwV 0 hts (uV (uc31 _ (List.mem_of_getElem? (i := 13) rfl)) (uc7 _ (List.mem_of_getElem? (i := 22) rfl)) (uc7 _ (List.mem_of_getElem? (i := 23) rfl)) (uc1 _ (List.mem_of_getElem? (i := 14) rfl)) (uc8 _ (List.mem_of_getElem? (i := 0) rfl))) rfl rfl rfl (by decide +kernel) ⟨Nat.le_of_ble_eq_true rfl, Nat.le_of_ble_eq_true rfl⟩) (pVE hE hS hFc hK hPc hDc 0 rfl rfl) rfl rfl hl.1 rfl (lv_room (Nat.le_of_ble_eq_true rfl)) dX6_append_29 ⟨Nat.le_of_ble_eq_true rfl, Nat.le_of_ble_eq_true rfl⟩) hS (fun q _ h => hFc q h) hFc (fun r_8 u t H_9 L_10 ht hvm hw hB hz1 hk1 hS => ?_)
  obtain ⟨hP1, -, hD1⟩ := hB
  rw [ht] at hP1
  obtain ⟨hP, hD⟩ := va_join (wr := [(h0, .inr (6, [.ref lt, .ref ta1, .ref ta2, .ref ta3, .int (nI d)])), (ta1, .inl (cI, 8, .inl g_7)), (ta2, .inl (cI, 8, .inl fd2)), (lt, .inr (5, [.ref la, .int (nI kl)])), (la, .inl (cB, 80, .inl fl)), (a1, .inl (cB, n1, .inl f1))]) (w1 := [(h1, .inr (5, [.ref a1, .int (nI k1)]))]) hP hD [5] [0, 1, 2, 3, 4, 6] rfl rfl (by decide) (by decide) hk1 hFc hP1 hD1
  have hP : va_P D vwCl [(h0, .inr (6, [.ref lt, .ref ta1, .ref ta2, .ref ta3, .int (nI d)])), (ta1, .inl (cI, 8, .inl g_7)), (ta2, .inl (cI, 8, .inl fd2)), (lt, .inr (5, [.ref la, .int (nI kl)])), (la, .inl (cB, 80, .inl fl)), (h1, .inr (5, [.ref a1, .int (nI k1)])), (a1, .inl (cB, n1, .inl f1))] H_9 := hP.sub [0, 1, 2, 3, 4, 6, 5] rfl
  have hD : va_D A [(h0, .inr (6, [.ref lt, .ref ta1, .ref ta2, .ref ta3, .int (nI d)])), (ta1, .inl (cI, 8, .inl g_7)), (ta2, .inl (cI, 8, .inl fd2)), (lt, .inr (5, [.ref la, .int (nI kl)])), (la, .inl (cB, 80, .inl fl)), (h1, .inr (5, [.ref a1, .int (nI k1)])), (a1, .inl (cB, n1, .inl f1))] := hD.sub [0, 1, 2, 3, 4, 6, 5] (by decide) rfl
  try dsimp only at hw
  subst hw
  refine va_iast (D := D) hx hb hK hP hD hS 2 1 rfl rfl (vp_in_nI (by omega) (by omega)) dX6_append_32 (fun H_11 L_12 hP hD hS => ?_)
  obtain ⟨g_13, eg_13⟩ : ∃ gg : Nat → Int32, gg = upd fd2 ((nI M)).toNatClampNeg (nI k1) := ⟨_, rfl⟩
  have hP : va_P D vwCl [(h0, .inr (6, [.ref lt, .ref ta1, .ref ta2, .ref ta3, .int (nI d)])), (ta1, .inl (cI, 8, .inl g_7)), (ta2, .inl (cI, 8, .inl g_13)), (lt, .inr (5, [.ref la, .int (nI kl)])), (la, .inl (cB, 80, .inl fl)), (h1, .inr (5, [.ref a1, .int (nI k1)])), (a1, .inl (cB, n1, .inl f1))] H_11 := by rw [eg_13]; exact hP
  have hD : va_D A [(h0, .inr (6, [.ref lt, .ref ta1, .ref ta2, .ref ta3, .int (nI d)])), (ta1, .inl (cI, 8, .inl g_7)), (ta2, .inl (cI, 8, .inl g_13)), (lt, .inr (5, [.ref la, .int (nI kl)])), (la, .inl (cB, 80, .inl fl)), (h1, .inr (5, [.ref a1, .int (nI k1)])), (a1, .inl (cB, n1, .inl f1))] := by rw [eg_13]; exact hD
  refine lv_aload_n hx hb dX6_append_33 rfl (lv_at hl 1 rfl) ?_
  refine va_get (D := D) (ci := 6) (v := .ref lt) (C := RX6) (T := TX6) (N := 5) hx hb hts hinX6 hown hK hP 0 rfl rfl 0 (by decide) (hts (.fieldLink RX6 14 "TaleReader$ToldNames" "letters" "LTaleReader$Text;") (uc4 _ (List.mem_of_getElem? (i := 2) rfl))) (fun _ h9 => h9) rfl dX6_append_34 ?_
  refine lv_aload_n hx hb dX6_append_37 rfl (lv_at hl 2 rfl) ?_
  have hPc := hP.sub (ws' := [(lt, .inr (5, [.ref la, .int (nI kl)])), (la, .inl (cB, 80, .inl fl)), (h1, .inr (5, [.ref a1, .int (nI k1)])), (a1, .inl (cB, n1, .inl f1))]) [3, 4, 5, 6] rfl
  have hDc := hD.sub (ws' := [(lt, .inr (5, [.ref la, .int (nI kl)])), (la, .inl (cB, 80, .inl fl)), (h1, .inr (5, [.ref a1, .int (nI k1)])), (a1, .inl (cB, n1, .inl f1))]) [3, 4, 5, 6] (by decide) rfl
  have hFc := va_free (wc := [(lt, .inr (5, [.ref la, .int (nI kl)])), (la, .inl (cB, 80, .inl fl)), (h1, .inr (5, [.ref a1, .int (nI k1)])), (a1, .inl (cB, n1, .inl f1))]) hD hS hA [3, 4, 5, 6] rfl
  refine va_callv (va_runV (As := [.ref h1]) (rest := []) ⟨hx, hb, hml, hown, hts⟩ (s_X5_addAll l D cB cI cZ E H_11.size lt la 80 kl fl h1 a1 n1 k1 f1 (by first | assumption | omega) (by first | assumption | omega) (by first | assumption | omega) (by first | assumption | omega)) (cwV 1 hts (uV (uc31 _ (List.mem_of_getElem? (i := 22) rfl)) (uc9 _ (List.mem_of_getElem? (i := 18) rfl)) (uc9 _ (List.mem_of_getElem? (i := 19) rfl)) (uc1 _ (List.mem_of_getElem? (i := 14) rfl)) (uc9 _ (List.mem_of_getElem? (i := 20) rfl))) rfl rfl rfl (by decide +kernel) ⟨Nat.le_of_ble_eq_true rfl, Nat.le_of_ble_eq_true rfl⟩) (pVE hE hS hFc hK hPc hDc 0 rfl rfl) rfl rfl hl.1 rfl (lv_room (Nat.le_of_ble_eq_true rfl)) dX6_append_38 ⟨Nat.le_of_ble_eq_true rfl, Nat.le_of_ble_eq_true rfl⟩) hS (fun q _ h => hFc q h) hFc (fun u t H_15 L_16 ht hvm hw hB hz1 hk1 hS => ?_)
  obtain ⟨k_17, f_18⟩ := u
  obtain ⟨hP1, -, hD1⟩ := hB
  rw [ht] at hP1
  obtain ⟨hP, hD⟩ := va_join (wr := [(h0, .inr (6, [.ref lt, .ref ta1, .ref ta2, .ref ta3, .int (nI d)])), (ta1, .inl (cI, 8, .inl g_7)), (ta2, .inl (cI, 8, .inl g_13))]) (w1 := [(lt, .inr (5, [.ref la, .int (nI k_17)])), (la, .inl (cB, 80, .inl f_18)), (h1, .inr (5, [.ref a1, .int (nI k1)])), (a1, .inl (cB, n1, .inl f1))]) hP hD [3, 4, 5, 6] [0, 1, 2] rfl rfl (by decide) (by decide) hk1 hFc hP1 hD1
  have hP : va_P D vwCl [(h0, .inr (6, [.ref lt, .ref ta1, .ref ta2, .ref ta3, .int (nI d)])), (ta1, .inl (cI, 8, .inl g_7)), (ta2, .inl (cI, 8, .inl g_13)), (lt, .inr (5, [.ref la, .int (nI k_17)])), (la, .inl (cB, 80, .inl f_18)), (h1, .inr (5, [.ref a1, .int (nI k1)])), (a1, .inl (cB, n1, .inl f1))] H_15 := hP.sub [0, 1, 2, 3, 4, 5, 6] rfl
  have hD : va_D A [(h0, .inr (6, [.ref lt, .ref ta1, .ref ta2, .ref ta3, .int (nI d)])), (ta1, .inl (cI, 8, .inl g_7)), (ta2, .inl (cI, 8, .inl g_13)), (lt, .inr (5, [.ref la, .int (nI k_17)])), (la, .inl (cB, 80, .inl f_18)), (h1, .inr (5, [.ref a1, .int (nI k1)])), (a1, .inl (cB, n1, .inl f1))] := hD.sub [0, 1, 2, 3, 4, 5, 6] (by decide) rfl
  try dsimp only at hw
  have h_19 := hw
  refine lv_aload_n hx hb dX6_append_41 rfl (lv_at hl 1 rfl) ?_
  refine lv_iload_n hx hb dX6_append_42 rfl (lv_at hl 0 rfl) ?_
  refine lv_iconst (v := 1) hx hb dX6_append_43 (by decide) ?_
  refine lv_iadd hx hb dX6_append_44 ?_
  refine lv_topi (fun z_20 ez_20 => ?_)
  obtain rfl : z_20 = nI (M + 1) := ez_20.trans (nI_add M 1)
  refine va_put (D := D) (ci := 6) (v := .int (nI (M + 1))) (ty := .int) (C := RX6) (T := TX6) (N := 5) hx hb hts hinX6 tyX6 tyX6_ok nmX6 hown hK hP hD hS 0 rfl rfl 4 (by decide) (hts (.fieldLink RX6 30 "TaleReader$ToldNames" "count" "I") (uc4 _ (List.mem_of_getElem? (i := 6) rfl))) (fun _ h9 => h9) rfl (by decide +kernel) rfl rfl (Nat.le_of_ble_eq_true rfl) dX6_append_45 (fun H_21 L_22 hP hD hS => ?_)
  have hP : va_P D vwCl [(h0, .inr (6, [.ref lt, .ref ta1, .ref ta2, .ref ta3, .int (nI (M + 1))])), (ta1, .inl (cI, 8, .inl g_7)), (ta2, .inl (cI, 8, .inl g_13)), (lt, .inr (5, [.ref la, .int (nI k_17)])), (la, .inl (cB, 80, .inl f_18)), (h1, .inr (5, [.ref a1, .int (nI k1)])), (a1, .inl (cB, n1, .inl f1))] H_21 := hP
  have hD : va_D A [(h0, .inr (6, [.ref lt, .ref ta1, .ref ta2, .ref ta3, .int (nI (M + 1))])), (ta1, .inl (cI, 8, .inl g_7)), (ta2, .inl (cI, 8, .inl g_13)), (lt, .inr (5, [.ref la, .int (nI k_17)])), (la, .inl (cB, 80, .inl f_18)), (h1, .inr (5, [.ref a1, .int (nI k1)])), (a1, .inl (cB, n1, .inl f1))] := hD
  refine lv_iload_n hx hb dX6_append_48 rfl (lv_at hl 0 rfl) ?_
  have hP9 := hP.sub (ws' := [(h0, .inr (6, [.ref lt, .ref ta1, .ref ta2, .ref ta3, .int (nI (M + 1))])), (ta1, .inl (cI, 8, .inl g_7)), (ta2, .inl (cI, 8, .inl g_13)), (lt, .inr (5, [.ref la, .int (nI k_17)])), (la, .inl (cB, 80, .inl f_18)), (h1, .inr (5, [.ref a1, .int (nI k1)])), (a1, .inl (cB, n1, .inl f1))]) [0, 1, 2, 3, 4, 5, 6] rfl
  have hD9 := hD.sub (ws' := [(h0, .inr (6, [.ref lt, .ref ta1, .ref ta2, .ref ta3, .int (nI (M + 1))])), (ta1, .inl (cI, 8, .inl g_7)), (ta2, .inl (cI, 8, .inl g_13)), (lt, .inr (5, [.ref la, .int (nI k_17)])), (la, .inl (cB, 80, .inl f_18)), (h1, .inr (5, [.ref a1, .int (nI k1)])), (a1, .inl (cB, n1, .inl f1))]) [0, 1, 2, 3, 4, 5, 6] (by decide) rfl
  exact W.iret (v := nI M) hx hb hr (fun t ht hW => ⟨⟨nI M, (M + 1, g_7, g_13, k_17, f_18), rfl, ⟨by omega, by omega, ⟨M, by omega, rfl⟩⟩, ⟨by rw [ht]; exact hP9, va_K.moved hW.alike hK, hD9⟩⟩, hS.F ht⟩) hS.2.2 dX6_append_49
set_option maxHeartbeats 4000000 in
set_option maxRecDepth 100000 in
theorem s_X6_take (l : Launch) (D : va_G) (cB cI cZ : ClassId) (E : pEt) (sz : Nat) (h0 : Nat) (h1 : Nat) (x : Int32) (lt : Nat) (ta1 : Nat) (ta2 : Nat) (ta3 : Nat) (d : Nat) (fd1 : Nat → Int32) (fd2 : Nat → Int32) (la : Nat) (kl : Nat) (fl : Nat → Int32) (fd3 : Nat → Int32) (a1 : Nat) (k1 : Nat) (n1 : Nat) (f1 : Nat → Int32) (hd : d ≤ 8) (hkl : kl ≤ 80) (hk1 : k1 ≤ n1) (hn1 : n1 ≤ 600) : Met l yX6_take (.code yX6_take cX6_take 6 (some .boolean) :: wsL_law) ({ frames := 7, cells := 0, slots := 0, locals := 158 } : Room) (va_Pc [.ref h0, .ref h1, .int x] (pInE E D (pT cB cI cZ) sz [(h0, .inr (6, [.ref lt, .ref ta1, .ref ta2, .ref ta3, .int (nI d)])), (ta1, .inl (cI, 8, .inl fd1)), (ta2, .inl (cI, 8, .inl fd2)), (lt, .inr (5, [.ref la, .int (nI kl)])), (la, .inl (cB, 80, .inl fl)), (ta3, .inl (cI, 8, .inl fd3)), (h1, .inr (5, [.ref a1, .int (nI k1)])), (a1, .inl (cB, n1, .inl f1))])) (va_Qi (fun (r : Int32) (u : Nat × (Nat → Int32) × (Nat → Int32) × (Nat → Int32) × Nat × (Nat → Int32)) => ((0 = r) ∧ (u.1 ≤ 8) ∧ (u.2.2.2.2.1 ≤ 80)) ∨ ((1 = r) ∧ (u.1 ≤ 8) ∧ (u.2.2.2.2.1 ≤ 80))) (fun (u : Nat × (Nat → Int32) × (Nat → Int32) × (Nat → Int32) × Nat × (Nat → Int32)) (t : State) => pAt D (pT cB cI cZ) (va_A [(h0, .inr (6, [.ref lt, .ref ta1, .ref ta2, .ref ta3, .int (nI d)])), (ta1, .inl (cI, 8, .inl fd1)), (ta2, .inl (cI, 8, .inl fd2)), (lt, .inr (5, [.ref la, .int (nI kl)])), (la, .inl (cB, 80, .inl fl)), (ta3, .inl (cI, 8, .inl fd3)), (h1, .inr (5, [.ref a1, .int (nI k1)])), (a1, .inl (cB, n1, .inl f1))] sz) [(h0, .inr (6, [.ref lt, .ref ta1, .ref ta2, .ref ta3, .int (nI u.1)])), (ta1, .inl (cI, 8, .inl u.2.1)), (ta2, .inl (cI, 8, .inl u.2.2.1)), (lt, .inr (5, [.ref la, .int (nI u.2.2.2.2.1)])), (la, .inl (cB, 80, .inl u.2.2.2.2.2)), (ta3, .inl (cI, 8, .inl u.2.2.2.1)), (h1, .inr (5, [.ref a1, .int (nI k1)])), (a1, .inl (cB, n1, .inl f1))] t) (va_A [(h0, .inr (6, [.ref lt, .ref ta1, .ref ta2, .ref ta3, .int (nI d)])), (ta1, .inl (cI, 8, .inl fd1)), (ta2, .inl (cI, 8, .inl fd2)), (lt, .inr (5, [.ref la, .int (nI kl)])), (la, .inl (cB, 80, .inl fl)), (ta3, .inl (cI, 8, .inl fd3)), (h1, .inr (5, [.ref a1, .int (nI k1)])), (a1, .inl (cB, n1, .inl f1))] sz)) 0 0 (va_A [(h0, .inr (6, [.ref lt, .ref ta1, .ref ta2, .ref ta3, .int (nI d)])), (ta1, .inl (cI, 8, .inl fd1)), (ta2, .inl (cI, 8, .inl fd2)), (lt, .inr (5, [.ref la, .int (nI kl)])), (la, .inl (cB, 80, .inl fl)), (ta3, .inl (cI, 8, .inl fd3)), (h1, .inr (5, [.ref a1, .int (nI k1)])), (a1, .inl (cB, n1, .inl f1))] sz) := by
  refine Met.ofW (cc := cX6_take) (maxL := 6) (ret := (some .boolean)) (by decide) rfl ?_
  intro p e s m args below meth cd s₁ B hml hv
  obtain ⟨rfl, hsz, hP, hK, hD0, hE⟩ := hv
  have hx := B.exec
  have hb := B.bytes
  have hr := B.returns
  have hts0 := atoms_spec (ws := .code yX6_take cX6_take 6 (some .boolean) :: wsL_law) B.pre
  have hts := fun (w : Cond) (h : w ∈ wsL_law) => hts0 w (List.mem_cons_of_mem _ h)
  have hown : s.vm.findClass RX6 = some m.cls := findClass_of_methodNamed B.named
  have hlocks := B.notSynchronized
  have hinX6 := inlX6
  subst hsz
  have hD := hD0.self (sz := s.heap.size)
  generalize hAe : va_A [(h0, .inr (6, [.ref lt, .ref ta1, .ref ta2, .ref ta3, .int (nI d)])), (ta1, .inl (cI, 8, .inl fd1)), (ta2, .inl (cI, 8, .inl fd2)), (lt, .inr (5, [.ref la, .int (nI kl)])), (la, .inl (cB, 80, .inl fl)), (ta3, .inl (cI, 8, .inl fd3)), (h1, .inr (5, [.ref a1, .int (nI k1)])), (a1, .inl (cB, n1, .inl f1))] s.heap.size = A at hD hE ⊢
  have hA : ∀ q : Nat, s.heap.size ≤ q → A q := fun q h => by rw [← hAe]; exact Or.inr h
  have hS : va_S A s.heap s.heap [] := va_S.rf
  have hP : va_P D vwCl [(h0, .inr (6, [.ref lt, .ref ta1, .ref ta2, .ref ta3, .int (nI d)])), (ta1, .inl (cI, 8, .inl fd1)), (ta2, .inl (cI, 8, .inl fd2)), (lt, .inr (5, [.ref la, .int (nI kl)])), (la, .inl (cB, 80, .inl fl)), (ta3, .inl (cI, 8, .inl fd3)), (h1, .inr (5, [.ref a1, .int (nI k1)])), (a1, .inl (cB, n1, .inl f1))] s.heap := hP
  have hl := lv_entry ([.ref h0, .ref h1, .int x]) (n := 6) (Nat.le_of_ble_eq_true rfl)
  rw [lg_entry_eq]
  generalize (lg_sl ([.ref h0, .ref h1, .int x]) ++ List.replicate (6 - (lg_sl ([.ref h0, .ref h1, .int x])).length) Slot.unset).toArray = ls at hl ⊢
  have hl : lv_has ls 6 [(0, .ref h0), (1, .ref h1), (2, .int x)] := hl
  generalize hQ : MQ below _ _ _ _ _ _ = Q
  have join_1 : ∀ (z5 : Int32) (dd : Nat) (kk : Nat) (g1 : Nat → Int32) (g2 : Nat → Int32) (gl : Nat → Int32) (H : Heap) (locs : List Loc) (ls : Array Slot), (dd ≤ 8) → (kk ≤ 80) → (vp_in z5 8) → va_P D vwCl [(h0, .inr (6, [.ref lt, .ref ta1, .ref ta2, .ref ta3, .int (nI dd)])), (ta1, .inl (cI, 8, .inl g1)), (ta2, .inl (cI, 8, .inl g2)), (lt, .inr (5, [.ref la, .int (nI kk)])), (la, .inl (cB, 80, .inl gl)), (ta3, .inl (cI, 8, .inl fd3)), (h1, .inr (5, [.ref a1, .int (nI k1)])), (a1, .inl (cB, n1, .inl f1))] H → va_D A [(h0, .inr (6, [.ref lt, .ref ta1, .ref ta2, .ref ta3, .int (nI dd)])), (ta1, .inl (cI, 8, .inl g1)), (ta2, .inl (cI, 8, .inl g2)), (lt, .inr (5, [.ref la, .int (nI kk)])), (la, .inl (cB, 80, .inl gl)), (ta3, .inl (cI, 8, .inl fd3)), (h1, .inr (5, [.ref a1, .int (nI k1)])), (a1, .inl (cB, n1, .inl f1))] → va_S A s.heap H locs → lv_has ls 6 [(0, .ref h0), (1, .ref h1), (2, .int x), (5, .int z5)] → W p l e ({ frames := 7, cells := 0, slots := 0, locals := 158 } : Room) s m ([.ref h0, .ref h1, .int x] : List Value).toArray below meth cd H locs 0 0 Q (F0 m 80 ls []) := by
    intro z5 dd kk g1 g2 gl H locs ls hdd hkk hz5 hP hD hS hl
    refine lv_aload_n hx hb dX6_take_80 rfl (lv_at hl 0 rfl) ?_
    refine va_get (D := D) (ci := 6) (v := .ref ta3) (C := RX6) (T := TX6) (N := 5) hx hb hts hinX6 hown hK hP 0 rfl rfl 3 (by decide) (hts (.fieldLink RX6 27 "TaleReader$ToldNames" "sexes" "[I") (uc4 _ (List.mem_of_getElem? (i := 5) rfl))) (fun _ h9 => h9) rfl dX6_take_81 ?_
    refine lv_iload hx hb dX6_take_84 (lv_at hl 3 rfl) ?_
    refine lv_iload_n hx hb dX6_take_86 rfl (lv_at hl 2 rfl) ?_
    refine va_iast (D := D) hx hb hK hP hD hS 5 1 rfl rfl (by first | assumption | exact pIxc (by assumption) (by assumption) (by omega) (by omega)) dX6_take_87 (fun H_2 L_3 hP hD hS => ?_)
    obtain ⟨g_4, eg_4⟩ : ∃ gg : Nat → Int32, gg = upd fd3 (z5).toNatClampNeg x := ⟨_, rfl⟩
    have hP : va_P D vwCl [(h0, .inr (6, [.ref lt, .ref ta1, .ref ta2, .ref ta3, .int (nI dd)])), (ta1, .inl (cI, 8, .inl g1)), (ta2, .inl (cI, 8, .inl g2)), (lt, .inr (5, [.ref la, .int (nI kk)])), (la, .inl (cB, 80, .inl gl)), (ta3, .inl (cI, 8, .inl g_4)), (h1, .inr (5, [.ref a1, .int (nI k1)])), (a1, .inl (cB, n1, .inl f1))] H_2 := by rw [eg_4]; exact hP
    have hD : va_D A [(h0, .inr (6, [.ref lt, .ref ta1, .ref ta2, .ref ta3, .int (nI dd)])), (ta1, .inl (cI, 8, .inl g1)), (ta2, .inl (cI, 8, .inl g2)), (lt, .inr (5, [.ref la, .int (nI kk)])), (la, .inl (cB, 80, .inl gl)), (ta3, .inl (cI, 8, .inl g_4)), (h1, .inr (5, [.ref a1, .int (nI k1)])), (a1, .inl (cB, n1, .inl f1))] := by rw [eg_4]; exact hD
    refine lv_iconst (v := 1) hx hb dX6_take_88 (by decide) ?_
    have hP9 := hP.sub (ws' := [(h0, .inr (6, [.ref lt, .ref ta1, .ref ta2, .ref ta3, .int (nI dd)])), (ta1, .inl (cI, 8, .inl g1)), (ta2, .inl (cI, 8, .inl g2)), (lt, .inr (5, [.ref la, .int (nI kk)])), (la, .inl (cB, 80, .inl gl)), (ta3, .inl (cI, 8, .inl g_4)), (h1, .inr (5, [.ref a1, .int (nI k1)])), (a1, .inl (cB, n1, .inl f1))]) [0, 1, 2, 3, 4, 5, 6, 7] rfl
    have hD9 := hD.sub (ws' := [(h0, .inr (6, [.ref lt, .ref ta1, .ref ta2, .ref ta3, .int (nI dd)])), (ta1, .inl (cI, 8, .inl g1)), (ta2, .inl (cI, 8, .inl g2)), (lt, .inr (5, [.ref la, .int (nI kk)])), (la, .inl (cB, 80, .inl gl)), (ta3, .inl (cI, 8, .inl g_4)), (h1, .inr (5, [.ref a1, .int (nI k1)])), (a1, .inl (cB, n1, .inl f1))]) [0, 1, 2, 3, 4, 5, 6, 7] (by decide) rfl
    rw [← hQ]
    exact W.zret (v := 1) hx hb hr (rfl) (fun t ht hW => ⟨⟨1, (dd, g1, g2, g_4, kk, gl), rfl, Or.inr ((⟨rfl, by first | assumption | rfl | omega, by first | assumption | rfl | omega⟩)), ⟨by rw [ht]; exact hP9, va_K.moved hW.alike hK, hD9⟩⟩, hS.F ht⟩) hS.2.2 dX6_take_89
  refine lv_aload_n hx hb dX6_take_0 rfl (lv_at hl 1 rfl) ?_
  have hPc := hP.sub (ws' := [(h1, .inr (5, [.ref a1, .int (nI k1)]))]) [6] rfl
  have hDc := hD.sub (ws' := [(h1, .inr (5, [.ref a1, .int (nI k1)]))]) [6] (by decide) rfl
  have hFc := va_free (wc := [(h1, .inr (5, [.ref a1, .int (nI k1)]))]) hD hS hA [6] rfl
  refine va_calli (va_runV (As := []) (rest := []) ⟨hx, hb, hml, hown, hts⟩ (s_X5_size l D cB cI cZ E s.heap.size h1 a1 (nI k1)) (cwV 0 hts (uV (uc31 _ (List.mem_of_getElem? (i := 13) rfl)) (uc7 _ (List.mem_of_getElem? (i := 22) rfl)) (uc7 _ (List.mem_of_getElem? (i := 23) rfl)) (uc1 _ (List.mem_of_getElem? (i := 14) rfl)) (uc8 _ (List.mem_of_getElem? (i := 0) rfl))) rfl rfl rfl (by decide +kernel) ⟨Nat.le_of_ble_eq_true rfl, Nat.le_of_ble_eq_true rfl⟩) (pVE hE hS hFc hK hPc hDc 0 rfl rfl) rfl rfl hl.1 rfl (lv_room (Nat.le_of_ble_eq_true rfl)) dX6_take_1 ⟨Nat.le_of_ble_eq_true rfl, Nat.le_of_ble_eq_true rfl⟩) hS (fun q _ h => hFc q h) hFc (fun r_5 u t H_6 L_7 ht hvm hw hB hz1 hk1 hS => ?_)
  obtain ⟨hP1, -, hD1⟩ := hB
  rw [ht] at hP1
  obtain ⟨hP, hD⟩ := va_join (wr := [(h0, .inr (6, [.ref lt, .ref ta1, .ref ta2, .ref ta3, .int (nI d)])), (ta1, .inl (cI, 8, .inl fd1)), (ta2, .inl (cI, 8, .inl fd2)), (lt, .inr (5, [.ref la, .int (nI kl)])), (la, .inl (cB, 80, .inl fl)), (ta3, .inl (cI, 8, .inl fd3)), (a1, .inl (cB, n1, .inl f1))]) (w1 := [(h1, .inr (5, [.ref a1, .int (nI k1)]))]) hP hD [6] [0, 1, 2, 3, 4, 5, 7] rfl rfl (by decide) (by decide) hk1 hFc hP1 hD1
  have hP : va_P D vwCl [(h0, .inr (6, [.ref lt, .ref ta1, .ref ta2, .ref ta3, .int (nI d)])), (ta1, .inl (cI, 8, .inl fd1)), (ta2, .inl (cI, 8, .inl fd2)), (lt, .inr (5, [.ref la, .int (nI kl)])), (la, .inl (cB, 80, .inl fl)), (ta3, .inl (cI, 8, .inl fd3)), (h1, .inr (5, [.ref a1, .int (nI k1)])), (a1, .inl (cB, n1, .inl f1))] H_6 := hP.sub [0, 1, 2, 3, 4, 5, 7, 6] rfl
  have hD : va_D A [(h0, .inr (6, [.ref lt, .ref ta1, .ref ta2, .ref ta3, .int (nI d)])), (ta1, .inl (cI, 8, .inl fd1)), (ta2, .inl (cI, 8, .inl fd2)), (lt, .inr (5, [.ref la, .int (nI kl)])), (la, .inl (cB, 80, .inl fl)), (ta3, .inl (cI, 8, .inl fd3)), (h1, .inr (5, [.ref a1, .int (nI k1)])), (a1, .inl (cB, n1, .inl f1))] := hD.sub [0, 1, 2, 3, 4, 5, 7, 6] (by decide) rfl
  try dsimp only at hw
  subst hw
  refine lv_istore_n (lv' := [(3, .int (nI k1)), (0, .ref h0), (1, .ref h1), (2, .int x)]) hx hb dX6_take_4 rfl hl (by decide) rfl (fun ls hl => ?_)
  refine lv_aload_n hx hb dX6_take_5 rfl (lv_at hl 2 rfl) ?_
  refine lv_iconst (v := 0) hx hb dX6_take_6 (by decide) ?_
  refine lv_iload_n hx hb dX6_take_7 rfl (lv_at hl 0 rfl) ?_
  have hPc := hP.sub (ws' := [(h1, .inr (5, [.ref a1, .int (nI k1)])), (a1, .inl (cB, n1, .inl f1))]) [6, 7] rfl
  have hDc := hD.sub (ws' := [(h1, .inr (5, [.ref a1, .int (nI k1)])), (a1, .inl (cB, n1, .inl f1))]) [6, 7] (by decide) rfl
  have hFc := va_free (wc := [(h1, .inr (5, [.ref a1, .int (nI k1)])), (a1, .inl (cB, n1, .inl f1))]) hD hS hA [6, 7] rfl
  refine va_calli (va_runV (As := [.int 0, .int (nI k1)]) (rest := []) ⟨hx, hb, hml, hown, hts⟩ (s_X5_looksLikeName l D cB cI cZ E H_6.size h1 a1 n1 k1 f1 0 (nI k1) (by first | assumption | omega) (by first | assumption | omega)) (cwV 2 hts (uV (uc31 _ (List.mem_of_getElem? (i := 14) rfl)) (uc14 _ (List.mem_of_getElem? (i := 14) rfl)) (uc14 _ (List.mem_of_getElem? (i := 15) rfl)) (uc1 _ (List.mem_of_getElem? (i := 14) rfl)) (uc14 _ (List.mem_of_getElem? (i := 16) rfl))) rfl rfl rfl (by decide +kernel) ⟨Nat.le_of_ble_eq_true rfl, Nat.le_of_ble_eq_true rfl⟩) (pVE hE hS hFc hK hPc hDc 0 rfl rfl) rfl rfl hl.1 rfl (lv_room (Nat.le_of_ble_eq_true rfl)) dX6_take_8 ⟨Nat.le_of_ble_eq_true rfl, Nat.le_of_ble_eq_true rfl⟩) hS (fun q _ h => hFc q h) hFc (fun r_8 u t H_9 L_10 ht hvm hw hB hz1 hk1 hS => ?_)
  obtain ⟨hP1, -, hD1⟩ := hB
  rw [ht] at hP1
  obtain ⟨hP, hD⟩ := va_join (wr := [(h0, .inr (6, [.ref lt, .ref ta1, .ref ta2, .ref ta3, .int (nI d)])), (ta1, .inl (cI, 8, .inl fd1)), (ta2, .inl (cI, 8, .inl fd2)), (lt, .inr (5, [.ref la, .int (nI kl)])), (la, .inl (cB, 80, .inl fl)), (ta3, .inl (cI, 8, .inl fd3))]) (w1 := [(h1, .inr (5, [.ref a1, .int (nI k1)])), (a1, .inl (cB, n1, .inl f1))]) hP hD [6, 7] [0, 1, 2, 3, 4, 5] rfl rfl (by decide) (by decide) hk1 hFc hP1 hD1
  have hP : va_P D vwCl [(h0, .inr (6, [.ref lt, .ref ta1, .ref ta2, .ref ta3, .int (nI d)])), (ta1, .inl (cI, 8, .inl fd1)), (ta2, .inl (cI, 8, .inl fd2)), (lt, .inr (5, [.ref la, .int (nI kl)])), (la, .inl (cB, 80, .inl fl)), (ta3, .inl (cI, 8, .inl fd3)), (h1, .inr (5, [.ref a1, .int (nI k1)])), (a1, .inl (cB, n1, .inl f1))] H_9 := hP.sub [0, 1, 2, 3, 4, 5, 6, 7] rfl
  have hD : va_D A [(h0, .inr (6, [.ref lt, .ref ta1, .ref ta2, .ref ta3, .int (nI d)])), (ta1, .inl (cI, 8, .inl fd1)), (ta2, .inl (cI, 8, .inl fd2)), (lt, .inr (5, [.ref la, .int (nI kl)])), (la, .inl (cB, 80, .inl fl)), (ta3, .inl (cI, 8, .inl fd3)), (h1, .inr (5, [.ref a1, .int (nI k1)])), (a1, .inl (cB, n1, .inl f1))] := hD.sub [0, 1, 2, 3, 4, 5, 6, 7] (by decide) rfl
  try dsimp only at hw
  refine lv_if_eq (tgt := 23) hx hb dX6_take_11 (by decide) (fun c_11 => ?_) (fun c_11 => ?_)
  · refine lv_iconst (v := 0) hx hb dX6_take_23 (by decide) ?_
    have hP9 := hP.sub (ws' := [(h0, .inr (6, [.ref lt, .ref ta1, .ref ta2, .ref ta3, .int (nI d)])), (ta1, .inl (cI, 8, .inl fd1)), (ta2, .inl (cI, 8, .inl fd2)), (lt, .inr (5, [.ref la, .int (nI kl)])), (la, .inl (cB, 80, .inl fl)), (ta3, .inl (cI, 8, .inl fd3)), (h1, .inr (5, [.ref a1, .int (nI k1)])), (a1, .inl (cB, n1, .inl f1))]) [0, 1, 2, 3, 4, 5, 6, 7] rfl
    have hD9 := hD.sub (ws' := [(h0, .inr (6, [.ref lt, .ref ta1, .ref ta2, .ref ta3, .int (nI d)])), (ta1, .inl (cI, 8, .inl fd1)), (ta2, .inl (cI, 8, .inl fd2)), (lt, .inr (5, [.ref la, .int (nI kl)])), (la, .inl (cB, 80, .inl fl)), (ta3, .inl (cI, 8, .inl fd3)), (h1, .inr (5, [.ref a1, .int (nI k1)])), (a1, .inl (cB, n1, .inl f1))]) [0, 1, 2, 3, 4, 5, 6, 7] (by decide) rfl
    rw [← hQ]
    exact W.zret (v := 0) hx hb hr (rfl) (fun t ht hW => ⟨⟨0, (d, fd1, fd2, fd3, kl, fl), rfl, Or.inl (⟨rfl, by first | assumption | rfl | omega, by first | assumption | rfl | omega⟩), ⟨by rw [ht]; exact hP9, va_K.moved hW.alike hK, hD9⟩⟩, hS.F ht⟩) hS.2.2 dX6_take_24
  · refine lv_aload_n hx hb dX6_take_14 rfl (lv_at hl 2 rfl) ?_
    refine lv_iconst (v := 0) hx hb dX6_take_15 (by decide) ?_
    refine lv_iload_n hx hb dX6_take_16 rfl (lv_at hl 0 rfl) ?_
    have hPc := hP.sub (ws' := [(h1, .inr (5, [.ref a1, .int (nI k1)])), (a1, .inl (cB, n1, .inl f1))]) [6, 7] rfl
    have hDc := hD.sub (ws' := [(h1, .inr (5, [.ref a1, .int (nI k1)])), (a1, .inl (cB, n1, .inl f1))]) [6, 7] (by decide) rfl
    have hFc := va_free (wc := [(h1, .inr (5, [.ref a1, .int (nI k1)])), (a1, .inl (cB, n1, .inl f1))]) hD hS hA [6, 7] rfl
    refine va_calli (va_runV (As := [.int 0, .int (nI k1)]) (rest := []) ⟨hx, hb, hml, hown, hts⟩ (s_X5_heWordSex l D cB cI cZ E H_9.size h1 a1 n1 k1 f1 0 (nI k1) (by first | assumption | omega) (by first | assumption | omega)) (cwV 2 hts (uV (uc31 _ (List.mem_of_getElem? (i := 15) rfl)) (uc11 _ (List.mem_of_getElem? (i := 17) rfl)) (uc11 _ (List.mem_of_getElem? (i := 18) rfl)) (uc1 _ (List.mem_of_getElem? (i := 14) rfl)) (uc11 _ (List.mem_of_getElem? (i := 19) rfl))) rfl rfl rfl (by decide +kernel) ⟨Nat.le_of_ble_eq_true rfl, Nat.le_of_ble_eq_true rfl⟩) (pVE hE hS hFc hK hPc hDc 0 rfl rfl) rfl rfl hl.1 rfl (lv_room (Nat.le_of_ble_eq_true rfl)) dX6_take_17 ⟨Nat.le_of_ble_eq_true rfl, Nat.le_of_ble_eq_true rfl⟩) hS (fun q _ h => hFc q h) hFc (fun r_12 u t H_13 L_14 ht hvm hw hB hz1 hk1 hS => ?_)
    obtain ⟨hP1, -, hD1⟩ := hB
    rw [ht] at hP1
    obtain ⟨hP, hD⟩ := va_join (wr := [(h0, .inr (6, [.ref lt, .ref ta1, .ref ta2, .ref ta3, .int (nI d)])), (ta1, .inl (cI, 8, .inl fd1)), (ta2, .inl (cI, 8, .inl fd2)), (lt, .inr (5, [.ref la, .int (nI kl)])), (la, .inl (cB, 80, .inl fl)), (ta3, .inl (cI, 8, .inl fd3))]) (w1 := [(h1, .inr (5, [.ref a1, .int (nI k1)])), (a1, .inl (cB, n1, .inl f1))]) hP hD [6, 7] [0, 1, 2, 3, 4, 5] rfl rfl (by decide) (by decide) hk1 hFc hP1 hD1
    have hP : va_P D vwCl [(h0, .inr (6, [.ref lt, .ref ta1, .ref ta2, .ref ta3, .int (nI d)])), (ta1, .inl (cI, 8, .inl fd1)), (ta2, .inl (cI, 8, .inl fd2)), (lt, .inr (5, [.ref la, .int (nI kl)])), (la, .inl (cB, 80, .inl fl)), (ta3, .inl (cI, 8, .inl fd3)), (h1, .inr (5, [.ref a1, .int (nI k1)])), (a1, .inl (cB, n1, .inl f1))] H_13 := hP.sub [0, 1, 2, 3, 4, 5, 6, 7] rfl
    have hD : va_D A [(h0, .inr (6, [.ref lt, .ref ta1, .ref ta2, .ref ta3, .int (nI d)])), (ta1, .inl (cI, 8, .inl fd1)), (ta2, .inl (cI, 8, .inl fd2)), (lt, .inr (5, [.ref la, .int (nI kl)])), (la, .inl (cB, 80, .inl fl)), (ta3, .inl (cI, 8, .inl fd3)), (h1, .inr (5, [.ref a1, .int (nI k1)])), (a1, .inl (cB, n1, .inl f1))] := hD.sub [0, 1, 2, 3, 4, 5, 6, 7] (by decide) rfl
    try dsimp only at hw
    refine lv_if_le (tgt := 25) hx hb dX6_take_20 (by decide) (fun c_15 => ?_) (fun c_15 => ?_)
    · refine lv_iload_n hx hb dX6_take_25 rfl (lv_at hl 3 rfl) ?_
      refine lv_if_lt (tgt := 34) hx hb dX6_take_26 (by decide) (fun c_16 => ?_) (fun c_16 => ?_)
      · refine lv_iconst (v := 0) hx hb dX6_take_34 (by decide) ?_
        have hP9 := hP.sub (ws' := [(h0, .inr (6, [.ref lt, .ref ta1, .ref ta2, .ref ta3, .int (nI d)])), (ta1, .inl (cI, 8, .inl fd1)), (ta2, .inl (cI, 8, .inl fd2)), (lt, .inr (5, [.ref la, .int (nI kl)])), (la, .inl (cB, 80, .inl fl)), (ta3, .inl (cI, 8, .inl fd3)), (h1, .inr (5, [.ref a1, .int (nI k1)])), (a1, .inl (cB, n1, .inl f1))]) [0, 1, 2, 3, 4, 5, 6, 7] rfl
        have hD9 := hD.sub (ws' := [(h0, .inr (6, [.ref lt, .ref ta1, .ref ta2, .ref ta3, .int (nI d)])), (ta1, .inl (cI, 8, .inl fd1)), (ta2, .inl (cI, 8, .inl fd2)), (lt, .inr (5, [.ref la, .int (nI kl)])), (la, .inl (cB, 80, .inl fl)), (ta3, .inl (cI, 8, .inl fd3)), (h1, .inr (5, [.ref a1, .int (nI k1)])), (a1, .inl (cB, n1, .inl f1))]) [0, 1, 2, 3, 4, 5, 6, 7] (by decide) rfl
        rw [← hQ]
        exact W.zret (v := 0) hx hb hr (rfl) (fun t ht hW => ⟨⟨0, (d, fd1, fd2, fd3, kl, fl), rfl, Or.inl (⟨rfl, by first | assumption | rfl | omega, by first | assumption | rfl | omega⟩), ⟨by rw [ht]; exact hP9, va_K.moved hW.alike hK, hD9⟩⟩, hS.F ht⟩) hS.2.2 dX6_take_35
      · refine lv_iload_n hx hb dX6_take_29 rfl (lv_at hl 3 rfl) ?_
        refine lv_iconst (v := 3) hx hb dX6_take_30 (by decide) ?_
        refine lv_icmp_le (tgt := 36) hx hb dX6_take_31 (by decide) (fun c_17 => ?_) (fun c_17 => ?_)
        · refine lv_aload_n hx hb dX6_take_36 rfl (lv_at hl 1 rfl) ?_
          refine lv_aload_n hx hb dX6_take_37 rfl (lv_at hl 2 rfl) ?_
          refine lv_iconst (v := 0) hx hb dX6_take_38 (by decide) ?_
          refine lv_iload_n hx hb dX6_take_39 rfl (lv_at hl 0 rfl) ?_
          have hPc := hP.sub (ws' := [(h0, .inr (6, [.ref lt, .ref ta1, .ref ta2, .ref ta3, .int (nI d)])), (ta1, .inl (cI, 8, .inl fd1)), (ta2, .inl (cI, 8, .inl fd2)), (lt, .inr (5, [.ref la, .int (nI kl)])), (la, .inl (cB, 80, .inl fl)), (h1, .inr (5, [.ref a1, .int (nI k1)])), (a1, .inl (cB, n1, .inl f1))]) [0, 1, 2, 3, 4, 6, 7] rfl
          have hDc := hD.sub (ws' := [(h0, .inr (6, [.ref lt, .ref ta1, .ref ta2, .ref ta3, .int (nI d)])), (ta1, .inl (cI, 8, .inl fd1)), (ta2, .inl (cI, 8, .inl fd2)), (lt, .inr (5, [.ref la, .int (nI kl)])), (la, .inl (cB, 80, .inl fl)), (h1, .inr (5, [.ref a1, .int (nI k1)])), (a1, .inl (cB, n1, .inl f1))]) [0, 1, 2, 3, 4, 6, 7] (by decide) rfl
          have hFc := va_free (wc := [(h0, .inr (6, [.ref lt, .ref ta1, .ref ta2, .ref ta3, .int (nI d)])), (ta1, .inl (cI, 8, .inl fd1)), (ta2, .inl (cI, 8, .inl fd2)), (lt, .inr (5, [.ref la, .int (nI kl)])), (la, .inl (cB, 80, .inl fl)), (h1, .inr (5, [.ref a1, .int (nI k1)])), (a1, .inl (cB, n1, .inl f1))]) hD hS hA [0, 1, 2, 3, 4, 6, 7] rfl
          refine va_calli (va_runV (As := [.ref h1, .int 0, .int (nI k1)]) (rest := []) ⟨hx, hb, hml, hown, hts⟩ (s_X6_find l D cB cI cZ E H_13.size h0 h1 0 (nI k1) lt ta1 ta2 ta3 d fd1 fd2 la kl fl a1 k1 n1 f1 (by first | assumption | omega) (by first | assumption | omega) (by first | assumption | omega) (by first | assumption | omega)) (cwV 3 hts (uV (uc31 _ (List.mem_of_getElem? (i := 16) rfl)) (uc16 _ (List.mem_of_getElem? (i := 13) rfl)) (uc16 _ (List.mem_of_getElem? (i := 14) rfl)) (uc1 _ (List.mem_of_getElem? (i := 22) rfl)) (uc16 _ (List.mem_of_getElem? (i := 15) rfl))) rfl rfl rfl (by decide +kernel) ⟨Nat.le_of_ble_eq_true rfl, Nat.le_of_ble_eq_true rfl⟩) (pVE hE hS hFc hK hPc hDc 0 rfl rfl) rfl rfl hl.1 rfl (lv_room (Nat.le_of_ble_eq_true rfl)) dX6_take_40 ⟨Nat.le_of_ble_eq_true rfl, Nat.le_of_ble_eq_true rfl⟩) hS (fun q _ h => hFc q h) hFc (fun r_18 u t H_19 L_20 ht hvm hw hB hz1 hk1 hS => ?_)
          obtain ⟨hP1, -, hD1⟩ := hB
          rw [ht] at hP1
          obtain ⟨hP, hD⟩ := va_join (wr := [(ta3, .inl (cI, 8, .inl fd3))]) (w1 := [(h0, .inr (6, [.ref lt, .ref ta1, .ref ta2, .ref ta3, .int (nI d)])), (ta1, .inl (cI, 8, .inl fd1)), (ta2, .inl (cI, 8, .inl fd2)), (lt, .inr (5, [.ref la, .int (nI kl)])), (la, .inl (cB, 80, .inl fl)), (h1, .inr (5, [.ref a1, .int (nI k1)])), (a1, .inl (cB, n1, .inl f1))]) hP hD [0, 1, 2, 3, 4, 6, 7] [5] rfl rfl (by decide) (by decide) hk1 hFc hP1 hD1
          have hP : va_P D vwCl [(h0, .inr (6, [.ref lt, .ref ta1, .ref ta2, .ref ta3, .int (nI d)])), (ta1, .inl (cI, 8, .inl fd1)), (ta2, .inl (cI, 8, .inl fd2)), (lt, .inr (5, [.ref la, .int (nI kl)])), (la, .inl (cB, 80, .inl fl)), (ta3, .inl (cI, 8, .inl fd3)), (h1, .inr (5, [.ref a1, .int (nI k1)])), (a1, .inl (cB, n1, .inl f1))] H_19 := hP.sub [1, 2, 3, 4, 5, 0, 6, 7] rfl
          have hD : va_D A [(h0, .inr (6, [.ref lt, .ref ta1, .ref ta2, .ref ta3, .int (nI d)])), (ta1, .inl (cI, 8, .inl fd1)), (ta2, .inl (cI, 8, .inl fd2)), (lt, .inr (5, [.ref la, .int (nI kl)])), (la, .inl (cB, 80, .inl fl)), (ta3, .inl (cI, 8, .inl fd3)), (h1, .inr (5, [.ref a1, .int (nI k1)])), (a1, .inl (cB, n1, .inl f1))] := hD.sub [1, 2, 3, 4, 5, 0, 6, 7] (by decide) rfl
          try dsimp only at hw
          rcases hw with rfl | h_21
          · refine lv_istore (lv' := [(4, .int (-1)), (3, .int (nI k1)), (0, .ref h0), (1, .ref h1), (2, .int x)]) hx hb dX6_take_43 hl (by decide) rfl (fun ls hl => ?_)
            refine lv_iload hx hb dX6_take_45 (lv_at hl 0 rfl) ?_
            refine lv_iconst (v := (-1)) hx hb dX6_take_47 (by decide) ?_
            refine lv_icmp_ne (tgt := 62) hx hb dX6_take_48 (by decide) (fun c_22 => ?_) (fun c_22 => ?_)
            · exact False.elim (by revert c_22; decide)
            · refine lv_aload_n hx hb dX6_take_51 rfl (lv_at hl 2 rfl) ?_
              refine va_get (D := D) (ci := 6) (v := .int (nI d)) (C := RX6) (T := TX6) (N := 5) hx hb hts hinX6 hown hK hP 0 rfl rfl 4 (by decide) (hts (.fieldLink RX6 30 "TaleReader$ToldNames" "count" "I") (uc4 _ (List.mem_of_getElem? (i := 6) rfl))) (fun _ h9 => h9) rfl dX6_take_52 ?_
              refine lv_bipush (v := 8) hx hb dX6_take_55 (by decide) ?_
              refine lv_icmp_lt (tgt := 62) hx hb dX6_take_57 (by decide) (fun c_23 => ?_) (fun c_23 => ?_)
              · refine lv_iload hx hb dX6_take_62 (lv_at hl 0 rfl) ?_
                refine lv_iconst (v := (-1)) hx hb dX6_take_64 (by decide) ?_
                refine lv_icmp_ne (tgt := 76) hx hb dX6_take_65 (by decide) (fun c_24 => ?_) (fun c_24 => ?_)
                · exact False.elim (by revert c_24; decide)
                · refine lv_aload_n hx hb dX6_take_68 rfl (lv_at hl 2 rfl) ?_
                  refine lv_aload_n hx hb dX6_take_69 rfl (lv_at hl 3 rfl) ?_
                  have hPc := hP.sub (ws' := [(h0, .inr (6, [.ref lt, .ref ta1, .ref ta2, .ref ta3, .int (nI d)])), (ta1, .inl (cI, 8, .inl fd1)), (ta2, .inl (cI, 8, .inl fd2)), (lt, .inr (5, [.ref la, .int (nI kl)])), (la, .inl (cB, 80, .inl fl)), (h1, .inr (5, [.ref a1, .int (nI k1)])), (a1, .inl (cB, n1, .inl f1))]) [0, 1, 2, 3, 4, 6, 7] rfl
                  have hDc := hD.sub (ws' := [(h0, .inr (6, [.ref lt, .ref ta1, .ref ta2, .ref ta3, .int (nI d)])), (ta1, .inl (cI, 8, .inl fd1)), (ta2, .inl (cI, 8, .inl fd2)), (lt, .inr (5, [.ref la, .int (nI kl)])), (la, .inl (cB, 80, .inl fl)), (h1, .inr (5, [.ref a1, .int (nI k1)])), (a1, .inl (cB, n1, .inl f1))]) [0, 1, 2, 3, 4, 6, 7] (by decide) rfl
                  have hFc := va_free (wc := [(h0, .inr (6, [.ref lt, .ref ta1, .ref ta2, .ref ta3, .int (nI d)])), (ta1, .inl (cI, 8, .inl fd1)), (ta2, .inl (cI, 8, .inl fd2)), (lt, .inr (5, [.ref la, .int (nI kl)])), (la, .inl (cB, 80, .inl fl)), (h1, .inr (5, [.ref a1, .int (nI k1)])), (a1, .inl (cB, n1, .inl f1))]) hD hS hA [0, 1, 2, 3, 4, 6, 7] rfl
                  refine va_calli (va_runV (As := [.ref h1]) (rest := []) ⟨hx, hb, hml, hown, hts⟩ (s_X6_append l D cB cI cZ E H_19.size h0 h1 lt ta1 ta2 ta3 d fd1 fd2 la kl fl a1 k1 n1 f1 (by first | assumption | omega) (by first | assumption | omega) (by first | assumption | omega) (by first | assumption | omega)) (cwV 1 hts (uV (uc31 _ (List.mem_of_getElem? (i := 17) rfl)) (uc31 _ (List.mem_of_getElem? (i := 18) rfl)) (uc31 _ (List.mem_of_getElem? (i := 19) rfl)) (uc1 _ (List.mem_of_getElem? (i := 22) rfl)) (uc31 _ (List.mem_of_getElem? (i := 20) rfl))) rfl rfl rfl (by decide +kernel) ⟨Nat.le_of_ble_eq_true rfl, Nat.le_of_ble_eq_true rfl⟩) (pVE hE hS hFc hK hPc hDc 0 rfl rfl) rfl rfl hl.1 rfl (lv_room (Nat.le_of_ble_eq_true rfl)) dX6_take_70 ⟨Nat.le_of_ble_eq_true rfl, Nat.le_of_ble_eq_true rfl⟩) hS (fun q _ h => hFc q h) hFc (fun r_25 u t H_26 L_27 ht hvm hw hB hz1 hk1 hS => ?_)
                  obtain ⟨d_28, fd1_29, fd2_30, kl_31, fl_32⟩ := u
                  obtain ⟨hP1, -, hD1⟩ := hB
                  rw [ht] at hP1
                  obtain ⟨hP, hD⟩ := va_join (wr := [(ta3, .inl (cI, 8, .inl fd3))]) (w1 := [(h0, .inr (6, [.ref lt, .ref ta1, .ref ta2, .ref ta3, .int (nI d_28)])), (ta1, .inl (cI, 8, .inl fd1_29)), (ta2, .inl (cI, 8, .inl fd2_30)), (lt, .inr (5, [.ref la, .int (nI kl_31)])), (la, .inl (cB, 80, .inl fl_32)), (h1, .inr (5, [.ref a1, .int (nI k1)])), (a1, .inl (cB, n1, .inl f1))]) hP hD [0, 1, 2, 3, 4, 6, 7] [5] rfl rfl (by decide) (by decide) hk1 hFc hP1 hD1
                  have hP : va_P D vwCl [(h0, .inr (6, [.ref lt, .ref ta1, .ref ta2, .ref ta3, .int (nI d_28)])), (ta1, .inl (cI, 8, .inl fd1_29)), (ta2, .inl (cI, 8, .inl fd2_30)), (lt, .inr (5, [.ref la, .int (nI kl_31)])), (la, .inl (cB, 80, .inl fl_32)), (ta3, .inl (cI, 8, .inl fd3)), (h1, .inr (5, [.ref a1, .int (nI k1)])), (a1, .inl (cB, n1, .inl f1))] H_26 := hP.sub [1, 2, 3, 4, 5, 0, 6, 7] rfl
                  have hD : va_D A [(h0, .inr (6, [.ref lt, .ref ta1, .ref ta2, .ref ta3, .int (nI d_28)])), (ta1, .inl (cI, 8, .inl fd1_29)), (ta2, .inl (cI, 8, .inl fd2_30)), (lt, .inr (5, [.ref la, .int (nI kl_31)])), (la, .inl (cB, 80, .inl fl_32)), (ta3, .inl (cI, 8, .inl fd3)), (h1, .inr (5, [.ref a1, .int (nI k1)])), (a1, .inl (cB, n1, .inl f1))] := hD.sub [1, 2, 3, 4, 5, 0, 6, 7] (by decide) rfl
                  try dsimp only at hw
                  obtain ⟨h_33, h_34, h_35⟩ := hw
                  obtain ⟨j, hj, ej⟩ := h_35
                  have hz5 : vp_in r_25 8 := (by rw [ej]; exact vp_in_nI hj (by decide))
                  refine lv_goto (tgt := 78) hx hb dX6_take_73 (by decide) ?_
                  refine lv_istore (lv' := [(5, .int r_25), (4, .int (-1)), (3, .int (nI k1)), (0, .ref h0), (1, .ref h1), (2, .int x)]) hx hb dX6_take_78 hl (by decide) rfl (fun ls hl => ?_)
                  exact join_1 r_25 d_28 kl_31 fd1_29 fd2_30 fl_32 H_26 _ ls (by first | assumption | omega) (by first | assumption | omega) (by first | assumption | exact hz5) (hP.sub (ws' := [(h0, .inr (6, [.ref lt, .ref ta1, .ref ta2, .ref ta3, .int (nI d_28)])), (ta1, .inl (cI, 8, .inl fd1_29)), (ta2, .inl (cI, 8, .inl fd2_30)), (lt, .inr (5, [.ref la, .int (nI kl_31)])), (la, .inl (cB, 80, .inl fl_32)), (ta3, .inl (cI, 8, .inl fd3)), (h1, .inr (5, [.ref a1, .int (nI k1)])), (a1, .inl (cB, n1, .inl f1))]) [0, 1, 2, 3, 4, 5, 6, 7] rfl) (hD.sub (ws' := [(h0, .inr (6, [.ref lt, .ref ta1, .ref ta2, .ref ta3, .int (nI d_28)])), (ta1, .inl (cI, 8, .inl fd1_29)), (ta2, .inl (cI, 8, .inl fd2_30)), (lt, .inr (5, [.ref la, .int (nI kl_31)])), (la, .inl (cB, 80, .inl fl_32)), (ta3, .inl (cI, 8, .inl fd3)), (h1, .inr (5, [.ref a1, .int (nI k1)])), (a1, .inl (cB, n1, .inl f1))]) [0, 1, 2, 3, 4, 5, 6, 7] (by decide) rfl) hS (lv_sub hl [3, 4, 5, 0] rfl)
              · refine lv_iconst (v := 0) hx hb dX6_take_60 (by decide) ?_
                have hP9 := hP.sub (ws' := [(h0, .inr (6, [.ref lt, .ref ta1, .ref ta2, .ref ta3, .int (nI d)])), (ta1, .inl (cI, 8, .inl fd1)), (ta2, .inl (cI, 8, .inl fd2)), (lt, .inr (5, [.ref la, .int (nI kl)])), (la, .inl (cB, 80, .inl fl)), (ta3, .inl (cI, 8, .inl fd3)), (h1, .inr (5, [.ref a1, .int (nI k1)])), (a1, .inl (cB, n1, .inl f1))]) [0, 1, 2, 3, 4, 5, 6, 7] rfl
                have hD9 := hD.sub (ws' := [(h0, .inr (6, [.ref lt, .ref ta1, .ref ta2, .ref ta3, .int (nI d)])), (ta1, .inl (cI, 8, .inl fd1)), (ta2, .inl (cI, 8, .inl fd2)), (lt, .inr (5, [.ref la, .int (nI kl)])), (la, .inl (cB, 80, .inl fl)), (ta3, .inl (cI, 8, .inl fd3)), (h1, .inr (5, [.ref a1, .int (nI k1)])), (a1, .inl (cB, n1, .inl f1))]) [0, 1, 2, 3, 4, 5, 6, 7] (by decide) rfl
                rw [← hQ]
                exact W.zret (v := 0) hx hb hr (rfl) (fun t ht hW => ⟨⟨0, (d, fd1, fd2, fd3, kl, fl), rfl, Or.inl (⟨rfl, by first | assumption | rfl | omega, by first | assumption | rfl | omega⟩), ⟨by rw [ht]; exact hP9, va_K.moved hW.alike hK, hD9⟩⟩, hS.F ht⟩) hS.2.2 dX6_take_61
          · obtain ⟨j, hj, ej⟩ := h_21
            have hz5 : vp_in r_18 8 := (by rw [ej]; exact vp_in_nI (by omega) (by omega))
            refine lv_istore (lv' := [(4, .int r_18), (3, .int (nI k1)), (0, .ref h0), (1, .ref h1), (2, .int x)]) hx hb dX6_take_43 hl (by decide) rfl (fun ls hl => ?_)
            refine lv_iload hx hb dX6_take_45 (lv_at hl 0 rfl) ?_
            refine lv_iconst (v := (-1)) hx hb dX6_take_47 (by decide) ?_
            refine lv_icmp_ne (tgt := 62) hx hb dX6_take_48 (by decide) (fun c_36 => ?_) (fun c_36 => ?_)
            · refine lv_iload hx hb dX6_take_62 (lv_at hl 0 rfl) ?_
              refine lv_iconst (v := (-1)) hx hb dX6_take_64 (by decide) ?_
              refine lv_icmp_ne (tgt := 76) hx hb dX6_take_65 (by decide) (fun c_37 => ?_) (fun c_37 => ?_)
              · refine lv_iload hx hb dX6_take_76 (lv_at hl 0 rfl) ?_
                refine lv_istore (lv' := [(5, .int r_18), (4, .int r_18), (3, .int (nI k1)), (0, .ref h0), (1, .ref h1), (2, .int x)]) hx hb dX6_take_78 hl (by decide) rfl (fun ls hl => ?_)
                exact join_1 r_18 d kl fd1 fd2 fl H_19 _ ls (by first | assumption | omega) (by first | assumption | omega) (by first | assumption | exact hz5) (hP.sub (ws' := [(h0, .inr (6, [.ref lt, .ref ta1, .ref ta2, .ref ta3, .int (nI d)])), (ta1, .inl (cI, 8, .inl fd1)), (ta2, .inl (cI, 8, .inl fd2)), (lt, .inr (5, [.ref la, .int (nI kl)])), (la, .inl (cB, 80, .inl fl)), (ta3, .inl (cI, 8, .inl fd3)), (h1, .inr (5, [.ref a1, .int (nI k1)])), (a1, .inl (cB, n1, .inl f1))]) [0, 1, 2, 3, 4, 5, 6, 7] rfl) (hD.sub (ws' := [(h0, .inr (6, [.ref lt, .ref ta1, .ref ta2, .ref ta3, .int (nI d)])), (ta1, .inl (cI, 8, .inl fd1)), (ta2, .inl (cI, 8, .inl fd2)), (lt, .inr (5, [.ref la, .int (nI kl)])), (la, .inl (cB, 80, .inl fl)), (ta3, .inl (cI, 8, .inl fd3)), (h1, .inr (5, [.ref a1, .int (nI k1)])), (a1, .inl (cB, n1, .inl f1))]) [0, 1, 2, 3, 4, 5, 6, 7] (by decide) rfl) hS (lv_sub hl [3, 4, 5, 0] rfl)
              · refine lv_aload_n hx hb dX6_take_68 rfl (lv_at hl 2 rfl) ?_
                refine lv_aload_n hx hb dX6_take_69 rfl (lv_at hl 3 rfl) ?_
                have hPc := hP.sub (ws' := [(h0, .inr (6, [.ref lt, .ref ta1, .ref ta2, .ref ta3, .int (nI d)])), (ta1, .inl (cI, 8, .inl fd1)), (ta2, .inl (cI, 8, .inl fd2)), (lt, .inr (5, [.ref la, .int (nI kl)])), (la, .inl (cB, 80, .inl fl)), (h1, .inr (5, [.ref a1, .int (nI k1)])), (a1, .inl (cB, n1, .inl f1))]) [0, 1, 2, 3, 4, 6, 7] rfl
                have hDc := hD.sub (ws' := [(h0, .inr (6, [.ref lt, .ref ta1, .ref ta2, .ref ta3, .int (nI d)])), (ta1, .inl (cI, 8, .inl fd1)), (ta2, .inl (cI, 8, .inl fd2)), (lt, .inr (5, [.ref la, .int (nI kl)])), (la, .inl (cB, 80, .inl fl)), (h1, .inr (5, [.ref a1, .int (nI k1)])), (a1, .inl (cB, n1, .inl f1))]) [0, 1, 2, 3, 4, 6, 7] (by decide) rfl
                have hFc := va_free (wc := [(h0, .inr (6, [.ref lt, .ref ta1, .ref ta2, .ref ta3, .int (nI d)])), (ta1, .inl (cI, 8, .inl fd1)), (ta2, .inl (cI, 8, .inl fd2)), (lt, .inr (5, [.ref la, .int (nI kl)])), (la, .inl (cB, 80, .inl fl)), (h1, .inr (5, [.ref a1, .int (nI k1)])), (a1, .inl (cB, n1, .inl f1))]) hD hS hA [0, 1, 2, 3, 4, 6, 7] rfl
                refine va_calli (va_runV (As := [.ref h1]) (rest := []) ⟨hx, hb, hml, hown, hts⟩ (s_X6_append l D cB cI cZ E H_19.size h0 h1 lt ta1 ta2 ta3 d fd1 fd2 la kl fl a1 k1 n1 f1 (by first | assumption | omega) (by first | assumption | omega) (by first | assumption | omega) (by first | assumption | omega)) (cwV 1 hts (uV (uc31 _ (List.mem_of_getElem? (i := 17) rfl)) (uc31 _ (List.mem_of_getElem? (i := 18) rfl)) (uc31 _ (List.mem_of_getElem? (i := 19) rfl)) (uc1 _ (List.mem_of_getElem? (i := 22) rfl)) (uc31 _ (List.mem_of_getElem? (i := 20) rfl))) rfl rfl rfl (by decide +kernel) ⟨Nat.le_of_ble_eq_true rfl, Nat.le_of_ble_eq_true rfl⟩) (pVE hE hS hFc hK hPc hDc 0 rfl rfl) rfl rfl hl.1 rfl (lv_room (Nat.le_of_ble_eq_true rfl)) dX6_take_70 ⟨Nat.le_of_ble_eq_true rfl, Nat.le_of_ble_eq_true rfl⟩) hS (fun q _ h => hFc q h) hFc (fun r_38 u t H_39 L_40 ht hvm hw hB hz1 hk1 hS => ?_)
                obtain ⟨d_41, fd1_42, fd2_43, kl_44, fl_45⟩ := u
                obtain ⟨hP1, -, hD1⟩ := hB
                rw [ht] at hP1
                obtain ⟨hP, hD⟩ := va_join (wr := [(ta3, .inl (cI, 8, .inl fd3))]) (w1 := [(h0, .inr (6, [.ref lt, .ref ta1, .ref ta2, .ref ta3, .int (nI d_41)])), (ta1, .inl (cI, 8, .inl fd1_42)), (ta2, .inl (cI, 8, .inl fd2_43)), (lt, .inr (5, [.ref la, .int (nI kl_44)])), (la, .inl (cB, 80, .inl fl_45)), (h1, .inr (5, [.ref a1, .int (nI k1)])), (a1, .inl (cB, n1, .inl f1))]) hP hD [0, 1, 2, 3, 4, 6, 7] [5] rfl rfl (by decide) (by decide) hk1 hFc hP1 hD1
                have hP : va_P D vwCl [(h0, .inr (6, [.ref lt, .ref ta1, .ref ta2, .ref ta3, .int (nI d_41)])), (ta1, .inl (cI, 8, .inl fd1_42)), (ta2, .inl (cI, 8, .inl fd2_43)), (lt, .inr (5, [.ref la, .int (nI kl_44)])), (la, .inl (cB, 80, .inl fl_45)), (ta3, .inl (cI, 8, .inl fd3)), (h1, .inr (5, [.ref a1, .int (nI k1)])), (a1, .inl (cB, n1, .inl f1))] H_39 := hP.sub [1, 2, 3, 4, 5, 0, 6, 7] rfl
                have hD : va_D A [(h0, .inr (6, [.ref lt, .ref ta1, .ref ta2, .ref ta3, .int (nI d_41)])), (ta1, .inl (cI, 8, .inl fd1_42)), (ta2, .inl (cI, 8, .inl fd2_43)), (lt, .inr (5, [.ref la, .int (nI kl_44)])), (la, .inl (cB, 80, .inl fl_45)), (ta3, .inl (cI, 8, .inl fd3)), (h1, .inr (5, [.ref a1, .int (nI k1)])), (a1, .inl (cB, n1, .inl f1))] := hD.sub [1, 2, 3, 4, 5, 0, 6, 7] (by decide) rfl
                try dsimp only at hw
                obtain ⟨h_46, h_47, h_48⟩ := hw
                obtain ⟨j, hj, ej⟩ := h_48
                have hz5 : vp_in r_38 8 := (by rw [ej]; exact vp_in_nI hj (by decide))
                refine lv_goto (tgt := 78) hx hb dX6_take_73 (by decide) ?_
                refine lv_istore (lv' := [(5, .int r_38), (4, .int r_18), (3, .int (nI k1)), (0, .ref h0), (1, .ref h1), (2, .int x)]) hx hb dX6_take_78 hl (by decide) rfl (fun ls hl => ?_)
                exact join_1 r_38 d_41 kl_44 fd1_42 fd2_43 fl_45 H_39 _ ls (by first | assumption | omega) (by first | assumption | omega) (by first | assumption | exact hz5) (hP.sub (ws' := [(h0, .inr (6, [.ref lt, .ref ta1, .ref ta2, .ref ta3, .int (nI d_41)])), (ta1, .inl (cI, 8, .inl fd1_42)), (ta2, .inl (cI, 8, .inl fd2_43)), (lt, .inr (5, [.ref la, .int (nI kl_44)])), (la, .inl (cB, 80, .inl fl_45)), (ta3, .inl (cI, 8, .inl fd3)), (h1, .inr (5, [.ref a1, .int (nI k1)])), (a1, .inl (cB, n1, .inl f1))]) [0, 1, 2, 3, 4, 5, 6, 7] rfl) (hD.sub (ws' := [(h0, .inr (6, [.ref lt, .ref ta1, .ref ta2, .ref ta3, .int (nI d_41)])), (ta1, .inl (cI, 8, .inl fd1_42)), (ta2, .inl (cI, 8, .inl fd2_43)), (lt, .inr (5, [.ref la, .int (nI kl_44)])), (la, .inl (cB, 80, .inl fl_45)), (ta3, .inl (cI, 8, .inl fd3)), (h1, .inr (5, [.ref a1, .int (nI k1)])), (a1, .inl (cB, n1, .inl f1))]) [0, 1, 2, 3, 4, 5, 6, 7] (by decide) rfl) hS (lv_sub hl [3, 4, 5, 0] rfl)
            · refine lv_aload_n hx hb dX6_take_51 rfl (lv_at hl 2 rfl) ?_
              refine va_get (D := D) (ci := 6) (v := .int (nI d)) (C := RX6) (T := TX6) (N := 5) hx hb hts hinX6 hown hK hP 0 rfl rfl 4 (by decide) (hts (.fieldLink RX6 30 "TaleReader$ToldNames" "count" "I") (uc4 _ (List.mem_of_getElem? (i := 6) rfl))) (fun _ h9 => h9) rfl dX6_take_52 ?_
              refine lv_bipush (v := 8) hx hb dX6_take_55 (by decide) ?_
              refine lv_icmp_lt (tgt := 62) hx hb dX6_take_57 (by decide) (fun c_49 => ?_) (fun c_49 => ?_)
              · refine lv_iload hx hb dX6_take_62 (lv_at hl 0 rfl) ?_
                refine lv_iconst (v := (-1)) hx hb dX6_take_64 (by decide) ?_
                refine lv_icmp_ne (tgt := 76) hx hb dX6_take_65 (by decide) (fun c_50 => ?_) (fun c_50 => ?_)
                · refine lv_iload hx hb dX6_take_76 (lv_at hl 0 rfl) ?_
                  refine lv_istore (lv' := [(5, .int r_18), (4, .int r_18), (3, .int (nI k1)), (0, .ref h0), (1, .ref h1), (2, .int x)]) hx hb dX6_take_78 hl (by decide) rfl (fun ls hl => ?_)
                  exact join_1 r_18 d kl fd1 fd2 fl H_19 _ ls (by first | assumption | omega) (by first | assumption | omega) (by first | assumption | exact hz5) (hP.sub (ws' := [(h0, .inr (6, [.ref lt, .ref ta1, .ref ta2, .ref ta3, .int (nI d)])), (ta1, .inl (cI, 8, .inl fd1)), (ta2, .inl (cI, 8, .inl fd2)), (lt, .inr (5, [.ref la, .int (nI kl)])), (la, .inl (cB, 80, .inl fl)), (ta3, .inl (cI, 8, .inl fd3)), (h1, .inr (5, [.ref a1, .int (nI k1)])), (a1, .inl (cB, n1, .inl f1))]) [0, 1, 2, 3, 4, 5, 6, 7] rfl) (hD.sub (ws' := [(h0, .inr (6, [.ref lt, .ref ta1, .ref ta2, .ref ta3, .int (nI d)])), (ta1, .inl (cI, 8, .inl fd1)), (ta2, .inl (cI, 8, .inl fd2)), (lt, .inr (5, [.ref la, .int (nI kl)])), (la, .inl (cB, 80, .inl fl)), (ta3, .inl (cI, 8, .inl fd3)), (h1, .inr (5, [.ref a1, .int (nI k1)])), (a1, .inl (cB, n1, .inl f1))]) [0, 1, 2, 3, 4, 5, 6, 7] (by decide) rfl) hS (lv_sub hl [3, 4, 5, 0] rfl)
                · refine lv_aload_n hx hb dX6_take_68 rfl (lv_at hl 2 rfl) ?_
                  refine lv_aload_n hx hb dX6_take_69 rfl (lv_at hl 3 rfl) ?_
                  have hPc := hP.sub (ws' := [(h0, .inr (6, [.ref lt, .ref ta1, .ref ta2, .ref ta3, .int (nI d)])), (ta1, .inl (cI, 8, .inl fd1)), (ta2, .inl (cI, 8, .inl fd2)), (lt, .inr (5, [.ref la, .int (nI kl)])), (la, .inl (cB, 80, .inl fl)), (h1, .inr (5, [.ref a1, .int (nI k1)])), (a1, .inl (cB, n1, .inl f1))]) [0, 1, 2, 3, 4, 6, 7] rfl
                  have hDc := hD.sub (ws' := [(h0, .inr (6, [.ref lt, .ref ta1, .ref ta2, .ref ta3, .int (nI d)])), (ta1, .inl (cI, 8, .inl fd1)), (ta2, .inl (cI, 8, .inl fd2)), (lt, .inr (5, [.ref la, .int (nI kl)])), (la, .inl (cB, 80, .inl fl)), (h1, .inr (5, [.ref a1, .int (nI k1)])), (a1, .inl (cB, n1, .inl f1))]) [0, 1, 2, 3, 4, 6, 7] (by decide) rfl
                  have hFc := va_free (wc := [(h0, .inr (6, [.ref lt, .ref ta1, .ref ta2, .ref ta3, .int (nI d)])), (ta1, .inl (cI, 8, .inl fd1)), (ta2, .inl (cI, 8, .inl fd2)), (lt, .inr (5, [.ref la, .int (nI kl)])), (la, .inl (cB, 80, .inl fl)), (h1, .inr (5, [.ref a1, .int (nI k1)])), (a1, .inl (cB, n1, .inl f1))]) hD hS hA [0, 1, 2, 3, 4, 6, 7] rfl
                  refine va_calli (va_runV (As := [.ref h1]) (rest := []) ⟨hx, hb, hml, hown, hts⟩ (s_X6_append l D cB cI cZ E H_19.size h0 h1 lt ta1 ta2 ta3 d fd1 fd2 la kl fl a1 k1 n1 f1 (by first | assumption | omega) (by first | assumption | omega) (by first | assumption | omega) (by first | assumption | omega)) (cwV 1 hts (uV (uc31 _ (List.mem_of_getElem? (i := 17) rfl)) (uc31 _ (List.mem_of_getElem? (i := 18) rfl)) (uc31 _ (List.mem_of_getElem? (i := 19) rfl)) (uc1 _ (List.mem_of_getElem? (i := 22) rfl)) (uc31 _ (List.mem_of_getElem? (i := 20) rfl))) rfl rfl rfl (by decide +kernel) ⟨Nat.le_of_ble_eq_true rfl, Nat.le_of_ble_eq_true rfl⟩) (pVE hE hS hFc hK hPc hDc 0 rfl rfl) rfl rfl hl.1 rfl (lv_room (Nat.le_of_ble_eq_true rfl)) dX6_take_70 ⟨Nat.le_of_ble_eq_true rfl, Nat.le_of_ble_eq_true rfl⟩) hS (fun q _ h => hFc q h) hFc (fun r_51 u t H_52 L_53 ht hvm hw hB hz1 hk1 hS => ?_)
                  obtain ⟨d_54, fd1_55, fd2_56, kl_57, fl_58⟩ := u
                  obtain ⟨hP1, -, hD1⟩ := hB
                  rw [ht] at hP1
                  obtain ⟨hP, hD⟩ := va_join (wr := [(ta3, .inl (cI, 8, .inl fd3))]) (w1 := [(h0, .inr (6, [.ref lt, .ref ta1, .ref ta2, .ref ta3, .int (nI d_54)])), (ta1, .inl (cI, 8, .inl fd1_55)), (ta2, .inl (cI, 8, .inl fd2_56)), (lt, .inr (5, [.ref la, .int (nI kl_57)])), (la, .inl (cB, 80, .inl fl_58)), (h1, .inr (5, [.ref a1, .int (nI k1)])), (a1, .inl (cB, n1, .inl f1))]) hP hD [0, 1, 2, 3, 4, 6, 7] [5] rfl rfl (by decide) (by decide) hk1 hFc hP1 hD1
                  have hP : va_P D vwCl [(h0, .inr (6, [.ref lt, .ref ta1, .ref ta2, .ref ta3, .int (nI d_54)])), (ta1, .inl (cI, 8, .inl fd1_55)), (ta2, .inl (cI, 8, .inl fd2_56)), (lt, .inr (5, [.ref la, .int (nI kl_57)])), (la, .inl (cB, 80, .inl fl_58)), (ta3, .inl (cI, 8, .inl fd3)), (h1, .inr (5, [.ref a1, .int (nI k1)])), (a1, .inl (cB, n1, .inl f1))] H_52 := hP.sub [1, 2, 3, 4, 5, 0, 6, 7] rfl
                  have hD : va_D A [(h0, .inr (6, [.ref lt, .ref ta1, .ref ta2, .ref ta3, .int (nI d_54)])), (ta1, .inl (cI, 8, .inl fd1_55)), (ta2, .inl (cI, 8, .inl fd2_56)), (lt, .inr (5, [.ref la, .int (nI kl_57)])), (la, .inl (cB, 80, .inl fl_58)), (ta3, .inl (cI, 8, .inl fd3)), (h1, .inr (5, [.ref a1, .int (nI k1)])), (a1, .inl (cB, n1, .inl f1))] := hD.sub [1, 2, 3, 4, 5, 0, 6, 7] (by decide) rfl
                  try dsimp only at hw
                  obtain ⟨h_59, h_60, h_61⟩ := hw
                  obtain ⟨j, hj, ej⟩ := h_61
                  have hz5 : vp_in r_51 8 := (by rw [ej]; exact vp_in_nI hj (by decide))
                  refine lv_goto (tgt := 78) hx hb dX6_take_73 (by decide) ?_
                  refine lv_istore (lv' := [(5, .int r_51), (4, .int r_18), (3, .int (nI k1)), (0, .ref h0), (1, .ref h1), (2, .int x)]) hx hb dX6_take_78 hl (by decide) rfl (fun ls hl => ?_)
                  exact join_1 r_51 d_54 kl_57 fd1_55 fd2_56 fl_58 H_52 _ ls (by first | assumption | omega) (by first | assumption | omega) (by first | assumption | exact hz5) (hP.sub (ws' := [(h0, .inr (6, [.ref lt, .ref ta1, .ref ta2, .ref ta3, .int (nI d_54)])), (ta1, .inl (cI, 8, .inl fd1_55)), (ta2, .inl (cI, 8, .inl fd2_56)), (lt, .inr (5, [.ref la, .int (nI kl_57)])), (la, .inl (cB, 80, .inl fl_58)), (ta3, .inl (cI, 8, .inl fd3)), (h1, .inr (5, [.ref a1, .int (nI k1)])), (a1, .inl (cB, n1, .inl f1))]) [0, 1, 2, 3, 4, 5, 6, 7] rfl) (hD.sub (ws' := [(h0, .inr (6, [.ref lt, .ref ta1, .ref ta2, .ref ta3, .int (nI d_54)])), (ta1, .inl (cI, 8, .inl fd1_55)), (ta2, .inl (cI, 8, .inl fd2_56)), (lt, .inr (5, [.ref la, .int (nI kl_57)])), (la, .inl (cB, 80, .inl fl_58)), (ta3, .inl (cI, 8, .inl fd3)), (h1, .inr (5, [.ref a1, .int (nI k1)])), (a1, .inl (cB, n1, .inl f1))]) [0, 1, 2, 3, 4, 5, 6, 7] (by decide) rfl) hS (lv_sub hl [3, 4, 5, 0] rfl)
              · refine lv_iconst (v := 0) hx hb dX6_take_60 (by decide) ?_
                have hP9 := hP.sub (ws' := [(h0, .inr (6, [.ref lt, .ref ta1, .ref ta2, .ref ta3, .int (nI d)])), (ta1, .inl (cI, 8, .inl fd1)), (ta2, .inl (cI, 8, .inl fd2)), (lt, .inr (5, [.ref la, .int (nI kl)])), (la, .inl (cB, 80, .inl fl)), (ta3, .inl (cI, 8, .inl fd3)), (h1, .inr (5, [.ref a1, .int (nI k1)])), (a1, .inl (cB, n1, .inl f1))]) [0, 1, 2, 3, 4, 5, 6, 7] rfl
                have hD9 := hD.sub (ws' := [(h0, .inr (6, [.ref lt, .ref ta1, .ref ta2, .ref ta3, .int (nI d)])), (ta1, .inl (cI, 8, .inl fd1)), (ta2, .inl (cI, 8, .inl fd2)), (lt, .inr (5, [.ref la, .int (nI kl)])), (la, .inl (cB, 80, .inl fl)), (ta3, .inl (cI, 8, .inl fd3)), (h1, .inr (5, [.ref a1, .int (nI k1)])), (a1, .inl (cB, n1, .inl f1))]) [0, 1, 2, 3, 4, 5, 6, 7] (by decide) rfl
                rw [← hQ]
                exact W.zret (v := 0) hx hb hr (rfl) (fun t ht hW => ⟨⟨0, (d, fd1, fd2, fd3, kl, fl), rfl, Or.inl (⟨rfl, by first | assumption | rfl | omega, by first | assumption | rfl | omega⟩), ⟨by rw [ht]; exact hP9, va_K.moved hW.alike hK, hD9⟩⟩, hS.F ht⟩) hS.2.2 dX6_take_61
        · refine lv_iconst (v := 0) hx hb dX6_take_34 (by decide) ?_
          have hP9 := hP.sub (ws' := [(h0, .inr (6, [.ref lt, .ref ta1, .ref ta2, .ref ta3, .int (nI d)])), (ta1, .inl (cI, 8, .inl fd1)), (ta2, .inl (cI, 8, .inl fd2)), (lt, .inr (5, [.ref la, .int (nI kl)])), (la, .inl (cB, 80, .inl fl)), (ta3, .inl (cI, 8, .inl fd3)), (h1, .inr (5, [.ref a1, .int (nI k1)])), (a1, .inl (cB, n1, .inl f1))]) [0, 1, 2, 3, 4, 5, 6, 7] rfl
          have hD9 := hD.sub (ws' := [(h0, .inr (6, [.ref lt, .ref ta1, .ref ta2, .ref ta3, .int (nI d)])), (ta1, .inl (cI, 8, .inl fd1)), (ta2, .inl (cI, 8, .inl fd2)), (lt, .inr (5, [.ref la, .int (nI kl)])), (la, .inl (cB, 80, .inl fl)), (ta3, .inl (cI, 8, .inl fd3)), (h1, .inr (5, [.ref a1, .int (nI k1)])), (a1, .inl (cB, n1, .inl f1))]) [0, 1, 2, 3, 4, 5, 6, 7] (by decide) rfl
          rw [← hQ]
          exact W.zret (v := 0) hx hb hr (rfl) (fun t ht hW => ⟨⟨0, (d, fd1, fd2, fd3, kl, fl), rfl, Or.inl (⟨rfl, by first | assumption | rfl | omega, by first | assumption | rfl | omega⟩), ⟨by rw [ht]; exact hP9, va_K.moved hW.alike hK, hD9⟩⟩, hS.F ht⟩) hS.2.2 dX6_take_35
    · refine lv_iconst (v := 0) hx hb dX6_take_23 (by decide) ?_
      have hP9 := hP.sub (ws' := [(h0, .inr (6, [.ref lt, .ref ta1, .ref ta2, .ref ta3, .int (nI d)])), (ta1, .inl (cI, 8, .inl fd1)), (ta2, .inl (cI, 8, .inl fd2)), (lt, .inr (5, [.ref la, .int (nI kl)])), (la, .inl (cB, 80, .inl fl)), (ta3, .inl (cI, 8, .inl fd3)), (h1, .inr (5, [.ref a1, .int (nI k1)])), (a1, .inl (cB, n1, .inl f1))]) [0, 1, 2, 3, 4, 5, 6, 7] rfl
      have hD9 := hD.sub (ws' := [(h0, .inr (6, [.ref lt, .ref ta1, .ref ta2, .ref ta3, .int (nI d)])), (ta1, .inl (cI, 8, .inl fd1)), (ta2, .inl (cI, 8, .inl fd2)), (lt, .inr (5, [.ref la, .int (nI kl)])), (la, .inl (cB, 80, .inl fl)), (ta3, .inl (cI, 8, .inl fd3)), (h1, .inr (5, [.ref a1, .int (nI k1)])), (a1, .inl (cB, n1, .inl f1))]) [0, 1, 2, 3, 4, 5, 6, 7] (by decide) rfl
      rw [← hQ]
      exact W.zret (v := 0) hx hb hr (rfl) (fun t ht hW => ⟨⟨0, (d, fd1, fd2, fd3, kl, fl), rfl, Or.inl (⟨rfl, by first | assumption | rfl | omega, by first | assumption | rfl | omega⟩), ⟨by rw [ht]; exact hP9, va_K.moved hW.alike hK, hD9⟩⟩, hS.F ht⟩) hS.2.2 dX6_take_24
