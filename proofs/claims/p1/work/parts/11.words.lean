set_option maxHeartbeats 4000000 in
set_option maxRecDepth 100000 in
theorem c_X7_init (l : Launch) (D : va_G) (cB cI cZ : ClassId) (sz : Nat) (h0 : Nat) : Met l yX7_init (.code yX7_init cX7_init 1 none :: wsL_law) ({ frames := 2, cells := 6, slots := 1802, locals := 35 } : Room) (va_Pc [.ref h0] (pIn D (pT cB cI cZ) sz [(h0, .inr (7, [.null, .null, .null, .null, .null, .int 0, .int 0]))])) (va_Qv (fun (u : Nat × Nat × Nat × Nat × Nat × Nat) => True) (fun (u : Nat × Nat × Nat × Nat × Nat × Nat) (t : State) => pAt D (pT cB cI cZ) (va_A [(h0, .inr (7, [.null, .null, .null, .null, .null, .int 0, .int 0]))] sz) [(h0, .inr (7, [.ref u.1, .ref u.2.2.1, .ref u.2.2.2.1, .ref u.2.2.2.2.1, .ref u.2.2.2.2.2, .int 0, .int 0])), (u.1, .inr (5, [.ref u.2.1, .int 0])), (u.2.1, .inl (cB, 600, .inl (fun _ => 0))), (u.2.2.1, .inl (cI, 300, .inl (fun _ => 0))), (u.2.2.2.1, .inl (cI, 300, .inl (fun _ => 0))), (u.2.2.2.2.1, .inl (cI, 300, .inl (fun _ => 0))), (u.2.2.2.2.2, .inl (cI, 300, .inl (fun _ => 0)))] t) (va_A [(h0, .inr (7, [.null, .null, .null, .null, .null, .int 0, .int 0]))] sz)) 6 1802 (va_A [(h0, .inr (7, [.null, .null, .null, .null, .null, .int 0, .int 0]))] sz) := by
  refine Met.ofW (cc := cX7_init) (maxL := 1) (ret := none) (by decide) rfl ?_
  intro p e s m args below meth c s₁ B hml hv
  obtain ⟨rfl, hsz, hP, hK, hD0⟩ := hv
  have hx := B.exec
  have hb := B.bytes
  have hr := B.returns
  have hts0 := atoms_spec (ws := .code yX7_init cX7_init 1 none :: wsL_law) B.pre
  have hts := fun (w : Cond) (h : w ∈ wsL_law) => hts0 w (List.mem_cons_of_mem _ h)
  have hown : s.vm.findClass RX7 = some m.cls := findClass_of_methodNamed B.named
  have hlocks := B.notSynchronized
  have hin : meth.name = "<init>" := (name_of_methodNamed B.named B.method).1
  have hinX5 := inlX5
  have hinX7 := inlX7
  subst hsz
  have hD := hD0.self (sz := s.heap.size)
  generalize hAe : va_A [(h0, .inr (7, [.null, .null, .null, .null, .null, .int 0, .int 0]))] s.heap.size = A at hD ⊢
  have hA : ∀ q : Nat, s.heap.size ≤ q → A q := fun q h => by rw [← hAe]; exact Or.inr h
  have hS : va_S A s.heap s.heap [] := va_S.rf
  have hP : va_P D vwCl [(h0, .inr (7, [.null, .null, .null, .null, .null, .int 0, .int 0]))] s.heap := hP
  have hl := lv_entry ([.ref h0]) (n := 1) (Nat.le_of_ble_eq_true rfl)
  rw [lg_entry_eq]
  generalize (lg_sl ([.ref h0]) ++ List.replicate (1 - (lg_sl ([.ref h0])).length) Slot.unset).toArray = ls at hl ⊢
  have hl : lv_has ls 1 [(0, .ref h0)] := hl
  refine lv_aload_n hx hb dX7_init_0 rfl (lv_at hl 0 rfl) ?_
  refine W.objInit hx hb hown (hts (.methodLink RX7 3 objectInit) (uc3 _ (List.mem_of_getElem? (i := 10) rfl))) (hts (.instanceMethod objectInit) (uc1 _ (List.mem_of_getElem? (i := 10) rfl))) (hts (.code objectInit ⟨#[0xb1]⟩ 1 none) (uc1 _ (List.mem_of_getElem? (i := 11) rfl))) rfl (by rw [hml]; exact hl.1) rfl dX7_init_1 (Nat.le_of_ble_eq_true rfl) (Nat.le_of_ble_eq_true rfl) ?_
  refine W.eq (g2 := F0 m 4 ls []) rfl ?_
  refine lv_aload_n hx hb dX7_init_4 rfl (lv_at hl 0 rfl) ?_
  refine va_new (ci := 5) (fs := [.null, .int 0]) (C := RX5) (T := TX5) (N := 2) hx hb hts hinX5 tyX5 tyX5_ok hown (hts (.classLink RX7 9 RX5) (uc3 _ (List.mem_of_getElem? (i := 11) rfl))) (hts (.instantiable RX5 2) (uc1 _ (List.mem_of_getElem? (i := 13) rfl))) (hts (.initialized RX5) (uc1 _ (List.mem_of_getElem? (i := 14) rfl))) hK hP hD hS hA rfl (fun j hj => by rcases (show j = 0 ∨ j = 1 by omega) with rfl | rfl <;> rfl) (Nat.le_of_ble_eq_true rfl) (Nat.le_of_ble_eq_true rfl) dX7_init_5 (fun q_1 H_2 hP hD hS => ?_)
  have hP : va_P D vwCl [(h0, .inr (7, [.null, .null, .null, .null, .null, .int 0, .int 0])), (q_1, .inr (5, [.null, .int 0]))] H_2 := hP
  have hD : va_D A [(h0, .inr (7, [.null, .null, .null, .null, .null, .int 0, .int 0])), (q_1, .inr (5, [.null, .int 0]))] := hD
  refine W.widen (k := 1) (n := 2) (by decide) (by decide) ?_
  refine lv_dup hx hb dX7_init_8 rfl ?_
  refine lv_sipush (v := 600) hx hb dX7_init_9 (by decide) ?_
  have hPc := hP.sub (ws' := [(q_1, .inr (5, [.null, .int 0]))]) [1] rfl
  have hDc := hD.sub (ws' := [(q_1, .inr (5, [.null, .int 0]))]) [1] (by decide) rfl
  have hFc := va_free (wc := [(q_1, .inr (5, [.null, .int 0]))]) hD hS hA [1] rfl
  refine va_callv (va_runI (As := [.int 600]) (rest := [.ref q_1, .ref h0]) ⟨hx, hb, hml, hown, hts⟩ (c_X5_init_600 l D cB cI cZ H_2.size q_1) (cwI 1 hts (uI (uc2 _ (List.mem_of_getElem? (i := 22) rfl))) rfl rfl rfl (hts (.initialized RX5) (uc1 _ (List.mem_of_getElem? (i := 14) rfl))) (hts (.methodLink RX7 11 yX5_init) (uc3 _ (List.mem_of_getElem? (i := 20) rfl))) (hts (.instanceMethod yX5_init) (uc2 _ (List.mem_of_getElem? (i := 21) rfl))) rfl (by decide +kernel) ⟨Nat.le_of_ble_eq_true rfl, Nat.le_of_ble_eq_true rfl⟩) (pS hK hPc hDc) rfl rfl hl.1 rfl (lv_room (Nat.le_of_ble_eq_true rfl)) dX7_init_12 ⟨Nat.le_of_ble_eq_true rfl, Nat.le_of_ble_eq_true rfl⟩) hS (fun q _ h => hFc q h) hFc (fun u t H_4 L_5 ht hvm hw hB hz1 hk1 hS => ?_)
  obtain ⟨qa_6, rfl⟩ : ∃ z, z = u := ⟨_, rfl⟩
  obtain ⟨hP1, -, hD1⟩ := hB
  rw [ht] at hP1
  obtain ⟨hP, hD⟩ := va_join (wr := [(h0, .inr (7, [.null, .null, .null, .null, .null, .int 0, .int 0]))]) (w1 := [(q_1, .inr (5, [.ref qa_6, .int 0])), (qa_6, .inl (cB, 600, .inl (fun _ => 0)))]) hP hD [1] [0] rfl rfl (by decide) (by decide) hk1 hFc hP1 hD1
  have hP : va_P D vwCl [(h0, .inr (7, [.null, .null, .null, .null, .null, .int 0, .int 0])), (q_1, .inr (5, [.ref qa_6, .int 0])), (qa_6, .inl (cB, 600, .inl (fun _ => 0)))] H_4 := hP.sub [0, 1, 2] rfl
  have hD : va_D A [(h0, .inr (7, [.null, .null, .null, .null, .null, .int 0, .int 0])), (q_1, .inr (5, [.ref qa_6, .int 0])), (qa_6, .inl (cB, 600, .inl (fun _ => 0)))] := hD.sub [0, 1, 2] (by decide) rfl
  refine W.widen (k := 2) (n := 602) (by decide) (by decide) ?_
  try dsimp only at hw
  refine va_putF (D := D) (ci := 7) (v := .ref q_1) (ty := (.object "TaleReader$Text")) (C := RX7) (T := TX7) (N := 7) hx hb hts hinX7 tyX7 tyX7_ok nmX7 hown hK hP hD hS 0 rfl rfl 0 (by decide) (hts (.fieldLink RX7 14 "TaleReader$Words" "tale" "LTaleReader$Text;") (uc3 _ (List.mem_of_getElem? (i := 12) rfl))) (fun _ h9 => h9) rfl hin rfl (by decide +kernel) rfl rfl (Nat.le_of_ble_eq_true rfl) dX7_init_15 (fun H_7 L_8 hP hD hS => ?_)
  have hP : va_P D vwCl [(h0, .inr (7, [.ref q_1, .null, .null, .null, .null, .int 0, .int 0])), (q_1, .inr (5, [.ref qa_6, .int 0])), (qa_6, .inl (cB, 600, .inl (fun _ => 0)))] H_7 := hP
  have hD : va_D A [(h0, .inr (7, [.ref q_1, .null, .null, .null, .null, .int 0, .int 0])), (q_1, .inr (5, [.ref qa_6, .int 0])), (qa_6, .inl (cB, 600, .inl (fun _ => 0)))] := hD
  refine lv_aload_n hx hb dX7_init_18 rfl (lv_at hl 0 rfl) ?_
  refine lv_sipush (v := 300) hx hb dX7_init_19 (by decide) ?_
  refine pNewa (D := D) (cl := vwCl) (ty := .int) (N' := 300) (a0 := (300, .inl (fun _ => 0))) (cA := cI) hx hb (hts (.arrayClass .int) (uc3 _ (List.mem_of_getElem? (i := 13) rfl))) rfl hK hP hD hS hA (fun _ => rfl) (by decide) (by decide) (by decide) (Nat.le_of_ble_eq_true rfl) (Nat.le_of_ble_eq_true rfl) dX7_init_22 1 rfl (fun q_9 H_10 hP hD hS => ?_)
  have hP : va_P D vwCl [(h0, .inr (7, [.ref q_1, .null, .null, .null, .null, .int 0, .int 0])), (q_1, .inr (5, [.ref qa_6, .int 0])), (qa_6, .inl (cB, 600, .inl (fun _ => 0))), (q_9, .inl (cI, 300, .inl (fun _ => 0)))] H_10 := hP
  have hD : va_D A [(h0, .inr (7, [.ref q_1, .null, .null, .null, .null, .int 0, .int 0])), (q_1, .inr (5, [.ref qa_6, .int 0])), (qa_6, .inl (cB, 600, .inl (fun _ => 0))), (q_9, .inl (cI, 300, .inl (fun _ => 0)))] := hD
  refine W.widen (k := 3) (n := 902) (by decide) (by decide) ?_
  refine va_putF (D := D) (ci := 7) (v := .ref q_9) (ty := (.array .int)) (C := RX7) (T := TX7) (N := 7) hx hb hts hinX7 tyX7 tyX7_ok nmX7 hown hK hP hD hS 0 rfl rfl 1 (by decide) (hts (.fieldLink RX7 20 "TaleReader$Words" "places" "[I") (uc3 _ (List.mem_of_getElem? (i := 14) rfl))) (fun _ h9 => h9) rfl hin rfl (by decide +kernel) rfl rfl (Nat.le_of_ble_eq_true rfl) dX7_init_24 (fun H_11 L_12 hP hD hS => ?_)
  have hP : va_P D vwCl [(h0, .inr (7, [.ref q_1, .ref q_9, .null, .null, .null, .int 0, .int 0])), (q_1, .inr (5, [.ref qa_6, .int 0])), (qa_6, .inl (cB, 600, .inl (fun _ => 0))), (q_9, .inl (cI, 300, .inl (fun _ => 0)))] H_11 := hP
  have hD : va_D A [(h0, .inr (7, [.ref q_1, .ref q_9, .null, .null, .null, .int 0, .int 0])), (q_1, .inr (5, [.ref qa_6, .int 0])), (qa_6, .inl (cB, 600, .inl (fun _ => 0))), (q_9, .inl (cI, 300, .inl (fun _ => 0)))] := hD
  refine lv_aload_n hx hb dX7_init_27 rfl (lv_at hl 0 rfl) ?_
  refine lv_sipush (v := 300) hx hb dX7_init_28 (by decide) ?_
  refine pNewa (D := D) (cl := vwCl) (ty := .int) (N' := 300) (a0 := (300, .inl (fun _ => 0))) (cA := cI) hx hb (hts (.arrayClass .int) (uc3 _ (List.mem_of_getElem? (i := 13) rfl))) rfl hK hP hD hS hA (fun _ => rfl) (by decide) (by decide) (by decide) (Nat.le_of_ble_eq_true rfl) (Nat.le_of_ble_eq_true rfl) dX7_init_31 1 rfl (fun q_13 H_14 hP hD hS => ?_)
  have hP : va_P D vwCl [(h0, .inr (7, [.ref q_1, .ref q_9, .null, .null, .null, .int 0, .int 0])), (q_1, .inr (5, [.ref qa_6, .int 0])), (qa_6, .inl (cB, 600, .inl (fun _ => 0))), (q_9, .inl (cI, 300, .inl (fun _ => 0))), (q_13, .inl (cI, 300, .inl (fun _ => 0)))] H_14 := hP
  have hD : va_D A [(h0, .inr (7, [.ref q_1, .ref q_9, .null, .null, .null, .int 0, .int 0])), (q_1, .inr (5, [.ref qa_6, .int 0])), (qa_6, .inl (cB, 600, .inl (fun _ => 0))), (q_9, .inl (cI, 300, .inl (fun _ => 0))), (q_13, .inl (cI, 300, .inl (fun _ => 0)))] := hD
  refine W.widen (k := 4) (n := 1202) (by decide) (by decide) ?_
  refine va_putF (D := D) (ci := 7) (v := .ref q_13) (ty := (.array .int)) (C := RX7) (T := TX7) (N := 7) hx hb hts hinX7 tyX7 tyX7_ok nmX7 hown hK hP hD hS 0 rfl rfl 2 (by decide) (hts (.fieldLink RX7 24 "TaleReader$Words" "lengths" "[I") (uc3 _ (List.mem_of_getElem? (i := 15) rfl))) (fun _ h9 => h9) rfl hin rfl (by decide +kernel) rfl rfl (Nat.le_of_ble_eq_true rfl) dX7_init_33 (fun H_15 L_16 hP hD hS => ?_)
  have hP : va_P D vwCl [(h0, .inr (7, [.ref q_1, .ref q_9, .ref q_13, .null, .null, .int 0, .int 0])), (q_1, .inr (5, [.ref qa_6, .int 0])), (qa_6, .inl (cB, 600, .inl (fun _ => 0))), (q_9, .inl (cI, 300, .inl (fun _ => 0))), (q_13, .inl (cI, 300, .inl (fun _ => 0)))] H_15 := hP
  have hD : va_D A [(h0, .inr (7, [.ref q_1, .ref q_9, .ref q_13, .null, .null, .int 0, .int 0])), (q_1, .inr (5, [.ref qa_6, .int 0])), (qa_6, .inl (cB, 600, .inl (fun _ => 0))), (q_9, .inl (cI, 300, .inl (fun _ => 0))), (q_13, .inl (cI, 300, .inl (fun _ => 0)))] := hD
  refine lv_aload_n hx hb dX7_init_36 rfl (lv_at hl 0 rfl) ?_
  refine lv_sipush (v := 300) hx hb dX7_init_37 (by decide) ?_
  refine pNewa (D := D) (cl := vwCl) (ty := .int) (N' := 300) (a0 := (300, .inl (fun _ => 0))) (cA := cI) hx hb (hts (.arrayClass .int) (uc3 _ (List.mem_of_getElem? (i := 13) rfl))) rfl hK hP hD hS hA (fun _ => rfl) (by decide) (by decide) (by decide) (Nat.le_of_ble_eq_true rfl) (Nat.le_of_ble_eq_true rfl) dX7_init_40 1 rfl (fun q_17 H_18 hP hD hS => ?_)
  have hP : va_P D vwCl [(h0, .inr (7, [.ref q_1, .ref q_9, .ref q_13, .null, .null, .int 0, .int 0])), (q_1, .inr (5, [.ref qa_6, .int 0])), (qa_6, .inl (cB, 600, .inl (fun _ => 0))), (q_9, .inl (cI, 300, .inl (fun _ => 0))), (q_13, .inl (cI, 300, .inl (fun _ => 0))), (q_17, .inl (cI, 300, .inl (fun _ => 0)))] H_18 := hP
  have hD : va_D A [(h0, .inr (7, [.ref q_1, .ref q_9, .ref q_13, .null, .null, .int 0, .int 0])), (q_1, .inr (5, [.ref qa_6, .int 0])), (qa_6, .inl (cB, 600, .inl (fun _ => 0))), (q_9, .inl (cI, 300, .inl (fun _ => 0))), (q_13, .inl (cI, 300, .inl (fun _ => 0))), (q_17, .inl (cI, 300, .inl (fun _ => 0)))] := hD
  refine W.widen (k := 5) (n := 1502) (by decide) (by decide) ?_
  refine va_putF (D := D) (ci := 7) (v := .ref q_17) (ty := (.array .int)) (C := RX7) (T := TX7) (N := 7) hx hb hts hinX7 tyX7 tyX7_ok nmX7 hown hK hP hD hS 0 rfl rfl 3 (by decide) (hts (.fieldLink RX7 27 "TaleReader$Words" "sentences" "[I") (uc3 _ (List.mem_of_getElem? (i := 16) rfl))) (fun _ h9 => h9) rfl hin rfl (by decide +kernel) rfl rfl (Nat.le_of_ble_eq_true rfl) dX7_init_42 (fun H_19 L_20 hP hD hS => ?_)
  have hP : va_P D vwCl [(h0, .inr (7, [.ref q_1, .ref q_9, .ref q_13, .ref q_17, .null, .int 0, .int 0])), (q_1, .inr (5, [.ref qa_6, .int 0])), (qa_6, .inl (cB, 600, .inl (fun _ => 0))), (q_9, .inl (cI, 300, .inl (fun _ => 0))), (q_13, .inl (cI, 300, .inl (fun _ => 0))), (q_17, .inl (cI, 300, .inl (fun _ => 0)))] H_19 := hP
  have hD : va_D A [(h0, .inr (7, [.ref q_1, .ref q_9, .ref q_13, .ref q_17, .null, .int 0, .int 0])), (q_1, .inr (5, [.ref qa_6, .int 0])), (qa_6, .inl (cB, 600, .inl (fun _ => 0))), (q_9, .inl (cI, 300, .inl (fun _ => 0))), (q_13, .inl (cI, 300, .inl (fun _ => 0))), (q_17, .inl (cI, 300, .inl (fun _ => 0)))] := hD
  refine lv_aload_n hx hb dX7_init_45 rfl (lv_at hl 0 rfl) ?_
  refine lv_sipush (v := 300) hx hb dX7_init_46 (by decide) ?_
  refine pNewa (D := D) (cl := vwCl) (ty := .int) (N' := 300) (a0 := (300, .inl (fun _ => 0))) (cA := cI) hx hb (hts (.arrayClass .int) (uc3 _ (List.mem_of_getElem? (i := 13) rfl))) rfl hK hP hD hS hA (fun _ => rfl) (by decide) (by decide) (by decide) (Nat.le_of_ble_eq_true rfl) (Nat.le_of_ble_eq_true rfl) dX7_init_49 1 rfl (fun q_21 H_22 hP hD hS => ?_)
  have hP : va_P D vwCl [(h0, .inr (7, [.ref q_1, .ref q_9, .ref q_13, .ref q_17, .null, .int 0, .int 0])), (q_1, .inr (5, [.ref qa_6, .int 0])), (qa_6, .inl (cB, 600, .inl (fun _ => 0))), (q_9, .inl (cI, 300, .inl (fun _ => 0))), (q_13, .inl (cI, 300, .inl (fun _ => 0))), (q_17, .inl (cI, 300, .inl (fun _ => 0))), (q_21, .inl (cI, 300, .inl (fun _ => 0)))] H_22 := hP
  have hD : va_D A [(h0, .inr (7, [.ref q_1, .ref q_9, .ref q_13, .ref q_17, .null, .int 0, .int 0])), (q_1, .inr (5, [.ref qa_6, .int 0])), (qa_6, .inl (cB, 600, .inl (fun _ => 0))), (q_9, .inl (cI, 300, .inl (fun _ => 0))), (q_13, .inl (cI, 300, .inl (fun _ => 0))), (q_17, .inl (cI, 300, .inl (fun _ => 0))), (q_21, .inl (cI, 300, .inl (fun _ => 0)))] := hD
  refine W.widen (k := 6) (n := 1802) (by decide) (by decide) ?_
  refine va_putF (D := D) (ci := 7) (v := .ref q_21) (ty := (.array .int)) (C := RX7) (T := TX7) (N := 7) hx hb hts hinX7 tyX7 tyX7_ok nmX7 hown hK hP hD hS 0 rfl rfl 4 (by decide) (hts (.fieldLink RX7 30 "TaleReader$Words" "kinds" "[I") (uc3 _ (List.mem_of_getElem? (i := 17) rfl))) (fun _ h9 => h9) rfl hin rfl (by decide +kernel) rfl rfl (Nat.le_of_ble_eq_true rfl) dX7_init_51 (fun H_23 L_24 hP hD hS => ?_)
  have hP : va_P D vwCl [(h0, .inr (7, [.ref q_1, .ref q_9, .ref q_13, .ref q_17, .ref q_21, .int 0, .int 0])), (q_1, .inr (5, [.ref qa_6, .int 0])), (qa_6, .inl (cB, 600, .inl (fun _ => 0))), (q_9, .inl (cI, 300, .inl (fun _ => 0))), (q_13, .inl (cI, 300, .inl (fun _ => 0))), (q_17, .inl (cI, 300, .inl (fun _ => 0))), (q_21, .inl (cI, 300, .inl (fun _ => 0)))] H_23 := hP
  have hD : va_D A [(h0, .inr (7, [.ref q_1, .ref q_9, .ref q_13, .ref q_17, .ref q_21, .int 0, .int 0])), (q_1, .inr (5, [.ref qa_6, .int 0])), (qa_6, .inl (cB, 600, .inl (fun _ => 0))), (q_9, .inl (cI, 300, .inl (fun _ => 0))), (q_13, .inl (cI, 300, .inl (fun _ => 0))), (q_17, .inl (cI, 300, .inl (fun _ => 0))), (q_21, .inl (cI, 300, .inl (fun _ => 0)))] := hD
  refine lv_aload_n hx hb dX7_init_54 rfl (lv_at hl 0 rfl) ?_
  refine lv_iconst (v := 0) hx hb dX7_init_55 (by decide) ?_
  refine va_put (D := D) (ci := 7) (v := .int 0) (ty := .int) (C := RX7) (T := TX7) (N := 7) hx hb hts hinX7 tyX7 tyX7_ok nmX7 hown hK hP hD hS 0 rfl rfl 5 (by decide) (hts (.fieldLink RX7 33 "TaleReader$Words" "count" "I") (uc3 _ (List.mem_of_getElem? (i := 18) rfl))) (fun _ h9 => h9) rfl (by decide +kernel) rfl rfl (Nat.le_of_ble_eq_true rfl) dX7_init_56 (fun H_25 L_26 hP hD hS => ?_)
  have hP : va_P D vwCl [(h0, .inr (7, [.ref q_1, .ref q_9, .ref q_13, .ref q_17, .ref q_21, .int 0, .int 0])), (q_1, .inr (5, [.ref qa_6, .int 0])), (qa_6, .inl (cB, 600, .inl (fun _ => 0))), (q_9, .inl (cI, 300, .inl (fun _ => 0))), (q_13, .inl (cI, 300, .inl (fun _ => 0))), (q_17, .inl (cI, 300, .inl (fun _ => 0))), (q_21, .inl (cI, 300, .inl (fun _ => 0)))] H_25 := hP
  have hD : va_D A [(h0, .inr (7, [.ref q_1, .ref q_9, .ref q_13, .ref q_17, .ref q_21, .int 0, .int 0])), (q_1, .inr (5, [.ref qa_6, .int 0])), (qa_6, .inl (cB, 600, .inl (fun _ => 0))), (q_9, .inl (cI, 300, .inl (fun _ => 0))), (q_13, .inl (cI, 300, .inl (fun _ => 0))), (q_17, .inl (cI, 300, .inl (fun _ => 0))), (q_21, .inl (cI, 300, .inl (fun _ => 0)))] := hD
  refine lv_aload_n hx hb dX7_init_59 rfl (lv_at hl 0 rfl) ?_
  refine lv_iconst (v := 0) hx hb dX7_init_60 (by decide) ?_
  refine va_put (D := D) (ci := 7) (v := .int 0) (ty := .int) (C := RX7) (T := TX7) (N := 7) hx hb hts hinX7 tyX7 tyX7_ok nmX7 hown hK hP hD hS 0 rfl rfl 6 (by decide) (hts (.fieldLink RX7 37 "TaleReader$Words" "sentenceCount" "I") (uc3 _ (List.mem_of_getElem? (i := 19) rfl))) (fun _ h9 => h9) rfl (by decide +kernel) rfl rfl (Nat.le_of_ble_eq_true rfl) dX7_init_61 (fun H_27 L_28 hP hD hS => ?_)
  have hP : va_P D vwCl [(h0, .inr (7, [.ref q_1, .ref q_9, .ref q_13, .ref q_17, .ref q_21, .int 0, .int 0])), (q_1, .inr (5, [.ref qa_6, .int 0])), (qa_6, .inl (cB, 600, .inl (fun _ => 0))), (q_9, .inl (cI, 300, .inl (fun _ => 0))), (q_13, .inl (cI, 300, .inl (fun _ => 0))), (q_17, .inl (cI, 300, .inl (fun _ => 0))), (q_21, .inl (cI, 300, .inl (fun _ => 0)))] H_27 := hP
  have hD : va_D A [(h0, .inr (7, [.ref q_1, .ref q_9, .ref q_13, .ref q_17, .ref q_21, .int 0, .int 0])), (q_1, .inr (5, [.ref qa_6, .int 0])), (qa_6, .inl (cB, 600, .inl (fun _ => 0))), (q_9, .inl (cI, 300, .inl (fun _ => 0))), (q_13, .inl (cI, 300, .inl (fun _ => 0))), (q_17, .inl (cI, 300, .inl (fun _ => 0))), (q_21, .inl (cI, 300, .inl (fun _ => 0)))] := hD
  have hP9 := hP.sub (ws' := [(h0, .inr (7, [.ref q_1, .ref q_9, .ref q_13, .ref q_17, .ref q_21, .int 0, .int 0])), (q_1, .inr (5, [.ref qa_6, .int 0])), (qa_6, .inl (cB, 600, .inl (fun _ => 0))), (q_9, .inl (cI, 300, .inl (fun _ => 0))), (q_13, .inl (cI, 300, .inl (fun _ => 0))), (q_17, .inl (cI, 300, .inl (fun _ => 0))), (q_21, .inl (cI, 300, .inl (fun _ => 0)))]) [0, 1, 2, 3, 4, 5, 6] rfl
  have hD9 := hD.sub (ws' := [(h0, .inr (7, [.ref q_1, .ref q_9, .ref q_13, .ref q_17, .ref q_21, .int 0, .int 0])), (q_1, .inr (5, [.ref qa_6, .int 0])), (qa_6, .inl (cB, 600, .inl (fun _ => 0))), (q_9, .inl (cI, 300, .inl (fun _ => 0))), (q_13, .inl (cI, 300, .inl (fun _ => 0))), (q_17, .inl (cI, 300, .inl (fun _ => 0))), (q_21, .inl (cI, 300, .inl (fun _ => 0)))]) [0, 1, 2, 3, 4, 5, 6] (by decide) rfl
  exact W.vret hx hb hr (fun t ht hW => ⟨⟨(q_1, qa_6, q_9, q_13, q_17, q_21), rfl, trivial, ⟨by rw [ht]; exact hP9, va_K.moved hW.alike hK, hD9⟩⟩, hS.F ht⟩) hS.2.2 dX7_init_64
set_option maxHeartbeats 4000000 in
set_option maxRecDepth 100000 in
theorem c_X7_size (l : Launch) (D : va_G) (cB cI cZ : ClassId) (sz : Nat) (h0 : Nat) (tl : Nat) (wa1 : Nat) (wa2 : Nat) (wa3 : Nat) (wa4 : Nat) (cnt : Int32) (sc : Int32) : Met l yX7_size (.code yX7_size cX7_size 1 (some .int) :: wsL_law) ({ frames := 0, cells := 0, slots := 0, locals := 0 } : Room) (va_Pc [.ref h0] (pIn D (pT cB cI cZ) sz [(h0, .inr (7, [.ref tl, .ref wa1, .ref wa2, .ref wa3, .ref wa4, .int cnt, .int sc]))])) (va_Qi (fun (r : Int32) (u : Unit) => r = cnt) (fun (u : Unit) (t : State) => pAt D (pT cB cI cZ) (va_A [(h0, .inr (7, [.ref tl, .ref wa1, .ref wa2, .ref wa3, .ref wa4, .int cnt, .int sc]))] sz) [(h0, .inr (7, [.ref tl, .ref wa1, .ref wa2, .ref wa3, .ref wa4, .int cnt, .int sc]))] t) (va_A [(h0, .inr (7, [.ref tl, .ref wa1, .ref wa2, .ref wa3, .ref wa4, .int cnt, .int sc]))] sz)) 0 0 (va_A [(h0, .inr (7, [.ref tl, .ref wa1, .ref wa2, .ref wa3, .ref wa4, .int cnt, .int sc]))] sz) := by
  refine Met.ofW (cc := cX7_size) (maxL := 1) (ret := (some .int)) (by decide) rfl ?_
  intro p e s m args below meth c s₁ B hml hv
  obtain ⟨rfl, hsz, hP, hK, hD0⟩ := hv
  have hx := B.exec
  have hb := B.bytes
  have hr := B.returns
  have hts0 := atoms_spec (ws := .code yX7_size cX7_size 1 (some .int) :: wsL_law) B.pre
  have hts := fun (w : Cond) (h : w ∈ wsL_law) => hts0 w (List.mem_cons_of_mem _ h)
  have hown : s.vm.findClass RX7 = some m.cls := findClass_of_methodNamed B.named
  have hlocks := B.notSynchronized
  have hinX7 := inlX7
  subst hsz
  have hD := hD0.self (sz := s.heap.size)
  generalize hAe : va_A [(h0, .inr (7, [.ref tl, .ref wa1, .ref wa2, .ref wa3, .ref wa4, .int cnt, .int sc]))] s.heap.size = A at hD ⊢
  have hA : ∀ q : Nat, s.heap.size ≤ q → A q := fun q h => by rw [← hAe]; exact Or.inr h
  have hS : va_S A s.heap s.heap [] := va_S.rf
  have hP : va_P D vwCl [(h0, .inr (7, [.ref tl, .ref wa1, .ref wa2, .ref wa3, .ref wa4, .int cnt, .int sc]))] s.heap := hP
  have hl := lv_entry ([.ref h0]) (n := 1) (Nat.le_of_ble_eq_true rfl)
  rw [lg_entry_eq]
  generalize (lg_sl ([.ref h0]) ++ List.replicate (1 - (lg_sl ([.ref h0])).length) Slot.unset).toArray = ls at hl ⊢
  have hl : lv_has ls 1 [(0, .ref h0)] := hl
  refine lv_aload_n hx hb dX7_size_0 rfl (lv_at hl 0 rfl) ?_
  refine va_get (D := D) (ci := 7) (v := .int cnt) (C := RX7) (T := TX7) (N := 7) hx hb hts hinX7 hown hK hP 0 rfl rfl 5 (by decide) (hts (.fieldLink RX7 33 "TaleReader$Words" "count" "I") (uc3 _ (List.mem_of_getElem? (i := 18) rfl))) (fun _ h9 => h9) rfl dX7_size_1 ?_
  have hP9 := hP.sub (ws' := [(h0, .inr (7, [.ref tl, .ref wa1, .ref wa2, .ref wa3, .ref wa4, .int cnt, .int sc]))]) [0] rfl
  have hD9 := hD.sub (ws' := [(h0, .inr (7, [.ref tl, .ref wa1, .ref wa2, .ref wa3, .ref wa4, .int cnt, .int sc]))]) [0] (by decide) rfl
  exact W.iret (v := cnt) hx hb hr (fun t ht hW => ⟨⟨cnt, (), rfl, rfl, ⟨by rw [ht]; exact hP9, va_K.moved hW.alike hK, hD9⟩⟩, hS.F ht⟩) hS.2.2 dX7_size_4
set_option maxHeartbeats 4000000 in
set_option maxRecDepth 100000 in
theorem c_X7_sentenceCount (l : Launch) (D : va_G) (cB cI cZ : ClassId) (sz : Nat) (h0 : Nat) (tl : Nat) (wa1 : Nat) (wa2 : Nat) (wa3 : Nat) (wa4 : Nat) (cnt : Int32) (sc : Int32) : Met l yX7_sentenceCount (.code yX7_sentenceCount cX7_sentenceCount 1 (some .int) :: wsL_law) ({ frames := 0, cells := 0, slots := 0, locals := 0 } : Room) (va_Pc [.ref h0] (pIn D (pT cB cI cZ) sz [(h0, .inr (7, [.ref tl, .ref wa1, .ref wa2, .ref wa3, .ref wa4, .int cnt, .int sc]))])) (va_Qi (fun (r : Int32) (u : Unit) => r = sc) (fun (u : Unit) (t : State) => pAt D (pT cB cI cZ) (va_A [(h0, .inr (7, [.ref tl, .ref wa1, .ref wa2, .ref wa3, .ref wa4, .int cnt, .int sc]))] sz) [(h0, .inr (7, [.ref tl, .ref wa1, .ref wa2, .ref wa3, .ref wa4, .int cnt, .int sc]))] t) (va_A [(h0, .inr (7, [.ref tl, .ref wa1, .ref wa2, .ref wa3, .ref wa4, .int cnt, .int sc]))] sz)) 0 0 (va_A [(h0, .inr (7, [.ref tl, .ref wa1, .ref wa2, .ref wa3, .ref wa4, .int cnt, .int sc]))] sz) := by
  refine Met.ofW (cc := cX7_sentenceCount) (maxL := 1) (ret := (some .int)) (by decide) rfl ?_
  intro p e s m args below meth c s₁ B hml hv
  obtain ⟨rfl, hsz, hP, hK, hD0⟩ := hv
  have hx := B.exec
  have hb := B.bytes
  have hr := B.returns
  have hts0 := atoms_spec (ws := .code yX7_sentenceCount cX7_sentenceCount 1 (some .int) :: wsL_law) B.pre
  have hts := fun (w : Cond) (h : w ∈ wsL_law) => hts0 w (List.mem_cons_of_mem _ h)
  have hown : s.vm.findClass RX7 = some m.cls := findClass_of_methodNamed B.named
  have hlocks := B.notSynchronized
  have hinX7 := inlX7
  subst hsz
  have hD := hD0.self (sz := s.heap.size)
  generalize hAe : va_A [(h0, .inr (7, [.ref tl, .ref wa1, .ref wa2, .ref wa3, .ref wa4, .int cnt, .int sc]))] s.heap.size = A at hD ⊢
  have hA : ∀ q : Nat, s.heap.size ≤ q → A q := fun q h => by rw [← hAe]; exact Or.inr h
  have hS : va_S A s.heap s.heap [] := va_S.rf
  have hP : va_P D vwCl [(h0, .inr (7, [.ref tl, .ref wa1, .ref wa2, .ref wa3, .ref wa4, .int cnt, .int sc]))] s.heap := hP
  have hl := lv_entry ([.ref h0]) (n := 1) (Nat.le_of_ble_eq_true rfl)
  rw [lg_entry_eq]
  generalize (lg_sl ([.ref h0]) ++ List.replicate (1 - (lg_sl ([.ref h0])).length) Slot.unset).toArray = ls at hl ⊢
  have hl : lv_has ls 1 [(0, .ref h0)] := hl
  refine lv_aload_n hx hb dX7_sentenceCount_0 rfl (lv_at hl 0 rfl) ?_
  refine va_get (D := D) (ci := 7) (v := .int sc) (C := RX7) (T := TX7) (N := 7) hx hb hts hinX7 hown hK hP 0 rfl rfl 6 (by decide) (hts (.fieldLink RX7 37 "TaleReader$Words" "sentenceCount" "I") (uc3 _ (List.mem_of_getElem? (i := 19) rfl))) (fun _ h9 => h9) rfl dX7_sentenceCount_1 ?_
  have hP9 := hP.sub (ws' := [(h0, .inr (7, [.ref tl, .ref wa1, .ref wa2, .ref wa3, .ref wa4, .int cnt, .int sc]))]) [0] rfl
  have hD9 := hD.sub (ws' := [(h0, .inr (7, [.ref tl, .ref wa1, .ref wa2, .ref wa3, .ref wa4, .int cnt, .int sc]))]) [0] (by decide) rfl
  exact W.iret (v := sc) hx hb hr (fun t ht hW => ⟨⟨sc, (), rfl, rfl, ⟨by rw [ht]; exact hP9, va_K.moved hW.alike hK, hD9⟩⟩, hS.F ht⟩) hS.2.2 dX7_sentenceCount_4
set_option maxHeartbeats 4000000 in
set_option maxRecDepth 100000 in
theorem c_X7_split_0 (l : Launch) (D : va_G) (cB cI cZ : ClassId) (sz : Nat) (h0 : Nat) (tl : Nat) (ta : Nat) (wa1 : Nat) (wa2 : Nat) (wa3 : Nat) (wa4 : Nat) (cnt : Int32) (sc : Int32) : Met l yX7_split (.code yX7_split cX7_split 5 none :: wsL_law) ({ frames := 1, cells := 0, slots := 0, locals := 20 } : Room) (va_Pc [.ref h0] (pIn D (pT cB cI cZ) sz [(h0, .inr (7, [.ref tl, .ref wa1, .ref wa2, .ref wa3, .ref wa4, .int cnt, .int sc])), (tl, .inr (5, [.ref ta, .int 0]))])) (va_Qv (fun (u : Unit) => True) (fun (u : Unit) (t : State) => pAt D (pT cB cI cZ) (va_A [(h0, .inr (7, [.ref tl, .ref wa1, .ref wa2, .ref wa3, .ref wa4, .int cnt, .int sc])), (tl, .inr (5, [.ref ta, .int 0]))] sz) [(h0, .inr (7, [.ref tl, .ref wa1, .ref wa2, .ref wa3, .ref wa4, .int 0, .int 0])), (tl, .inr (5, [.ref ta, .int 0]))] t) (va_A [(h0, .inr (7, [.ref tl, .ref wa1, .ref wa2, .ref wa3, .ref wa4, .int cnt, .int sc])), (tl, .inr (5, [.ref ta, .int 0]))] sz)) 0 0 (va_A [(h0, .inr (7, [.ref tl, .ref wa1, .ref wa2, .ref wa3, .ref wa4, .int cnt, .int sc])), (tl, .inr (5, [.ref ta, .int 0]))] sz) := by
  refine Met.ofW (cc := cX7_split) (maxL := 5) (ret := none) (by decide) rfl ?_
  intro p e s m args below meth c s₁ B hml hv
  obtain ⟨rfl, hsz, hP, hK, hD0⟩ := hv
  have hx := B.exec
  have hb := B.bytes
  have hr := B.returns
  have hts0 := atoms_spec (ws := .code yX7_split cX7_split 5 none :: wsL_law) B.pre
  have hts := fun (w : Cond) (h : w ∈ wsL_law) => hts0 w (List.mem_cons_of_mem _ h)
  have hown : s.vm.findClass RX7 = some m.cls := findClass_of_methodNamed B.named
  have hlocks := B.notSynchronized
  have hinX7 := inlX7
  subst hsz
  have hD := hD0.self (sz := s.heap.size)
  generalize hAe : va_A [(h0, .inr (7, [.ref tl, .ref wa1, .ref wa2, .ref wa3, .ref wa4, .int cnt, .int sc])), (tl, .inr (5, [.ref ta, .int 0]))] s.heap.size = A at hD ⊢
  have hA : ∀ q : Nat, s.heap.size ≤ q → A q := fun q h => by rw [← hAe]; exact Or.inr h
  have hS : va_S A s.heap s.heap [] := va_S.rf
  have hP : va_P D vwCl [(h0, .inr (7, [.ref tl, .ref wa1, .ref wa2, .ref wa3, .ref wa4, .int cnt, .int sc])), (tl, .inr (5, [.ref ta, .int 0]))] s.heap := hP
  have hl := lv_entry ([.ref h0]) (n := 5) (Nat.le_of_ble_eq_true rfl)
  rw [lg_entry_eq]
  generalize (lg_sl ([.ref h0]) ++ List.replicate (5 - (lg_sl ([.ref h0])).length) Slot.unset).toArray = ls at hl ⊢
  have hl : lv_has ls 5 [(0, .ref h0)] := hl
  refine lv_aload_n hx hb dX7_split_0 rfl (lv_at hl 0 rfl) ?_
  refine lv_iconst (v := 0) hx hb dX7_split_1 (by decide) ?_
  refine va_put (D := D) (ci := 7) (v := .int 0) (ty := .int) (C := RX7) (T := TX7) (N := 7) hx hb hts hinX7 tyX7 tyX7_ok nmX7 hown hK hP hD hS 0 rfl rfl 5 (by decide) (hts (.fieldLink RX7 33 "TaleReader$Words" "count" "I") (uc3 _ (List.mem_of_getElem? (i := 18) rfl))) (fun _ h9 => h9) rfl (by decide +kernel) rfl rfl (Nat.le_of_ble_eq_true rfl) dX7_split_2 (fun H_1 L_2 hP hD hS => ?_)
  have hP : va_P D vwCl [(h0, .inr (7, [.ref tl, .ref wa1, .ref wa2, .ref wa3, .ref wa4, .int 0, .int sc])), (tl, .inr (5, [.ref ta, .int 0]))] H_1 := hP
  have hD : va_D A [(h0, .inr (7, [.ref tl, .ref wa1, .ref wa2, .ref wa3, .ref wa4, .int 0, .int sc])), (tl, .inr (5, [.ref ta, .int 0]))] := hD
  refine lv_iconst (v := 0) hx hb dX7_split_5 (by decide) ?_
  refine lv_istore_n (lv' := [(1, .int 0), (0, .ref h0)]) hx hb dX7_split_6 rfl hl (by decide) rfl (fun ls hl => ?_)
  refine lv_iconst (v := 0) hx hb dX7_split_7 (by decide) ?_
  refine lv_istore_n (lv' := [(2, .int 0), (1, .int 0), (0, .ref h0)]) hx hb dX7_split_8 rfl hl (by decide) rfl (fun ls hl => ?_)
  refine lv_iconst (v := 0) hx hb dX7_split_9 (by decide) ?_
  refine lv_istore (lv' := [(4, .int 0), (2, .int 0), (1, .int 0), (0, .ref h0)]) hx hb dX7_split_10 hl (by decide) rfl (fun ls hl => ?_)
  refine lv_iload hx hb dX7_split_12 (lv_at hl 0 rfl) ?_
  refine lv_aload_n hx hb dX7_split_14 rfl (lv_at hl 3 rfl) ?_
  refine va_get (D := D) (ci := 7) (v := .ref tl) (C := RX7) (T := TX7) (N := 7) hx hb hts hinX7 hown hK hP 0 rfl rfl 0 (by decide) (hts (.fieldLink RX7 14 "TaleReader$Words" "tale" "LTaleReader$Text;") (uc3 _ (List.mem_of_getElem? (i := 12) rfl))) (fun _ h9 => h9) rfl dX7_split_15 ?_
  have hPc := hP.sub (ws' := [(tl, .inr (5, [.ref ta, .int 0]))]) [1] rfl
  have hDc := hD.sub (ws' := [(tl, .inr (5, [.ref ta, .int 0]))]) [1] (by decide) rfl
  have hFc := va_free (wc := [(tl, .inr (5, [.ref ta, .int 0]))]) hD hS hA [1] rfl
  refine va_calli (va_runV (As := []) (rest := [.int 0]) ⟨hx, hb, hml, hown, hts⟩ (c_X5_size l D cB cI cZ H_1.size tl ta 0) (cwV 0 hts (uV (uc10 _ (List.mem_of_getElem? (i := 10) rfl)) (uc7 _ (List.mem_of_getElem? (i := 22) rfl)) (uc7 _ (List.mem_of_getElem? (i := 23) rfl)) (uc1 _ (List.mem_of_getElem? (i := 14) rfl)) (uc8 _ (List.mem_of_getElem? (i := 0) rfl))) rfl rfl rfl (by decide +kernel) ⟨Nat.le_of_ble_eq_true rfl, Nat.le_of_ble_eq_true rfl⟩) (pV hK hPc hDc 0 rfl rfl) rfl rfl hl.1 rfl (lv_room (Nat.le_of_ble_eq_true rfl)) dX7_split_18 ⟨Nat.le_of_ble_eq_true rfl, Nat.le_of_ble_eq_true rfl⟩) hS (fun q _ h => hFc q h) hFc (fun r_3 u t H_4 L_5 ht hvm hw hB hz1 hk1 hS => ?_)
  obtain ⟨hP1, -, hD1⟩ := hB
  rw [ht] at hP1
  obtain ⟨hP, hD⟩ := va_join (wr := [(h0, .inr (7, [.ref tl, .ref wa1, .ref wa2, .ref wa3, .ref wa4, .int 0, .int sc]))]) (w1 := [(tl, .inr (5, [.ref ta, .int 0]))]) hP hD [1] [0] rfl rfl (by decide) (by decide) hk1 hFc hP1 hD1
  have hP : va_P D vwCl [(h0, .inr (7, [.ref tl, .ref wa1, .ref wa2, .ref wa3, .ref wa4, .int 0, .int sc])), (tl, .inr (5, [.ref ta, .int 0]))] H_4 := hP.sub [0, 1] rfl
  have hD : va_D A [(h0, .inr (7, [.ref tl, .ref wa1, .ref wa2, .ref wa3, .ref wa4, .int 0, .int sc])), (tl, .inr (5, [.ref ta, .int 0]))] := hD.sub [0, 1] (by decide) rfl
  try dsimp only at hw
  subst hw
  refine lv_icmp_ge (tgt := 83) hx hb dX7_split_21 (by decide) (fun c_6 => ?_) (fun c_6 => ?_)
  · refine lv_aload_n hx hb dX7_split_83 rfl (lv_at hl 3 rfl) ?_
    refine lv_iload_n hx hb dX7_split_84 rfl (lv_at hl 1 rfl) ?_
    refine lv_if_eq (tgt := 94) hx hb dX7_split_85 (by decide) (fun c_7 => ?_) (fun c_7 => ?_)
    · refine lv_iload_n hx hb dX7_split_94 rfl (lv_at hl 2 rfl) ?_
      refine va_put (D := D) (ci := 7) (v := .int 0) (ty := .int) (C := RX7) (T := TX7) (N := 7) hx hb hts hinX7 tyX7 tyX7_ok nmX7 hown hK hP hD hS 0 rfl rfl 6 (by decide) (hts (.fieldLink RX7 37 "TaleReader$Words" "sentenceCount" "I") (uc3 _ (List.mem_of_getElem? (i := 19) rfl))) (fun _ h9 => h9) rfl (by decide +kernel) rfl rfl (Nat.le_of_ble_eq_true rfl) dX7_split_95 (fun H_8 L_9 hP hD hS => ?_)
      have hP : va_P D vwCl [(h0, .inr (7, [.ref tl, .ref wa1, .ref wa2, .ref wa3, .ref wa4, .int 0, .int 0])), (tl, .inr (5, [.ref ta, .int 0]))] H_8 := hP
      have hD : va_D A [(h0, .inr (7, [.ref tl, .ref wa1, .ref wa2, .ref wa3, .ref wa4, .int 0, .int 0])), (tl, .inr (5, [.ref ta, .int 0]))] := hD
      have hP9 := hP.sub (ws' := [(h0, .inr (7, [.ref tl, .ref wa1, .ref wa2, .ref wa3, .ref wa4, .int 0, .int 0])), (tl, .inr (5, [.ref ta, .int 0]))]) [0, 1] rfl
      have hD9 := hD.sub (ws' := [(h0, .inr (7, [.ref tl, .ref wa1, .ref wa2, .ref wa3, .ref wa4, .int 0, .int 0])), (tl, .inr (5, [.ref ta, .int 0]))]) [0, 1] (by decide) rfl
      exact W.vret hx hb hr (fun t ht hW => ⟨⟨(), rfl, trivial, ⟨by rw [ht]; exact hP9, va_K.moved hW.alike hK, hD9⟩⟩, hS.F ht⟩) hS.2.2 dX7_split_98
    · exact False.elim (by revert c_7; decide)
  · exact False.elim (by revert c_6; decide)
set_option maxHeartbeats 4000000 in
set_option maxRecDepth 100000 in
theorem c_X7_take_0 (l : Launch) (D : va_G) (cB cI cZ : ClassId) (sz : Nat) (h0 : Nat) (tl : Nat) (ta : Nat) (wa1 : Nat) (wa2 : Nat) (wa3 : Nat) (wa4 : Nat) (cnt : Int32) (sc : Int32) (h1 : Nat) (b : Nat) (v : Int32) : Met l yX7_take (.code yX7_take cX7_take 3 none :: wsL_law) ({ frames := 2, cells := 0, slots := 0, locals := 44 } : Room) (va_Pc [.ref h0, .ref h1] (pIn D (pT cB cI cZ) sz [(h0, .inr (7, [.ref tl, .ref wa1, .ref wa2, .ref wa3, .ref wa4, .int cnt, .int sc])), (tl, .inr (5, [.ref ta, .int v])), (h1, .inr (5, [.ref b, .int 0]))])) (va_Qv (fun (u : Unit) => True) (fun (u : Unit) (t : State) => pAt D (pT cB cI cZ) (va_A [(h0, .inr (7, [.ref tl, .ref wa1, .ref wa2, .ref wa3, .ref wa4, .int cnt, .int sc])), (tl, .inr (5, [.ref ta, .int v])), (h1, .inr (5, [.ref b, .int 0]))] sz) [(h0, .inr (7, [.ref tl, .ref wa1, .ref wa2, .ref wa3, .ref wa4, .int 0, .int 0])), (tl, .inr (5, [.ref ta, .int 0])), (h1, .inr (5, [.ref b, .int 0]))] t) (va_A [(h0, .inr (7, [.ref tl, .ref wa1, .ref wa2, .ref wa3, .ref wa4, .int cnt, .int sc])), (tl, .inr (5, [.ref ta, .int v])), (h1, .inr (5, [.ref b, .int 0]))] sz)) 0 0 (va_A [(h0, .inr (7, [.ref tl, .ref wa1, .ref wa2, .ref wa3, .ref wa4, .int cnt, .int sc])), (tl, .inr (5, [.ref ta, .int v])), (h1, .inr (5, [.ref b, .int 0]))] sz) := by
  refine Met.ofW (cc := cX7_take) (maxL := 3) (ret := none) (by decide) rfl ?_
  intro p e s m args below meth c s₁ B hml hv
  obtain ⟨rfl, hsz, hP, hK, hD0⟩ := hv
  have hx := B.exec
  have hb := B.bytes
  have hr := B.returns
  have hts0 := atoms_spec (ws := .code yX7_take cX7_take 3 none :: wsL_law) B.pre
  have hts := fun (w : Cond) (h : w ∈ wsL_law) => hts0 w (List.mem_cons_of_mem _ h)
  have hown : s.vm.findClass RX7 = some m.cls := findClass_of_methodNamed B.named
  have hlocks := B.notSynchronized
  have hinX7 := inlX7
  subst hsz
  have hD := hD0.self (sz := s.heap.size)
  generalize hAe : va_A [(h0, .inr (7, [.ref tl, .ref wa1, .ref wa2, .ref wa3, .ref wa4, .int cnt, .int sc])), (tl, .inr (5, [.ref ta, .int v])), (h1, .inr (5, [.ref b, .int 0]))] s.heap.size = A at hD ⊢
  have hA : ∀ q : Nat, s.heap.size ≤ q → A q := fun q h => by rw [← hAe]; exact Or.inr h
  have hS : va_S A s.heap s.heap [] := va_S.rf
  have hP : va_P D vwCl [(h0, .inr (7, [.ref tl, .ref wa1, .ref wa2, .ref wa3, .ref wa4, .int cnt, .int sc])), (tl, .inr (5, [.ref ta, .int v])), (h1, .inr (5, [.ref b, .int 0]))] s.heap := hP
  have hl := lv_entry ([.ref h0, .ref h1]) (n := 3) (Nat.le_of_ble_eq_true rfl)
  rw [lg_entry_eq]
  generalize (lg_sl ([.ref h0, .ref h1]) ++ List.replicate (3 - (lg_sl ([.ref h0, .ref h1])).length) Slot.unset).toArray = ls at hl ⊢
  have hl : lv_has ls 3 [(0, .ref h0), (1, .ref h1)] := hl
  refine lv_aload_n hx hb dX7_take_0 rfl (lv_at hl 0 rfl) ?_
  refine va_get (D := D) (ci := 7) (v := .ref tl) (C := RX7) (T := TX7) (N := 7) hx hb hts hinX7 hown hK hP 0 rfl rfl 0 (by decide) (hts (.fieldLink RX7 14 "TaleReader$Words" "tale" "LTaleReader$Text;") (uc3 _ (List.mem_of_getElem? (i := 12) rfl))) (fun _ h9 => h9) rfl dX7_take_1 ?_
  have hPc := hP.sub (ws' := [(tl, .inr (5, [.ref ta, .int v]))]) [1] rfl
  have hDc := hD.sub (ws' := [(tl, .inr (5, [.ref ta, .int v]))]) [1] (by decide) rfl
  have hFc := va_free (wc := [(tl, .inr (5, [.ref ta, .int v]))]) hD hS hA [1] rfl
  refine va_callv (va_runV (As := []) (rest := []) ⟨hx, hb, hml, hown, hts⟩ (c_X5_clear l D cB cI cZ s.heap.size tl ta v) (cwV 0 hts (uV (uc9 _ (List.mem_of_getElem? (i := 13) rfl)) (uc9 _ (List.mem_of_getElem? (i := 14) rfl)) (uc9 _ (List.mem_of_getElem? (i := 15) rfl)) (uc1 _ (List.mem_of_getElem? (i := 14) rfl)) (uc9 _ (List.mem_of_getElem? (i := 16) rfl))) rfl rfl rfl (by decide +kernel) ⟨Nat.le_of_ble_eq_true rfl, Nat.le_of_ble_eq_true rfl⟩) (pV hK hPc hDc 0 rfl rfl) rfl rfl hl.1 rfl (lv_room (Nat.le_of_ble_eq_true rfl)) dX7_take_4 ⟨Nat.le_of_ble_eq_true rfl, Nat.le_of_ble_eq_true rfl⟩) hS (fun q _ h => hFc q h) hFc (fun u t H_2 L_3 ht hvm hw hB hz1 hk1 hS => ?_)
  obtain ⟨hP1, -, hD1⟩ := hB
  rw [ht] at hP1
  obtain ⟨hP, hD⟩ := va_join (wr := [(h0, .inr (7, [.ref tl, .ref wa1, .ref wa2, .ref wa3, .ref wa4, .int cnt, .int sc])), (h1, .inr (5, [.ref b, .int 0]))]) (w1 := [(tl, .inr (5, [.ref ta, .int 0]))]) hP hD [1] [0, 2] rfl rfl (by decide) (by decide) hk1 hFc hP1 hD1
  have hP : va_P D vwCl [(h0, .inr (7, [.ref tl, .ref wa1, .ref wa2, .ref wa3, .ref wa4, .int cnt, .int sc])), (tl, .inr (5, [.ref ta, .int 0])), (h1, .inr (5, [.ref b, .int 0]))] H_2 := hP.sub [0, 2, 1] rfl
  have hD : va_D A [(h0, .inr (7, [.ref tl, .ref wa1, .ref wa2, .ref wa3, .ref wa4, .int cnt, .int sc])), (tl, .inr (5, [.ref ta, .int 0])), (h1, .inr (5, [.ref b, .int 0]))] := hD.sub [0, 2, 1] (by decide) rfl
  try dsimp only at hw
  refine lv_aload_n hx hb dX7_take_7 rfl (lv_at hl 0 rfl) ?_
  refine va_get (D := D) (ci := 7) (v := .ref tl) (C := RX7) (T := TX7) (N := 7) hx hb hts hinX7 hown hK hP 0 rfl rfl 0 (by decide) (hts (.fieldLink RX7 14 "TaleReader$Words" "tale" "LTaleReader$Text;") (uc3 _ (List.mem_of_getElem? (i := 12) rfl))) (fun _ h9 => h9) rfl dX7_take_8 ?_
  refine lv_aload_n hx hb dX7_take_11 rfl (lv_at hl 1 rfl) ?_
  have hPc := hP.sub (ws' := [(tl, .inr (5, [.ref ta, .int 0])), (h1, .inr (5, [.ref b, .int 0]))]) [1, 2] rfl
  have hDc := hD.sub (ws' := [(tl, .inr (5, [.ref ta, .int 0])), (h1, .inr (5, [.ref b, .int 0]))]) [1, 2] (by decide) rfl
  have hFc := va_free (wc := [(tl, .inr (5, [.ref ta, .int 0])), (h1, .inr (5, [.ref b, .int 0]))]) hD hS hA [1, 2] rfl
  refine va_callv (va_runV (As := [.ref h1]) (rest := []) ⟨hx, hb, hml, hown, hts⟩ (c_X5_addAll_0 l D cB cI cZ H_2.size tl h1 ta b 0) (cwV 1 hts (uV (uc9 _ (List.mem_of_getElem? (i := 17) rfl)) (uc9 _ (List.mem_of_getElem? (i := 18) rfl)) (uc9 _ (List.mem_of_getElem? (i := 19) rfl)) (uc1 _ (List.mem_of_getElem? (i := 14) rfl)) (uc9 _ (List.mem_of_getElem? (i := 20) rfl))) rfl rfl rfl (by decide +kernel) ⟨Nat.le_of_ble_eq_true rfl, Nat.le_of_ble_eq_true rfl⟩) (pV hK hPc hDc 0 rfl rfl) rfl rfl hl.1 rfl (lv_room (Nat.le_of_ble_eq_true rfl)) dX7_take_12 ⟨Nat.le_of_ble_eq_true rfl, Nat.le_of_ble_eq_true rfl⟩) hS (fun q _ h => hFc q h) hFc (fun u t H_5 L_6 ht hvm hw hB hz1 hk1 hS => ?_)
  obtain ⟨hP1, -, hD1⟩ := hB
  rw [ht] at hP1
  obtain ⟨hP, hD⟩ := va_join (wr := [(h0, .inr (7, [.ref tl, .ref wa1, .ref wa2, .ref wa3, .ref wa4, .int cnt, .int sc]))]) (w1 := [(tl, .inr (5, [.ref ta, .int 0])), (h1, .inr (5, [.ref b, .int 0]))]) hP hD [1, 2] [0] rfl rfl (by decide) (by decide) hk1 hFc hP1 hD1
  have hP : va_P D vwCl [(h0, .inr (7, [.ref tl, .ref wa1, .ref wa2, .ref wa3, .ref wa4, .int cnt, .int sc])), (tl, .inr (5, [.ref ta, .int 0])), (h1, .inr (5, [.ref b, .int 0]))] H_5 := hP.sub [0, 1, 2] rfl
  have hD : va_D A [(h0, .inr (7, [.ref tl, .ref wa1, .ref wa2, .ref wa3, .ref wa4, .int cnt, .int sc])), (tl, .inr (5, [.ref ta, .int 0])), (h1, .inr (5, [.ref b, .int 0]))] := hD.sub [0, 1, 2] (by decide) rfl
  try dsimp only at hw
  refine lv_aload_n hx hb dX7_take_15 rfl (lv_at hl 0 rfl) ?_
  have hPc := hP.sub (ws' := [(h0, .inr (7, [.ref tl, .ref wa1, .ref wa2, .ref wa3, .ref wa4, .int cnt, .int sc])), (tl, .inr (5, [.ref ta, .int 0]))]) [0, 1] rfl
  have hDc := hD.sub (ws' := [(h0, .inr (7, [.ref tl, .ref wa1, .ref wa2, .ref wa3, .ref wa4, .int cnt, .int sc])), (tl, .inr (5, [.ref ta, .int 0]))]) [0, 1] (by decide) rfl
  have hFc := va_free (wc := [(h0, .inr (7, [.ref tl, .ref wa1, .ref wa2, .ref wa3, .ref wa4, .int cnt, .int sc])), (tl, .inr (5, [.ref ta, .int 0]))]) hD hS hA [0, 1] rfl
  refine va_callv (va_runV (As := []) (rest := []) ⟨hx, hb, hml, hown, hts⟩ (c_X7_split_0 l D cB cI cZ H_5.size h0 tl ta wa1 wa2 wa3 wa4 cnt sc) (cwV 0 hts (uV (uc10 _ (List.mem_of_getElem? (i := 5) rfl)) (uc10 _ (List.mem_of_getElem? (i := 6) rfl)) (uc10 _ (List.mem_of_getElem? (i := 7) rfl)) (uc1 _ (List.mem_of_getElem? (i := 18) rfl)) (uc10 _ (List.mem_of_getElem? (i := 8) rfl))) rfl rfl rfl (by decide +kernel) ⟨Nat.le_of_ble_eq_true rfl, Nat.le_of_ble_eq_true rfl⟩) (pV hK hPc hDc 0 rfl rfl) rfl rfl hl.1 rfl (lv_room (Nat.le_of_ble_eq_true rfl)) dX7_take_16 ⟨Nat.le_of_ble_eq_true rfl, Nat.le_of_ble_eq_true rfl⟩) hS (fun q _ h => hFc q h) hFc (fun u t H_8 L_9 ht hvm hw hB hz1 hk1 hS => ?_)
  obtain ⟨hP1, -, hD1⟩ := hB
  rw [ht] at hP1
  obtain ⟨hP, hD⟩ := va_join (wr := [(h1, .inr (5, [.ref b, .int 0]))]) (w1 := [(h0, .inr (7, [.ref tl, .ref wa1, .ref wa2, .ref wa3, .ref wa4, .int 0, .int 0])), (tl, .inr (5, [.ref ta, .int 0]))]) hP hD [0, 1] [2] rfl rfl (by decide) (by decide) hk1 hFc hP1 hD1
  have hP : va_P D vwCl [(h0, .inr (7, [.ref tl, .ref wa1, .ref wa2, .ref wa3, .ref wa4, .int 0, .int 0])), (tl, .inr (5, [.ref ta, .int 0])), (h1, .inr (5, [.ref b, .int 0]))] H_8 := hP.sub [1, 2, 0] rfl
  have hD : va_D A [(h0, .inr (7, [.ref tl, .ref wa1, .ref wa2, .ref wa3, .ref wa4, .int 0, .int 0])), (tl, .inr (5, [.ref ta, .int 0])), (h1, .inr (5, [.ref b, .int 0]))] := hD.sub [1, 2, 0] (by decide) rfl
  try dsimp only at hw
  refine lv_iconst (v := 0) hx hb dX7_take_19 (by decide) ?_
  refine lv_istore_n (lv' := [(2, .int 0), (0, .ref h0), (1, .ref h1)]) hx hb dX7_take_20 rfl hl (by decide) rfl (fun ls hl => ?_)
  refine lv_iload_n hx hb dX7_take_21 rfl (lv_at hl 0 rfl) ?_
  refine lv_aload_n hx hb dX7_take_22 rfl (lv_at hl 1 rfl) ?_
  refine va_get (D := D) (ci := 7) (v := .int 0) (C := RX7) (T := TX7) (N := 7) hx hb hts hinX7 hown hK hP 0 rfl rfl 5 (by decide) (hts (.fieldLink RX7 33 "TaleReader$Words" "count" "I") (uc3 _ (List.mem_of_getElem? (i := 18) rfl))) (fun _ h9 => h9) rfl dX7_take_23 ?_
  refine lv_icmp_ge (tgt := 46) hx hb dX7_take_26 (by decide) (fun c_10 => ?_) (fun c_10 => ?_)
  · refine lv_iconst (v := 0) hx hb dX7_take_46 (by decide) ?_
    refine lv_istore_n (lv' := [(2, .int 0), (0, .ref h0), (1, .ref h1)]) hx hb dX7_take_47 rfl hl (by decide) rfl (fun ls hl => ?_)
    refine lv_iload_n hx hb dX7_take_48 rfl (lv_at hl 0 rfl) ?_
    refine lv_aload_n hx hb dX7_take_49 rfl (lv_at hl 1 rfl) ?_
    refine va_get (D := D) (ci := 7) (v := .int 0) (C := RX7) (T := TX7) (N := 7) hx hb hts hinX7 hown hK hP 0 rfl rfl 5 (by decide) (hts (.fieldLink RX7 33 "TaleReader$Words" "count" "I") (uc3 _ (List.mem_of_getElem? (i := 18) rfl))) (fun _ h9 => h9) rfl dX7_take_50 ?_
    refine lv_icmp_ge (tgt := 88) hx hb dX7_take_53 (by decide) (fun c_11 => ?_) (fun c_11 => ?_)
    · have hP9 := hP.sub (ws' := [(h0, .inr (7, [.ref tl, .ref wa1, .ref wa2, .ref wa3, .ref wa4, .int 0, .int 0])), (tl, .inr (5, [.ref ta, .int 0])), (h1, .inr (5, [.ref b, .int 0]))]) [0, 1, 2] rfl
      have hD9 := hD.sub (ws' := [(h0, .inr (7, [.ref tl, .ref wa1, .ref wa2, .ref wa3, .ref wa4, .int 0, .int 0])), (tl, .inr (5, [.ref ta, .int 0])), (h1, .inr (5, [.ref b, .int 0]))]) [0, 1, 2] (by decide) rfl
      exact W.vret hx hb hr (fun t ht hW => ⟨⟨(), rfl, trivial, ⟨by rw [ht]; exact hP9, va_K.moved hW.alike hK, hD9⟩⟩, hS.F ht⟩) hS.2.2 dX7_take_88
    · exact False.elim (by revert c_11; decide)
  · exact False.elim (by revert c_10; decide)
