set_option maxHeartbeats 4000000 in
set_option maxRecDepth 100000 in
theorem s_X7_init (l : Launch) (D : va_G) (cB cI cZ : ClassId) (E : pEt) (sz : Nat) (h0 : Nat) : Met l yX7_init (.code yX7_init cX7_init 1 none :: wsL_law) ({ frames := 2, cells := 6, slots := 1802, locals := 35 } : Room) (va_Pc [.ref h0] (pInE E D (pT cB cI cZ) sz [(h0, .inr (7, [.null, .null, .null, .null, .null, .int 0, .int 0]))])) (va_Qv (fun (u : Nat × Nat × Nat × Nat × Nat × Nat) => True) (fun (u : Nat × Nat × Nat × Nat × Nat × Nat) (t : State) => pAt D (pT cB cI cZ) (va_A [(h0, .inr (7, [.null, .null, .null, .null, .null, .int 0, .int 0]))] sz) [(h0, .inr (7, [.ref u.1, .ref u.2.2.1, .ref u.2.2.2.1, .ref u.2.2.2.2.1, .ref u.2.2.2.2.2, .int 0, .int 0])), (u.1, .inr (5, [.ref u.2.1, .int 0])), (u.2.1, .inl (cB, 600, .inl (fun _ => 0))), (u.2.2.1, .inl (cI, 300, .inl (fun _ => 0))), (u.2.2.2.1, .inl (cI, 300, .inl (fun _ => 0))), (u.2.2.2.2.1, .inl (cI, 300, .inl (fun _ => 0))), (u.2.2.2.2.2, .inl (cI, 300, .inl (fun _ => 0)))] t) (va_A [(h0, .inr (7, [.null, .null, .null, .null, .null, .int 0, .int 0]))] sz)) 6 1802 (va_A [(h0, .inr (7, [.null, .null, .null, .null, .null, .int 0, .int 0]))] sz) := by
  refine Met.ofW (cc := cX7_init) (maxL := 1) (ret := none) (by decide) rfl ?_
  intro p e s m args below meth cd s₁ B hml hv
  obtain ⟨rfl, hsz, hP, hK, hD0, hE⟩ := hv
  have hx := B.exec
  have hb := B.bytes
  have hr := B.returns
  have hts0 := atoms_spec (ws := .code yX7_init cX7_init 1 none :: wsL_law) B.pre
  have hts := fun (w : Cond) (h : w ∈ wsL_law) => hts0 w (List.mem_cons_of_mem _ h)
  have hown : s.vm.findClass RX7 = some m.cls := findClass_of_methodNamed B.named
  have hlocks := B.notSynchronized
  have hin : meth.name = "<init>" := (name_of_methodNamed B.named B.method).1
  have hinX5 := inlX5
  have hinX7 := inlX7
  subst hsz
  have hD := hD0.self (sz := s.heap.size)
  generalize hAe : va_A [(h0, .inr (7, [.null, .null, .null, .null, .null, .int 0, .int 0]))] s.heap.size = A at hD hE ⊢
  have hA : ∀ q : Nat, s.heap.size ≤ q → A q := fun q h => by rw [← hAe]; exact Or.inr h
  have hS : va_S A s.heap s.heap [] := va_S.rf
  have hP : va_P D vwCl [(h0, .inr (7, [.null, .null, .null, .null, .null, .int 0, .int 0]))] s.heap := hP
  have hl := lv_entry ([.ref h0]) (n := 1) (Nat.le_of_ble_eq_true rfl)
  rw [lg_entry_eq]
  generalize (lg_sl ([.ref h0]) ++ List.replicate (1 - (lg_sl ([.ref h0])).length) Slot.unset).toArray = ls at hl ⊢
  have hl : lv_has ls 1 [(0, .ref h0)] := hl
  refine lv_aload_n hx hb dX7_init_0 rfl (lv_at hl 0 rfl) ?_
  refine W.objInit hx hb hown (hts (.methodLink RX7 3 objectInit) (uc3 _ (List.mem_of_getElem? (i := 10) rfl))) (hts (.instanceMethod objectInit) (uc1 _ (List.mem_of_getElem? (i := 10) rfl))) (hts (.code objectInit ⟨#[0xb1]⟩ 1 none) (uc1 _ (List.mem_of_getElem? (i := 11) rfl))) rfl (by rw [hml]; exact hl.1) rfl dX7_init_1 (Nat.le_of_ble_eq_true rfl) (Nat.le_of_ble_eq_true rfl) ?_
  refine W.eq (g2 := F0 m 4 ls []) rfl ?_
  refine lv_aload_n hx hb dX7_init_4 rfl (lv_at hl 0 rfl) ?_
  refine va_new (ci := 5) (fs := [.null, .int 0]) (C := RX5) (T := TX5) (N := 2) hx hb hts hinX5 tyX5 tyX5_ok hown (hts (.classLink RX7 9 RX5) (uc3 _ (List.mem_of_getElem? (i := 11) rfl))) (hts (.instantiable RX5 2) (uc1 _ (List.mem_of_getElem? (i := 13) rfl))) (hts (.initialized RX5) (uc1 _ (List.mem_of_getElem? (i := 14) rfl))) hK hP hD hS hA rfl (fun j hj => by rcases (show j = 0 ∨ j = 1 by omega) with rfl | rfl <;> rfl) (Nat.le_of_ble_eq_true rfl) (Nat.le_of_ble_eq_true rfl) dX7_init_5 (fun q_1 H_2 hP hD hS => ?_)
  have hP : va_P D vwCl [(h0, .inr (7, [.null, .null, .null, .null, .null, .int 0, .int 0])), (q_1, .inr (5, [.null, .int 0]))] H_2 := hP
  have hD : va_D A [(h0, .inr (7, [.null, .null, .null, .null, .null, .int 0, .int 0])), (q_1, .inr (5, [.null, .int 0]))] := hD
  refine W.widen (k := 1) (n := 2) (by decide) (by decide) ?_
  refine lv_dup hx hb dX7_init_8 rfl ?_
  refine lv_sipush (v := 600) hx hb dX7_init_9 (by decide) ?_
  have hPc := hP.sub (ws' := [(q_1, .inr (5, [.null, .int 0]))]) [1] rfl
  have hDc := hD.sub (ws' := [(q_1, .inr (5, [.null, .int 0]))]) [1] (by decide) rfl
  have hFc := va_free (wc := [(q_1, .inr (5, [.null, .int 0]))]) hD hS hA [1] rfl
  refine va_callv (va_runI (As := [.int 600]) (rest := [.ref q_1, .ref h0]) ⟨hx, hb, hml, hown, hts⟩ (s_X5_init_600 l D cB cI cZ E H_2.size q_1) (cwI 1 hts (uI (uc2 _ (List.mem_of_getElem? (i := 22) rfl))) rfl rfl rfl (hts (.initialized RX5) (uc1 _ (List.mem_of_getElem? (i := 14) rfl))) (hts (.methodLink RX7 11 yX5_init) (uc3 _ (List.mem_of_getElem? (i := 20) rfl))) (hts (.instanceMethod yX5_init) (uc2 _ (List.mem_of_getElem? (i := 21) rfl))) rfl (by decide +kernel) ⟨Nat.le_of_ble_eq_true rfl, Nat.le_of_ble_eq_true rfl⟩) (pSE hE hS hFc hK hPc hDc) rfl rfl hl.1 rfl (lv_room (Nat.le_of_ble_eq_true rfl)) dX7_init_12 ⟨Nat.le_of_ble_eq_true rfl, Nat.le_of_ble_eq_true rfl⟩) hS (fun q _ h => hFc q h) hFc (fun u t H_4 L_5 ht hvm hw hB hz1 hk1 hS => ?_)
  obtain ⟨qa_6, rfl⟩ : ∃ z, z = u := ⟨_, rfl⟩
  obtain ⟨hP1, -, hD1⟩ := hB
  rw [ht] at hP1
  obtain ⟨hP, hD⟩ := va_join (wr := [(h0, .inr (7, [.null, .null, .null, .null, .null, .int 0, .int 0]))]) (w1 := [(q_1, .inr (5, [.ref qa_6, .int 0])), (qa_6, .inl (cB, 600, .inl (fun _ => 0)))]) hP hD [1] [0] rfl rfl (by decide) (by decide) hk1 hFc hP1 hD1
  have hP : va_P D vwCl [(h0, .inr (7, [.null, .null, .null, .null, .null, .int 0, .int 0])), (q_1, .inr (5, [.ref qa_6, .int 0])), (qa_6, .inl (cB, 600, .inl (fun _ => 0)))] H_4 := hP.sub [0, 1, 2] rfl
  have hD : va_D A [(h0, .inr (7, [.null, .null, .null, .null, .null, .int 0, .int 0])), (q_1, .inr (5, [.ref qa_6, .int 0])), (qa_6, .inl (cB, 600, .inl (fun _ => 0)))] := hD.sub [0, 1, 2] (by decide) rfl
  refine W.widen (k := 2) (n := 602) (by decide) (by decide) ?_
  try dsimp only at hw
  refine va_putF (D := D) (ci := 7) (v := .ref q_1) (ty := (.object "TaleReader$Text")) (C := RX7) (T := TX7) (N := 7) hx hb hts hinX7 tyX7 tyX7_ok nmX7 hown hK hP hD hS 0 rfl rfl 0 (by decide) (hts (.fieldLink RX7 14 "TaleReader$Words" "tale" "LTaleReader$Text;") (uc3 _ (List.mem_of_getElem? (i := 12) rfl))) (fun _ h9 => h9) rfl hin rfl (by decide +kernel) rfl rfl (Nat.le_of_ble_eq_true rfl) dX7_init_15 (fun H_7 L_8 hP hD hS => ?_)
  have hP : va_P D vwCl [(h0, .inr (7, [.ref q_1, .null, .null, .null, .null, .int 0, .int 0])), (q_1, .inr (5, [.ref qa_6, .int 0])), (qa_6, .inl (cB, 600, .inl (fun _ => 0)))] H_7 := hP
  have hD : va_D A [(h0, .inr (7, [.ref q_1, .null, .null, .null, .null, .int 0, .int 0])), (q_1, .inr (5, [.ref qa_6, .int 0])), (qa_6, .inl (cB, 600, .inl (fun _ => 0)))] := hD
  refine lv_aload_n hx hb dX7_init_18 rfl (lv_at hl 0 rfl) ?_
  refine lv_sipush (v := 300) hx hb dX7_init_19 (by decide) ?_
  refine pNewa (D := D) (cl := vwCl) (ty := .int) (N' := 300) (a0 := (300, .inl (fun _ => 0))) (cA := cI) hx hb (hts (.arrayClass .int) (uc3 _ (List.mem_of_getElem? (i := 13) rfl))) rfl hK hP hD hS hA (fun _ => rfl) (by decide) (by decide) (by decide) (Nat.le_of_ble_eq_true rfl) (Nat.le_of_ble_eq_true rfl) dX7_init_22 1 rfl (fun q_9 H_10 hP hD hS => ?_)
  have hP : va_P D vwCl [(h0, .inr (7, [.ref q_1, .null, .null, .null, .null, .int 0, .int 0])), (q_1, .inr (5, [.ref qa_6, .int 0])), (qa_6, .inl (cB, 600, .inl (fun _ => 0))), (q_9, .inl (cI, 300, .inl (fun _ => 0)))] H_10 := hP
  have hD : va_D A [(h0, .inr (7, [.ref q_1, .null, .null, .null, .null, .int 0, .int 0])), (q_1, .inr (5, [.ref qa_6, .int 0])), (qa_6, .inl (cB, 600, .inl (fun _ => 0))), (q_9, .inl (cI, 300, .inl (fun _ => 0)))] := hD
  refine W.widen (k := 3) (n := 902) (by decide) (by decide) ?_
  refine va_putF (D := D) (ci := 7) (v := .ref q_9) (ty := (.array .int)) (C := RX7) (T := TX7) (N := 7) hx hb hts hinX7 tyX7 tyX7_ok nmX7 hown hK hP hD hS 0 rfl rfl 1 (by decide) (hts (.fieldLink RX7 20 "TaleReader$Words" "places" "[I") (uc3 _ (List.mem_of_getElem? (i := 14) rfl))) (fun _ h9 => h9) rfl hin rfl (by decide +kernel) rfl rfl (Nat.le_of_ble_eq_true rfl) dX7_init_24 (fun H_11 L_12 hP hD hS => ?_)
  have hP : va_P D vwCl [(h0, .inr (7, [.ref q_1, .ref q_9, .null, .null, .null, .int 0, .int 0])), (q_1, .inr (5, [.ref qa_6, .int 0])), (qa_6, .inl (cB, 600, .inl (fun _ => 0))), (q_9, .inl (cI, 300, .inl (fun _ => 0)))] H_11 := hP
  have hD : va_D A [(h0, .inr (7, [.ref q_1, .ref q_9, .null, .null, .null, .int 0, .int 0])), (q_1, .inr (5, [.ref qa_6, .int 0])), (qa_6, .inl (cB, 600, .inl (fun _ => 0))), (q_9, .inl (cI, 300, .inl (fun _ => 0)))] := hD
  refine lv_aload_n hx hb dX7_init_27 rfl (lv_at hl 0 rfl) ?_
  refine lv_sipush (v := 300) hx hb dX7_init_28 (by decide) ?_
  refine pNewa (D := D) (cl := vwCl) (ty := .int) (N' := 300) (a0 := (300, .inl (fun _ => 0))) (cA := cI) hx hb (hts (.arrayClass .int) (uc3 _ (List.mem_of_getElem? (i := 13) rfl))) rfl hK hP hD hS hA (fun _ => rfl) (by decide) (by decide) (by decide) (Nat.le_of_ble_eq_true rfl) (Nat.le_of_ble_eq_true rfl) dX7_init_31 1 rfl (fun q_13 H_14 hP hD hS => ?_)
  have hP : va_P D vwCl [(h0, .inr (7, [.ref q_1, .ref q_9, .null, .null, .null, .int 0, .int 0])), (q_1, .inr (5, [.ref qa_6, .int 0])), (qa_6, .inl (cB, 600, .inl (fun _ => 0))), (q_9, .inl (cI, 300, .inl (fun _ => 0))), (q_13, .inl (cI, 300, .inl (fun _ => 0)))] H_14 := hP
  have hD : va_D A [(h0, .inr (7, [.ref q_1, .ref q_9, .null, .null, .null, .int 0, .int 0])), (q_1, .inr (5, [.ref qa_6, .int 0])), (qa_6, .inl (cB, 600, .inl (fun _ => 0))), (q_9, .inl (cI, 300, .inl (fun _ => 0))), (q_13, .inl (cI, 300, .inl (fun _ => 0)))] := hD
  refine W.widen (k := 4) (n := 1202) (by decide) (by decide) ?_
  refine va_putF (D := D) (ci := 7) (v := .ref q_13) (ty := (.array .int)) (C := RX7) (T := TX7) (N := 7) hx hb hts hinX7 tyX7 tyX7_ok nmX7 hown hK hP hD hS 0 rfl rfl 2 (by decide) (hts (.fieldLink RX7 24 "TaleReader$Words" "lengths" "[I") (uc3 _ (List.mem_of_getElem? (i := 15) rfl))) (fun _ h9 => h9) rfl hin rfl (by decide +kernel) rfl rfl (Nat.le_of_ble_eq_true rfl) dX7_init_33 (fun H_15 L_16 hP hD hS => ?_)
  have hP : va_P D vwCl [(h0, .inr (7, [.ref q_1, .ref q_9, .ref q_13, .null, .null, .int 0, .int 0])), (q_1, .inr (5, [.ref qa_6, .int 0])), (qa_6, .inl (cB, 600, .inl (fun _ => 0))), (q_9, .inl (cI, 300, .inl (fun _ => 0))), (q_13, .inl (cI, 300, .inl (fun _ => 0)))] H_15 := hP
  have hD : va_D A [(h0, .inr (7, [.ref q_1, .ref q_9, .ref q_13, .null, .null, .int 0, .int 0])), (q_1, .inr (5, [.ref qa_6, .int 0])), (qa_6, .inl (cB, 600, .inl (fun _ => 0))), (q_9, .inl (cI, 300, .inl (fun _ => 0))), (q_13, .inl (cI, 300, .inl (fun _ => 0)))] := hD
  refine lv_aload_n hx hb dX7_init_36 rfl (lv_at hl 0 rfl) ?_
  refine lv_sipush (v := 300) hx hb dX7_init_37 (by decide) ?_
  refine pNewa (D := D) (cl := vwCl) (ty := .int) (N' := 300) (a0 := (300, .inl (fun _ => 0))) (cA := cI) hx hb (hts (.arrayClass .int) (uc3 _ (List.mem_of_getElem? (i := 13) rfl))) rfl hK hP hD hS hA (fun _ => rfl) (by decide) (by decide) (by decide) (Nat.le_of_ble_eq_true rfl) (Nat.le_of_ble_eq_true rfl) dX7_init_40 1 rfl (fun q_17 H_18 hP hD hS => ?_)
  have hP : va_P D vwCl [(h0, .inr (7, [.ref q_1, .ref q_9, .ref q_13, .null, .null, .int 0, .int 0])), (q_1, .inr (5, [.ref qa_6, .int 0])), (qa_6, .inl (cB, 600, .inl (fun _ => 0))), (q_9, .inl (cI, 300, .inl (fun _ => 0))), (q_13, .inl (cI, 300, .inl (fun _ => 0))), (q_17, .inl (cI, 300, .inl (fun _ => 0)))] H_18 := hP
  have hD : va_D A [(h0, .inr (7, [.ref q_1, .ref q_9, .ref q_13, .null, .null, .int 0, .int 0])), (q_1, .inr (5, [.ref qa_6, .int 0])), (qa_6, .inl (cB, 600, .inl (fun _ => 0))), (q_9, .inl (cI, 300, .inl (fun _ => 0))), (q_13, .inl (cI, 300, .inl (fun _ => 0))), (q_17, .inl (cI, 300, .inl (fun _ => 0)))] := hD
  refine W.widen (k := 5) (n := 1502) (by decide) (by decide) ?_
  refine va_putF (D := D) (ci := 7) (v := .ref q_17) (ty := (.array .int)) (C := RX7) (T := TX7) (N := 7) hx hb hts hinX7 tyX7 tyX7_ok nmX7 hown hK hP hD hS 0 rfl rfl 3 (by decide) (hts (.fieldLink RX7 27 "TaleReader$Words" "sentences" "[I") (uc3 _ (List.mem_of_getElem? (i := 16) rfl))) (fun _ h9 => h9) rfl hin rfl (by decide +kernel) rfl rfl (Nat.le_of_ble_eq_true rfl) dX7_init_42 (fun H_19 L_20 hP hD hS => ?_)
  have hP : va_P D vwCl [(h0, .inr (7, [.ref q_1, .ref q_9, .ref q_13, .ref q_17, .null, .int 0, .int 0])), (q_1, .inr (5, [.ref qa_6, .int 0])), (qa_6, .inl (cB, 600, .inl (fun _ => 0))), (q_9, .inl (cI, 300, .inl (fun _ => 0))), (q_13, .inl (cI, 300, .inl (fun _ => 0))), (q_17, .inl (cI, 300, .inl (fun _ => 0)))] H_19 := hP
  have hD : va_D A [(h0, .inr (7, [.ref q_1, .ref q_9, .ref q_13, .ref q_17, .null, .int 0, .int 0])), (q_1, .inr (5, [.ref qa_6, .int 0])), (qa_6, .inl (cB, 600, .inl (fun _ => 0))), (q_9, .inl (cI, 300, .inl (fun _ => 0))), (q_13, .inl (cI, 300, .inl (fun _ => 0))), (q_17, .inl (cI, 300, .inl (fun _ => 0)))] := hD
  refine lv_aload_n hx hb dX7_init_45 rfl (lv_at hl 0 rfl) ?_
  refine lv_sipush (v := 300) hx hb dX7_init_46 (by decide) ?_
  refine pNewa (D := D) (cl := vwCl) (ty := .int) (N' := 300) (a0 := (300, .inl (fun _ => 0))) (cA := cI) hx hb (hts (.arrayClass .int) (uc3 _ (List.mem_of_getElem? (i := 13) rfl))) rfl hK hP hD hS hA (fun _ => rfl) (by decide) (by decide) (by decide) (Nat.le_of_ble_eq_true rfl) (Nat.le_of_ble_eq_true rfl) dX7_init_49 1 rfl (fun q_21 H_22 hP hD hS => ?_)
  have hP : va_P D vwCl [(h0, .inr (7, [.ref q_1, .ref q_9, .ref q_13, .ref q_17, .null, .int 0, .int 0])), (q_1, .inr (5, [.ref qa_6, .int 0])), (qa_6, .inl (cB, 600, .inl (fun _ => 0))), (q_9, .inl (cI, 300, .inl (fun _ => 0))), (q_13, .inl (cI, 300, .inl (fun _ => 0))), (q_17, .inl (cI, 300, .inl (fun _ => 0))), (q_21, .inl (cI, 300, .inl (fun _ => 0)))] H_22 := hP
  have hD : va_D A [(h0, .inr (7, [.ref q_1, .ref q_9, .ref q_13, .ref q_17, .null, .int 0, .int 0])), (q_1, .inr (5, [.ref qa_6, .int 0])), (qa_6, .inl (cB, 600, .inl (fun _ => 0))), (q_9, .inl (cI, 300, .inl (fun _ => 0))), (q_13, .inl (cI, 300, .inl (fun _ => 0))), (q_17, .inl (cI, 300, .inl (fun _ => 0))), (q_21, .inl (cI, 300, .inl (fun _ => 0)))] := hD
  refine W.widen (k := 6) (n := 1802) (by decide) (by decide) ?_
  refine va_putF (D := D) (ci := 7) (v := .ref q_21) (ty := (.array .int)) (C := RX7) (T := TX7) (N := 7) hx hb hts hinX7 tyX7 tyX7_ok nmX7 hown hK hP hD hS 0 rfl rfl 4 (by decide) (hts (.fieldLink RX7 30 "TaleReader$Words" "kinds" "[I") (uc3 _ (List.mem_of_getElem? (i := 17) rfl))) (fun _ h9 => h9) rfl hin rfl (by decide +kernel) rfl rfl (Nat.le_of_ble_eq_true rfl) dX7_init_51 (fun H_23 L_24 hP hD hS => ?_)
  have hP : va_P D vwCl [(h0, .inr (7, [.ref q_1, .ref q_9, .ref q_13, .ref q_17, .ref q_21, .int 0, .int 0])), (q_1, .inr (5, [.ref qa_6, .int 0])), (qa_6, .inl (cB, 600, .inl (fun _ => 0))), (q_9, .inl (cI, 300, .inl (fun _ => 0))), (q_13, .inl (cI, 300, .inl (fun _ => 0))), (q_17, .inl (cI, 300, .inl (fun _ => 0))), (q_21, .inl (cI, 300, .inl (fun _ => 0)))] H_23 := hP
  have hD : va_D A [(h0, .inr (7, [.ref q_1, .ref q_9, .ref q_13, .ref q_17, .ref q_21, .int 0, .int 0])), (q_1, .inr (5, [.ref qa_6, .int 0])), (qa_6, .inl (cB, 600, .inl (fun _ => 0))), (q_9, .inl (cI, 300, .inl (fun _ => 0))), (q_13, .inl (cI, 300, .inl (fun _ => 0))), (q_17, .inl (cI, 300, .inl (fun _ => 0))), (q_21, .inl (cI, 300, .inl (fun _ => 0)))] := hD
  refine lv_aload_n hx hb dX7_init_54 rfl (lv_at hl 0 rfl) ?_
  refine lv_iconst (v := 0) hx hb dX7_init_55 (by decide) ?_
  refine va_put (D := D) (ci := 7) (v := .int 0) (ty := .int) (C := RX7) (T := TX7) (N := 7) hx hb hts hinX7 tyX7 tyX7_ok nmX7 hown hK hP hD hS 0 rfl rfl 5 (by decide) (hts (.fieldLink RX7 33 "TaleReader$Words" "count" "I") (uc3 _ (List.mem_of_getElem? (i := 18) rfl))) (fun _ h9 => h9) rfl (by decide +kernel) rfl rfl (Nat.le_of_ble_eq_true rfl) dX7_init_56 (fun H_25 L_26 hP hD hS => ?_)
  have hP : va_P D vwCl [(h0, .inr (7, [.ref q_1, .ref q_9, .ref q_13, .ref q_17, .ref q_21, .int 0, .int 0])), (q_1, .inr (5, [.ref qa_6, .int 0])), (qa_6, .inl (cB, 600, .inl (fun _ => 0))), (q_9, .inl (cI, 300, .inl (fun _ => 0))), (q_13, .inl (cI, 300, .inl (fun _ => 0))), (q_17, .inl (cI, 300, .inl (fun _ => 0))), (q_21, .inl (cI, 300, .inl (fun _ => 0)))] H_25 := hP
  have hD : va_D A [(h0, .inr (7, [.ref q_1, .ref q_9, .ref q_13, .ref q_17, .ref q_21, .int 0, .int 0])), (q_1, .inr (5, [.ref qa_6, .int 0])), (qa_6, .inl (cB, 600, .inl (fun _ => 0))), (q_9, .inl (cI, 300, .inl (fun _ => 0))), (q_13, .inl (cI, 300, .inl (fun _ => 0))), (q_17, .inl (cI, 300, .inl (fun _ => 0))), (q_21, .inl (cI, 300, .inl (fun _ => 0)))] := hD
  refine lv_aload_n hx hb dX7_init_59 rfl (lv_at hl 0 rfl) ?_
  refine lv_iconst (v := 0) hx hb dX7_init_60 (by decide) ?_
  refine va_put (D := D) (ci := 7) (v := .int 0) (ty := .int) (C := RX7) (T := TX7) (N := 7) hx hb hts hinX7 tyX7 tyX7_ok nmX7 hown hK hP hD hS 0 rfl rfl 6 (by decide) (hts (.fieldLink RX7 37 "TaleReader$Words" "sentenceCount" "I") (uc3 _ (List.mem_of_getElem? (i := 19) rfl))) (fun _ h9 => h9) rfl (by decide +kernel) rfl rfl (Nat.le_of_ble_eq_true rfl) dX7_init_61 (fun H_27 L_28 hP hD hS => ?_)
  have hP : va_P D vwCl [(h0, .inr (7, [.ref q_1, .ref q_9, .ref q_13, .ref q_17, .ref q_21, .int 0, .int 0])), (q_1, .inr (5, [.ref qa_6, .int 0])), (qa_6, .inl (cB, 600, .inl (fun _ => 0))), (q_9, .inl (cI, 300, .inl (fun _ => 0))), (q_13, .inl (cI, 300, .inl (fun _ => 0))), (q_17, .inl (cI, 300, .inl (fun _ => 0))), (q_21, .inl (cI, 300, .inl (fun _ => 0)))] H_27 := hP
  have hD : va_D A [(h0, .inr (7, [.ref q_1, .ref q_9, .ref q_13, .ref q_17, .ref q_21, .int 0, .int 0])), (q_1, .inr (5, [.ref qa_6, .int 0])), (qa_6, .inl (cB, 600, .inl (fun _ => 0))), (q_9, .inl (cI, 300, .inl (fun _ => 0))), (q_13, .inl (cI, 300, .inl (fun _ => 0))), (q_17, .inl (cI, 300, .inl (fun _ => 0))), (q_21, .inl (cI, 300, .inl (fun _ => 0)))] := hD
  have hP9 := hP.sub (ws' := [(h0, .inr (7, [.ref q_1, .ref q_9, .ref q_13, .ref q_17, .ref q_21, .int 0, .int 0])), (q_1, .inr (5, [.ref qa_6, .int 0])), (qa_6, .inl (cB, 600, .inl (fun _ => 0))), (q_9, .inl (cI, 300, .inl (fun _ => 0))), (q_13, .inl (cI, 300, .inl (fun _ => 0))), (q_17, .inl (cI, 300, .inl (fun _ => 0))), (q_21, .inl (cI, 300, .inl (fun _ => 0)))]) [0, 1, 2, 3, 4, 5, 6] rfl
  have hD9 := hD.sub (ws' := [(h0, .inr (7, [.ref q_1, .ref q_9, .ref q_13, .ref q_17, .ref q_21, .int 0, .int 0])), (q_1, .inr (5, [.ref qa_6, .int 0])), (qa_6, .inl (cB, 600, .inl (fun _ => 0))), (q_9, .inl (cI, 300, .inl (fun _ => 0))), (q_13, .inl (cI, 300, .inl (fun _ => 0))), (q_17, .inl (cI, 300, .inl (fun _ => 0))), (q_21, .inl (cI, 300, .inl (fun _ => 0)))]) [0, 1, 2, 3, 4, 5, 6] (by decide) rfl
  exact W.vret hx hb hr (fun t ht hW => ⟨⟨(q_1, qa_6, q_9, q_13, q_17, q_21), rfl, trivial, ⟨by rw [ht]; exact hP9, va_K.moved hW.alike hK, hD9⟩⟩, hS.F ht⟩) hS.2.2 dX7_init_64
set_option maxHeartbeats 4000000 in
set_option maxRecDepth 100000 in
theorem s_X7_size (l : Launch) (D : va_G) (cB cI cZ : ClassId) (E : pEt) (sz : Nat) (h0 : Nat) (tl : Nat) (wa1 : Nat) (wa2 : Nat) (wa3 : Nat) (wa4 : Nat) (v : Int32) (sc : Int32) : Met l yX7_size (.code yX7_size cX7_size 1 (some .int) :: wsL_law) ({ frames := 0, cells := 0, slots := 0, locals := 0 } : Room) (va_Pc [.ref h0] (pInE E D (pT cB cI cZ) sz [(h0, .inr (7, [.ref tl, .ref wa1, .ref wa2, .ref wa3, .ref wa4, .int v, .int sc]))])) (va_Qi (fun (r : Int32) (u : Unit) => v = r) (fun (u : Unit) (t : State) => pAt D (pT cB cI cZ) (va_A [(h0, .inr (7, [.ref tl, .ref wa1, .ref wa2, .ref wa3, .ref wa4, .int v, .int sc]))] sz) [(h0, .inr (7, [.ref tl, .ref wa1, .ref wa2, .ref wa3, .ref wa4, .int v, .int sc]))] t) (va_A [(h0, .inr (7, [.ref tl, .ref wa1, .ref wa2, .ref wa3, .ref wa4, .int v, .int sc]))] sz)) 0 0 (va_A [(h0, .inr (7, [.ref tl, .ref wa1, .ref wa2, .ref wa3, .ref wa4, .int v, .int sc]))] sz) := by
  refine Met.ofW (cc := cX7_size) (maxL := 1) (ret := (some .int)) (by decide) rfl ?_
  intro p e s m args below meth cd s₁ B hml hv
  obtain ⟨rfl, hsz, hP, hK, hD0, hE⟩ := hv
  have hx := B.exec
  have hb := B.bytes
  have hr := B.returns
  have hts0 := atoms_spec (ws := .code yX7_size cX7_size 1 (some .int) :: wsL_law) B.pre
  have hts := fun (w : Cond) (h : w ∈ wsL_law) => hts0 w (List.mem_cons_of_mem _ h)
  have hown : s.vm.findClass RX7 = some m.cls := findClass_of_methodNamed B.named
  have hlocks := B.notSynchronized
  have hinX7 := inlX7
  subst hsz
  have hD := hD0.self (sz := s.heap.size)
  generalize hAe : va_A [(h0, .inr (7, [.ref tl, .ref wa1, .ref wa2, .ref wa3, .ref wa4, .int v, .int sc]))] s.heap.size = A at hD hE ⊢
  have hA : ∀ q : Nat, s.heap.size ≤ q → A q := fun q h => by rw [← hAe]; exact Or.inr h
  have hS : va_S A s.heap s.heap [] := va_S.rf
  have hP : va_P D vwCl [(h0, .inr (7, [.ref tl, .ref wa1, .ref wa2, .ref wa3, .ref wa4, .int v, .int sc]))] s.heap := hP
  have hl := lv_entry ([.ref h0]) (n := 1) (Nat.le_of_ble_eq_true rfl)
  rw [lg_entry_eq]
  generalize (lg_sl ([.ref h0]) ++ List.replicate (1 - (lg_sl ([.ref h0])).length) Slot.unset).toArray = ls at hl ⊢
  have hl : lv_has ls 1 [(0, .ref h0)] := hl
  refine lv_aload_n hx hb dX7_size_0 rfl (lv_at hl 0 rfl) ?_
  refine va_get (D := D) (ci := 7) (v := .int v) (C := RX7) (T := TX7) (N := 7) hx hb hts hinX7 hown hK hP 0 rfl rfl 5 (by decide) (hts (.fieldLink RX7 33 "TaleReader$Words" "count" "I") (uc3 _ (List.mem_of_getElem? (i := 18) rfl))) (fun _ h9 => h9) rfl dX7_size_1 ?_
  have hP9 := hP.sub (ws' := [(h0, .inr (7, [.ref tl, .ref wa1, .ref wa2, .ref wa3, .ref wa4, .int v, .int sc]))]) [0] rfl
  have hD9 := hD.sub (ws' := [(h0, .inr (7, [.ref tl, .ref wa1, .ref wa2, .ref wa3, .ref wa4, .int v, .int sc]))]) [0] (by decide) rfl
  exact W.iret (v := v) hx hb hr (fun t ht hW => ⟨⟨v, (), rfl, rfl, ⟨by rw [ht]; exact hP9, va_K.moved hW.alike hK, hD9⟩⟩, hS.F ht⟩) hS.2.2 dX7_size_4
set_option maxHeartbeats 4000000 in
set_option maxRecDepth 100000 in
theorem s_X7_sentenceCount (l : Launch) (D : va_G) (cB cI cZ : ClassId) (E : pEt) (sz : Nat) (h0 : Nat) (tl : Nat) (wa1 : Nat) (wa2 : Nat) (wa3 : Nat) (wa4 : Nat) (v : Int32) (sc : Int32) : Met l yX7_sentenceCount (.code yX7_sentenceCount cX7_sentenceCount 1 (some .int) :: wsL_law) ({ frames := 0, cells := 0, slots := 0, locals := 0 } : Room) (va_Pc [.ref h0] (pInE E D (pT cB cI cZ) sz [(h0, .inr (7, [.ref tl, .ref wa1, .ref wa2, .ref wa3, .ref wa4, .int v, .int sc]))])) (va_Qi (fun (r : Int32) (u : Unit) => sc = r) (fun (u : Unit) (t : State) => pAt D (pT cB cI cZ) (va_A [(h0, .inr (7, [.ref tl, .ref wa1, .ref wa2, .ref wa3, .ref wa4, .int v, .int sc]))] sz) [(h0, .inr (7, [.ref tl, .ref wa1, .ref wa2, .ref wa3, .ref wa4, .int v, .int sc]))] t) (va_A [(h0, .inr (7, [.ref tl, .ref wa1, .ref wa2, .ref wa3, .ref wa4, .int v, .int sc]))] sz)) 0 0 (va_A [(h0, .inr (7, [.ref tl, .ref wa1, .ref wa2, .ref wa3, .ref wa4, .int v, .int sc]))] sz) := by
  refine Met.ofW (cc := cX7_sentenceCount) (maxL := 1) (ret := (some .int)) (by decide) rfl ?_
  intro p e s m args below meth cd s₁ B hml hv
  obtain ⟨rfl, hsz, hP, hK, hD0, hE⟩ := hv
  have hx := B.exec
  have hb := B.bytes
  have hr := B.returns
  have hts0 := atoms_spec (ws := .code yX7_sentenceCount cX7_sentenceCount 1 (some .int) :: wsL_law) B.pre
  have hts := fun (w : Cond) (h : w ∈ wsL_law) => hts0 w (List.mem_cons_of_mem _ h)
  have hown : s.vm.findClass RX7 = some m.cls := findClass_of_methodNamed B.named
  have hlocks := B.notSynchronized
  have hinX7 := inlX7
  subst hsz
  have hD := hD0.self (sz := s.heap.size)
  generalize hAe : va_A [(h0, .inr (7, [.ref tl, .ref wa1, .ref wa2, .ref wa3, .ref wa4, .int v, .int sc]))] s.heap.size = A at hD hE ⊢
  have hA : ∀ q : Nat, s.heap.size ≤ q → A q := fun q h => by rw [← hAe]; exact Or.inr h
  have hS : va_S A s.heap s.heap [] := va_S.rf
  have hP : va_P D vwCl [(h0, .inr (7, [.ref tl, .ref wa1, .ref wa2, .ref wa3, .ref wa4, .int v, .int sc]))] s.heap := hP
  have hl := lv_entry ([.ref h0]) (n := 1) (Nat.le_of_ble_eq_true rfl)
  rw [lg_entry_eq]
  generalize (lg_sl ([.ref h0]) ++ List.replicate (1 - (lg_sl ([.ref h0])).length) Slot.unset).toArray = ls at hl ⊢
  have hl : lv_has ls 1 [(0, .ref h0)] := hl
  refine lv_aload_n hx hb dX7_sentenceCount_0 rfl (lv_at hl 0 rfl) ?_
  refine va_get (D := D) (ci := 7) (v := .int sc) (C := RX7) (T := TX7) (N := 7) hx hb hts hinX7 hown hK hP 0 rfl rfl 6 (by decide) (hts (.fieldLink RX7 37 "TaleReader$Words" "sentenceCount" "I") (uc3 _ (List.mem_of_getElem? (i := 19) rfl))) (fun _ h9 => h9) rfl dX7_sentenceCount_1 ?_
  have hP9 := hP.sub (ws' := [(h0, .inr (7, [.ref tl, .ref wa1, .ref wa2, .ref wa3, .ref wa4, .int v, .int sc]))]) [0] rfl
  have hD9 := hD.sub (ws' := [(h0, .inr (7, [.ref tl, .ref wa1, .ref wa2, .ref wa3, .ref wa4, .int v, .int sc]))]) [0] (by decide) rfl
  exact W.iret (v := sc) hx hb hr (fun t ht hW => ⟨⟨sc, (), rfl, rfl, ⟨by rw [ht]; exact hP9, va_K.moved hW.alike hK, hD9⟩⟩, hS.F ht⟩) hS.2.2 dX7_sentenceCount_4
set_option maxHeartbeats 4000000 in
set_option maxRecDepth 100000 in
theorem s_X7_tale (l : Launch) (D : va_G) (cB cI cZ : ClassId) (E : pEt) (sz : Nat) (h0 : Nat) (tl : Nat) (wa1 : Nat) (wa2 : Nat) (wa3 : Nat) (wa4 : Nat) (v : Int32) (sc : Int32) : Met l yX7_tale (.code yX7_tale cX7_tale 1 (some (.object "TaleReader$Text")) :: wsL_law) ({ frames := 0, cells := 0, slots := 0, locals := 0 } : Room) (va_Pc [.ref h0] (pInE E D (pT cB cI cZ) sz [(h0, .inr (7, [.ref tl, .ref wa1, .ref wa2, .ref wa3, .ref wa4, .int v, .int sc]))])) (va_Qr (fun (u : Unit) => True) (fun (u : Unit) (a : Nat) (t : State) => a = tl ∧ pAt D (pT cB cI cZ) (va_A [(h0, .inr (7, [.ref tl, .ref wa1, .ref wa2, .ref wa3, .ref wa4, .int v, .int sc]))] sz) [(h0, .inr (7, [.ref tl, .ref wa1, .ref wa2, .ref wa3, .ref wa4, .int v, .int sc]))] t) (va_A [(h0, .inr (7, [.ref tl, .ref wa1, .ref wa2, .ref wa3, .ref wa4, .int v, .int sc]))] sz)) 0 0 (va_A [(h0, .inr (7, [.ref tl, .ref wa1, .ref wa2, .ref wa3, .ref wa4, .int v, .int sc]))] sz) := by
  refine Met.ofW (cc := cX7_tale) (maxL := 1) (ret := (some (.object "TaleReader$Text"))) (by decide) rfl ?_
  intro p e s m args below meth cd s₁ B hml hv
  obtain ⟨rfl, hsz, hP, hK, hD0, hE⟩ := hv
  have hx := B.exec
  have hb := B.bytes
  have hr := B.returns
  have hts0 := atoms_spec (ws := .code yX7_tale cX7_tale 1 (some (.object "TaleReader$Text")) :: wsL_law) B.pre
  have hts := fun (w : Cond) (h : w ∈ wsL_law) => hts0 w (List.mem_cons_of_mem _ h)
  have hown : s.vm.findClass RX7 = some m.cls := findClass_of_methodNamed B.named
  have hlocks := B.notSynchronized
  have hinX7 := inlX7
  subst hsz
  have hD := hD0.self (sz := s.heap.size)
  generalize hAe : va_A [(h0, .inr (7, [.ref tl, .ref wa1, .ref wa2, .ref wa3, .ref wa4, .int v, .int sc]))] s.heap.size = A at hD hE ⊢
  have hA : ∀ q : Nat, s.heap.size ≤ q → A q := fun q h => by rw [← hAe]; exact Or.inr h
  have hS : va_S A s.heap s.heap [] := va_S.rf
  have hP : va_P D vwCl [(h0, .inr (7, [.ref tl, .ref wa1, .ref wa2, .ref wa3, .ref wa4, .int v, .int sc]))] s.heap := hP
  have hl := lv_entry ([.ref h0]) (n := 1) (Nat.le_of_ble_eq_true rfl)
  rw [lg_entry_eq]
  generalize (lg_sl ([.ref h0]) ++ List.replicate (1 - (lg_sl ([.ref h0])).length) Slot.unset).toArray = ls at hl ⊢
  have hl : lv_has ls 1 [(0, .ref h0)] := hl
  refine lv_aload_n hx hb dX7_tale_0 rfl (lv_at hl 0 rfl) ?_
  refine va_get (D := D) (ci := 7) (v := .ref tl) (C := RX7) (T := TX7) (N := 7) hx hb hts hinX7 hown hK hP 0 rfl rfl 0 (by decide) (hts (.fieldLink RX7 14 "TaleReader$Words" "tale" "LTaleReader$Text;") (uc3 _ (List.mem_of_getElem? (i := 12) rfl))) (fun _ h9 => h9) rfl dX7_tale_1 ?_
  have hP9 := hP.sub (ws' := [(h0, .inr (7, [.ref tl, .ref wa1, .ref wa2, .ref wa3, .ref wa4, .int v, .int sc]))]) [0] rfl
  have hD9 := hD.sub (ws' := [(h0, .inr (7, [.ref tl, .ref wa1, .ref wa2, .ref wa3, .ref wa4, .int v, .int sc]))]) [0] (by decide) rfl
  exact W.aret (v := .ref tl) hx hb hr (Or.inl ⟨_, rfl⟩) (Or.inr ⟨_, rfl⟩) (fun t ht hW => ⟨⟨(), _, rfl, trivial, rfl, ⟨by rw [ht]; exact hP9, va_K.moved hW.alike hK, hD9⟩⟩, hS.F ht⟩) hS.2.2 dX7_tale_4
set_option maxHeartbeats 4000000 in
set_option maxRecDepth 100000 in
theorem s_X7_has (l : Launch) (D : va_G) (cB cI cZ : ClassId) (E : pEt) (sz : Nat) (h0 : Nat) (x : Int32) (tl : Nat) (wa1 : Nat) (wa2 : Nat) (wa3 : Nat) (wa4 : Nat) (v : Int32) (sc : Int32) : Met l yX7_has (.code yX7_has cX7_has 2 (some .boolean) :: wsL_law) ({ frames := 0, cells := 0, slots := 0, locals := 0 } : Room) (va_Pc [.ref h0, .int x] (pInE E D (pT cB cI cZ) sz [(h0, .inr (7, [.ref tl, .ref wa1, .ref wa2, .ref wa3, .ref wa4, .int v, .int sc]))])) (va_Qi (fun (r : Int32) (u : Unit) => ((0 = r) ∧ (x < 0 ∨ v ≤ x)) ∨ ((1 = r) ∧ (¬ x < 0) ∧ (¬ v ≤ x))) (fun (u : Unit) (t : State) => pAt D (pT cB cI cZ) (va_A [(h0, .inr (7, [.ref tl, .ref wa1, .ref wa2, .ref wa3, .ref wa4, .int v, .int sc]))] sz) [(h0, .inr (7, [.ref tl, .ref wa1, .ref wa2, .ref wa3, .ref wa4, .int v, .int sc]))] t) (va_A [(h0, .inr (7, [.ref tl, .ref wa1, .ref wa2, .ref wa3, .ref wa4, .int v, .int sc]))] sz)) 0 0 (va_A [(h0, .inr (7, [.ref tl, .ref wa1, .ref wa2, .ref wa3, .ref wa4, .int v, .int sc]))] sz) := by
  refine Met.ofW (cc := cX7_has) (maxL := 2) (ret := (some .boolean)) (by decide) rfl ?_
  intro p e s m args below meth cd s₁ B hml hv
  obtain ⟨rfl, hsz, hP, hK, hD0, hE⟩ := hv
  have hx := B.exec
  have hb := B.bytes
  have hr := B.returns
  have hts0 := atoms_spec (ws := .code yX7_has cX7_has 2 (some .boolean) :: wsL_law) B.pre
  have hts := fun (w : Cond) (h : w ∈ wsL_law) => hts0 w (List.mem_cons_of_mem _ h)
  have hown : s.vm.findClass RX7 = some m.cls := findClass_of_methodNamed B.named
  have hlocks := B.notSynchronized
  have hinX7 := inlX7
  subst hsz
  have hD := hD0.self (sz := s.heap.size)
  generalize hAe : va_A [(h0, .inr (7, [.ref tl, .ref wa1, .ref wa2, .ref wa3, .ref wa4, .int v, .int sc]))] s.heap.size = A at hD hE ⊢
  have hA : ∀ q : Nat, s.heap.size ≤ q → A q := fun q h => by rw [← hAe]; exact Or.inr h
  have hS : va_S A s.heap s.heap [] := va_S.rf
  have hP : va_P D vwCl [(h0, .inr (7, [.ref tl, .ref wa1, .ref wa2, .ref wa3, .ref wa4, .int v, .int sc]))] s.heap := hP
  have hl := lv_entry ([.ref h0, .int x]) (n := 2) (Nat.le_of_ble_eq_true rfl)
  rw [lg_entry_eq]
  generalize (lg_sl ([.ref h0, .int x]) ++ List.replicate (2 - (lg_sl ([.ref h0, .int x])).length) Slot.unset).toArray = ls at hl ⊢
  have hl : lv_has ls 2 [(0, .ref h0), (1, .int x)] := hl
  refine lv_iload_n hx hb dX7_has_0 rfl (lv_at hl 1 rfl) ?_
  refine lv_if_lt (tgt := 16) hx hb dX7_has_1 (by decide) (fun c_1 => ?_) (fun c_1 => ?_)
  · refine lv_iconst (v := 0) hx hb dX7_has_16 (by decide) ?_
    have hP9 := hP.sub (ws' := [(h0, .inr (7, [.ref tl, .ref wa1, .ref wa2, .ref wa3, .ref wa4, .int v, .int sc]))]) [0] rfl
    have hD9 := hD.sub (ws' := [(h0, .inr (7, [.ref tl, .ref wa1, .ref wa2, .ref wa3, .ref wa4, .int v, .int sc]))]) [0] (by decide) rfl
    exact W.zret (v := 0) hx hb hr (rfl) (fun t ht hW => ⟨⟨0, (), rfl, Or.inl (⟨rfl, Or.inl c_1⟩), ⟨by rw [ht]; exact hP9, va_K.moved hW.alike hK, hD9⟩⟩, hS.F ht⟩) hS.2.2 dX7_has_17
  · refine lv_iload_n hx hb dX7_has_4 rfl (lv_at hl 1 rfl) ?_
    refine lv_aload_n hx hb dX7_has_5 rfl (lv_at hl 0 rfl) ?_
    refine va_get (D := D) (ci := 7) (v := .int v) (C := RX7) (T := TX7) (N := 7) hx hb hts hinX7 hown hK hP 0 rfl rfl 5 (by decide) (hts (.fieldLink RX7 33 "TaleReader$Words" "count" "I") (uc3 _ (List.mem_of_getElem? (i := 18) rfl))) (fun _ h9 => h9) rfl dX7_has_6 ?_
    refine lv_icmp_ge (tgt := 16) hx hb dX7_has_9 (by decide) (fun c_2 => ?_) (fun c_2 => ?_)
    · refine lv_iconst (v := 0) hx hb dX7_has_16 (by decide) ?_
      have hP9 := hP.sub (ws' := [(h0, .inr (7, [.ref tl, .ref wa1, .ref wa2, .ref wa3, .ref wa4, .int v, .int sc]))]) [0] rfl
      have hD9 := hD.sub (ws' := [(h0, .inr (7, [.ref tl, .ref wa1, .ref wa2, .ref wa3, .ref wa4, .int v, .int sc]))]) [0] (by decide) rfl
      exact W.zret (v := 0) hx hb hr (rfl) (fun t ht hW => ⟨⟨0, (), rfl, Or.inl (⟨rfl, Or.inr c_2⟩), ⟨by rw [ht]; exact hP9, va_K.moved hW.alike hK, hD9⟩⟩, hS.F ht⟩) hS.2.2 dX7_has_17
    · refine lv_iconst (v := 1) hx hb dX7_has_12 (by decide) ?_
      refine lv_goto (tgt := 17) hx hb dX7_has_13 (by decide) ?_
      have hP9 := hP.sub (ws' := [(h0, .inr (7, [.ref tl, .ref wa1, .ref wa2, .ref wa3, .ref wa4, .int v, .int sc]))]) [0] rfl
      have hD9 := hD.sub (ws' := [(h0, .inr (7, [.ref tl, .ref wa1, .ref wa2, .ref wa3, .ref wa4, .int v, .int sc]))]) [0] (by decide) rfl
      exact W.zret (v := 1) hx hb hr (rfl) (fun t ht hW => ⟨⟨1, (), rfl, Or.inr ((⟨rfl, by first | assumption | rfl | omega, by first | assumption | rfl | omega⟩)), ⟨by rw [ht]; exact hP9, va_K.moved hW.alike hK, hD9⟩⟩, hS.F ht⟩) hS.2.2 dX7_has_17
set_option maxHeartbeats 4000000 in
set_option maxRecDepth 100000 in
theorem s_X7_placeOf (l : Launch) (D : va_G) (cB cI cZ : ClassId) (E : pEt) (sz : Nat) (h0 : Nat) (x : Int32) (tl : Nat) (wa1 : Nat) (wa2 : Nat) (wa3 : Nat) (wa4 : Nat) (c : Nat) (sc : Int32) (fw1 : Nat → Int32) (hc : c ≤ 300) : Met l yX7_placeOf (.code yX7_placeOf cX7_placeOf 2 (some .int) :: wsL_law) ({ frames := 1, cells := 0, slots := 0, locals := 21 } : Room) (va_Pc [.ref h0, .int x] (pInE E D (pT cB cI cZ) sz [(h0, .inr (7, [.ref tl, .ref wa1, .ref wa2, .ref wa3, .ref wa4, .int (nI c), .int sc])), (wa1, .inl (cI, 300, .inl fw1))])) (va_Qi (fun (r : Int32) (u : Unit) => True) (fun (u : Unit) (t : State) => pAt D (pT cB cI cZ) (va_A [(h0, .inr (7, [.ref tl, .ref wa1, .ref wa2, .ref wa3, .ref wa4, .int (nI c), .int sc])), (wa1, .inl (cI, 300, .inl fw1))] sz) [(h0, .inr (7, [.ref tl, .ref wa1, .ref wa2, .ref wa3, .ref wa4, .int (nI c), .int sc])), (wa1, .inl (cI, 300, .inl fw1))] t) (va_A [(h0, .inr (7, [.ref tl, .ref wa1, .ref wa2, .ref wa3, .ref wa4, .int (nI c), .int sc])), (wa1, .inl (cI, 300, .inl fw1))] sz)) 0 0 (va_A [(h0, .inr (7, [.ref tl, .ref wa1, .ref wa2, .ref wa3, .ref wa4, .int (nI c), .int sc])), (wa1, .inl (cI, 300, .inl fw1))] sz) := by
  refine Met.ofW (cc := cX7_placeOf) (maxL := 2) (ret := (some .int)) (by decide) rfl ?_
  intro p e s m args below meth cd s₁ B hml hv
  obtain ⟨rfl, hsz, hP, hK, hD0, hE⟩ := hv
  have hx := B.exec
  have hb := B.bytes
  have hr := B.returns
  have hts0 := atoms_spec (ws := .code yX7_placeOf cX7_placeOf 2 (some .int) :: wsL_law) B.pre
  have hts := fun (w : Cond) (h : w ∈ wsL_law) => hts0 w (List.mem_cons_of_mem _ h)
  have hown : s.vm.findClass RX7 = some m.cls := findClass_of_methodNamed B.named
  have hlocks := B.notSynchronized
  have hinX7 := inlX7
  subst hsz
  have hD := hD0.self (sz := s.heap.size)
  generalize hAe : va_A [(h0, .inr (7, [.ref tl, .ref wa1, .ref wa2, .ref wa3, .ref wa4, .int (nI c), .int sc])), (wa1, .inl (cI, 300, .inl fw1))] s.heap.size = A at hD hE ⊢
  have hA : ∀ q : Nat, s.heap.size ≤ q → A q := fun q h => by rw [← hAe]; exact Or.inr h
  have hS : va_S A s.heap s.heap [] := va_S.rf
  have hP : va_P D vwCl [(h0, .inr (7, [.ref tl, .ref wa1, .ref wa2, .ref wa3, .ref wa4, .int (nI c), .int sc])), (wa1, .inl (cI, 300, .inl fw1))] s.heap := hP
  have hl := lv_entry ([.ref h0, .int x]) (n := 2) (Nat.le_of_ble_eq_true rfl)
  rw [lg_entry_eq]
  generalize (lg_sl ([.ref h0, .int x]) ++ List.replicate (2 - (lg_sl ([.ref h0, .int x])).length) Slot.unset).toArray = ls at hl ⊢
  have hl : lv_has ls 2 [(0, .ref h0), (1, .int x)] := hl
  refine lv_aload_n hx hb dX7_placeOf_0 rfl (lv_at hl 0 rfl) ?_
  refine lv_iload_n hx hb dX7_placeOf_1 rfl (lv_at hl 1 rfl) ?_
  have hPc := hP.sub (ws' := [(h0, .inr (7, [.ref tl, .ref wa1, .ref wa2, .ref wa3, .ref wa4, .int (nI c), .int sc]))]) [0] rfl
  have hDc := hD.sub (ws' := [(h0, .inr (7, [.ref tl, .ref wa1, .ref wa2, .ref wa3, .ref wa4, .int (nI c), .int sc]))]) [0] (by decide) rfl
  have hFc := va_free (wc := [(h0, .inr (7, [.ref tl, .ref wa1, .ref wa2, .ref wa3, .ref wa4, .int (nI c), .int sc]))]) hD hS hA [0] rfl
  refine va_calli (va_runV (As := [.int x]) (rest := []) ⟨hx, hb, hml, hown, hts⟩ (s_X7_has l D cB cI cZ E s.heap.size h0 x tl wa1 wa2 wa3 wa4 (nI c) sc) (cwV 1 hts (uV (uc11 _ (List.mem_of_getElem? (i := 8) rfl)) (uc11 _ (List.mem_of_getElem? (i := 9) rfl)) (uc11 _ (List.mem_of_getElem? (i := 10) rfl)) (uc1 _ (List.mem_of_getElem? (i := 18) rfl)) (uc11 _ (List.mem_of_getElem? (i := 11) rfl))) rfl rfl rfl (by decide +kernel) ⟨Nat.le_of_ble_eq_true rfl, Nat.le_of_ble_eq_true rfl⟩) (pVE hE hS hFc hK hPc hDc 0 rfl rfl) rfl rfl hl.1 rfl (lv_room (Nat.le_of_ble_eq_true rfl)) dX7_placeOf_2 ⟨Nat.le_of_ble_eq_true rfl, Nat.le_of_ble_eq_true rfl⟩) hS (fun q _ h => hFc q h) hFc (fun r_1 u t H_2 L_3 ht hvm hw hB hz1 hk1 hS => ?_)
  obtain ⟨hP1, -, hD1⟩ := hB
  rw [ht] at hP1
  obtain ⟨hP, hD⟩ := va_join (wr := [(wa1, .inl (cI, 300, .inl fw1))]) (w1 := [(h0, .inr (7, [.ref tl, .ref wa1, .ref wa2, .ref wa3, .ref wa4, .int (nI c), .int sc]))]) hP hD [0] [1] rfl rfl (by decide) (by decide) hk1 hFc hP1 hD1
  have hP : va_P D vwCl [(h0, .inr (7, [.ref tl, .ref wa1, .ref wa2, .ref wa3, .ref wa4, .int (nI c), .int sc])), (wa1, .inl (cI, 300, .inl fw1))] H_2 := hP.sub [1, 0] rfl
  have hD : va_D A [(h0, .inr (7, [.ref tl, .ref wa1, .ref wa2, .ref wa3, .ref wa4, .int (nI c), .int sc])), (wa1, .inl (cI, 300, .inl fw1))] := hD.sub [1, 0] (by decide) rfl
  try dsimp only at hw
  rcases hw with ⟨rfl, h_4⟩ | ⟨rfl, h_5, h_6⟩
  · refine lv_if_eq (tgt := 17) hx hb dX7_placeOf_5 (by decide) (fun c_7 => ?_) (fun c_7 => ?_)
    · refine lv_iconst (v := 0) hx hb dX7_placeOf_17 (by decide) ?_
      have hP9 := hP.sub (ws' := [(h0, .inr (7, [.ref tl, .ref wa1, .ref wa2, .ref wa3, .ref wa4, .int (nI c), .int sc])), (wa1, .inl (cI, 300, .inl fw1))]) [0, 1] rfl
      have hD9 := hD.sub (ws' := [(h0, .inr (7, [.ref tl, .ref wa1, .ref wa2, .ref wa3, .ref wa4, .int (nI c), .int sc])), (wa1, .inl (cI, 300, .inl fw1))]) [0, 1] (by decide) rfl
      exact W.iret (v := 0) hx hb hr (fun t ht hW => ⟨⟨0, (), rfl, trivial, ⟨by rw [ht]; exact hP9, va_K.moved hW.alike hK, hD9⟩⟩, hS.F ht⟩) hS.2.2 dX7_placeOf_18
    · exact False.elim (by revert c_7; decide)
  · refine lv_if_eq (tgt := 17) hx hb dX7_placeOf_5 (by decide) (fun c_8 => ?_) (fun c_8 => ?_)
    · exact False.elim (by revert c_8; decide)
    · refine lv_aload_n hx hb dX7_placeOf_8 rfl (lv_at hl 0 rfl) ?_
      refine va_get (D := D) (ci := 7) (v := .ref wa1) (C := RX7) (T := TX7) (N := 7) hx hb hts hinX7 hown hK hP 0 rfl rfl 1 (by decide) (hts (.fieldLink RX7 20 "TaleReader$Words" "places" "[I") (uc3 _ (List.mem_of_getElem? (i := 14) rfl))) (fun _ h9 => h9) rfl dX7_placeOf_9 ?_
      refine lv_iload_n hx hb dX7_placeOf_12 rfl (lv_at hl 1 rfl) ?_
      refine va_iald (D := D) hx hb hK hP 1 1 rfl rfl (by first | assumption | exact pIxc (by assumption) (by assumption) (by omega) (by omega)) dX7_placeOf_13 ?_
      refine lv_topi (fun v_9 ev_9 => ?_)
      refine lv_goto (tgt := 18) hx hb dX7_placeOf_14 (by decide) ?_
      have hP9 := hP.sub (ws' := [(h0, .inr (7, [.ref tl, .ref wa1, .ref wa2, .ref wa3, .ref wa4, .int (nI c), .int sc])), (wa1, .inl (cI, 300, .inl fw1))]) [0, 1] rfl
      have hD9 := hD.sub (ws' := [(h0, .inr (7, [.ref tl, .ref wa1, .ref wa2, .ref wa3, .ref wa4, .int (nI c), .int sc])), (wa1, .inl (cI, 300, .inl fw1))]) [0, 1] (by decide) rfl
      exact W.iret (v := v_9) hx hb hr (fun t ht hW => ⟨⟨v_9, (), rfl, trivial, ⟨by rw [ht]; exact hP9, va_K.moved hW.alike hK, hD9⟩⟩, hS.F ht⟩) hS.2.2 dX7_placeOf_18
set_option maxHeartbeats 4000000 in
set_option maxRecDepth 100000 in
theorem s_X7_lengthOf (l : Launch) (D : va_G) (cB cI cZ : ClassId) (E : pEt) (sz : Nat) (h0 : Nat) (x : Int32) (tl : Nat) (wa1 : Nat) (wa2 : Nat) (wa3 : Nat) (wa4 : Nat) (c : Nat) (sc : Int32) (fw2 : Nat → Int32) (hc : c ≤ 300) : Met l yX7_lengthOf (.code yX7_lengthOf cX7_lengthOf 2 (some .int) :: wsL_law) ({ frames := 1, cells := 0, slots := 0, locals := 21 } : Room) (va_Pc [.ref h0, .int x] (pInE E D (pT cB cI cZ) sz [(h0, .inr (7, [.ref tl, .ref wa1, .ref wa2, .ref wa3, .ref wa4, .int (nI c), .int sc])), (wa2, .inl (cI, 300, .inl fw2))])) (va_Qi (fun (r : Int32) (u : Unit) => True) (fun (u : Unit) (t : State) => pAt D (pT cB cI cZ) (va_A [(h0, .inr (7, [.ref tl, .ref wa1, .ref wa2, .ref wa3, .ref wa4, .int (nI c), .int sc])), (wa2, .inl (cI, 300, .inl fw2))] sz) [(h0, .inr (7, [.ref tl, .ref wa1, .ref wa2, .ref wa3, .ref wa4, .int (nI c), .int sc])), (wa2, .inl (cI, 300, .inl fw2))] t) (va_A [(h0, .inr (7, [.ref tl, .ref wa1, .ref wa2, .ref wa3, .ref wa4, .int (nI c), .int sc])), (wa2, .inl (cI, 300, .inl fw2))] sz)) 0 0 (va_A [(h0, .inr (7, [.ref tl, .ref wa1, .ref wa2, .ref wa3, .ref wa4, .int (nI c), .int sc])), (wa2, .inl (cI, 300, .inl fw2))] sz) := by
  refine Met.ofW (cc := cX7_lengthOf) (maxL := 2) (ret := (some .int)) (by decide) rfl ?_
  intro p e s m args below meth cd s₁ B hml hv
  obtain ⟨rfl, hsz, hP, hK, hD0, hE⟩ := hv
  have hx := B.exec
  have hb := B.bytes
  have hr := B.returns
  have hts0 := atoms_spec (ws := .code yX7_lengthOf cX7_lengthOf 2 (some .int) :: wsL_law) B.pre
  have hts := fun (w : Cond) (h : w ∈ wsL_law) => hts0 w (List.mem_cons_of_mem _ h)
  have hown : s.vm.findClass RX7 = some m.cls := findClass_of_methodNamed B.named
  have hlocks := B.notSynchronized
  have hinX7 := inlX7
  subst hsz
  have hD := hD0.self (sz := s.heap.size)
  generalize hAe : va_A [(h0, .inr (7, [.ref tl, .ref wa1, .ref wa2, .ref wa3, .ref wa4, .int (nI c), .int sc])), (wa2, .inl (cI, 300, .inl fw2))] s.heap.size = A at hD hE ⊢
  have hA : ∀ q : Nat, s.heap.size ≤ q → A q := fun q h => by rw [← hAe]; exact Or.inr h
  have hS : va_S A s.heap s.heap [] := va_S.rf
  have hP : va_P D vwCl [(h0, .inr (7, [.ref tl, .ref wa1, .ref wa2, .ref wa3, .ref wa4, .int (nI c), .int sc])), (wa2, .inl (cI, 300, .inl fw2))] s.heap := hP
  have hl := lv_entry ([.ref h0, .int x]) (n := 2) (Nat.le_of_ble_eq_true rfl)
  rw [lg_entry_eq]
  generalize (lg_sl ([.ref h0, .int x]) ++ List.replicate (2 - (lg_sl ([.ref h0, .int x])).length) Slot.unset).toArray = ls at hl ⊢
  have hl : lv_has ls 2 [(0, .ref h0), (1, .int x)] := hl
  refine lv_aload_n hx hb dX7_lengthOf_0 rfl (lv_at hl 0 rfl) ?_
  refine lv_iload_n hx hb dX7_lengthOf_1 rfl (lv_at hl 1 rfl) ?_
  have hPc := hP.sub (ws' := [(h0, .inr (7, [.ref tl, .ref wa1, .ref wa2, .ref wa3, .ref wa4, .int (nI c), .int sc]))]) [0] rfl
  have hDc := hD.sub (ws' := [(h0, .inr (7, [.ref tl, .ref wa1, .ref wa2, .ref wa3, .ref wa4, .int (nI c), .int sc]))]) [0] (by decide) rfl
  have hFc := va_free (wc := [(h0, .inr (7, [.ref tl, .ref wa1, .ref wa2, .ref wa3, .ref wa4, .int (nI c), .int sc]))]) hD hS hA [0] rfl
  refine va_calli (va_runV (As := [.int x]) (rest := []) ⟨hx, hb, hml, hown, hts⟩ (s_X7_has l D cB cI cZ E s.heap.size h0 x tl wa1 wa2 wa3 wa4 (nI c) sc) (cwV 1 hts (uV (uc11 _ (List.mem_of_getElem? (i := 8) rfl)) (uc11 _ (List.mem_of_getElem? (i := 9) rfl)) (uc11 _ (List.mem_of_getElem? (i := 10) rfl)) (uc1 _ (List.mem_of_getElem? (i := 18) rfl)) (uc11 _ (List.mem_of_getElem? (i := 11) rfl))) rfl rfl rfl (by decide +kernel) ⟨Nat.le_of_ble_eq_true rfl, Nat.le_of_ble_eq_true rfl⟩) (pVE hE hS hFc hK hPc hDc 0 rfl rfl) rfl rfl hl.1 rfl (lv_room (Nat.le_of_ble_eq_true rfl)) dX7_lengthOf_2 ⟨Nat.le_of_ble_eq_true rfl, Nat.le_of_ble_eq_true rfl⟩) hS (fun q _ h => hFc q h) hFc (fun r_1 u t H_2 L_3 ht hvm hw hB hz1 hk1 hS => ?_)
  obtain ⟨hP1, -, hD1⟩ := hB
  rw [ht] at hP1
  obtain ⟨hP, hD⟩ := va_join (wr := [(wa2, .inl (cI, 300, .inl fw2))]) (w1 := [(h0, .inr (7, [.ref tl, .ref wa1, .ref wa2, .ref wa3, .ref wa4, .int (nI c), .int sc]))]) hP hD [0] [1] rfl rfl (by decide) (by decide) hk1 hFc hP1 hD1
  have hP : va_P D vwCl [(h0, .inr (7, [.ref tl, .ref wa1, .ref wa2, .ref wa3, .ref wa4, .int (nI c), .int sc])), (wa2, .inl (cI, 300, .inl fw2))] H_2 := hP.sub [1, 0] rfl
  have hD : va_D A [(h0, .inr (7, [.ref tl, .ref wa1, .ref wa2, .ref wa3, .ref wa4, .int (nI c), .int sc])), (wa2, .inl (cI, 300, .inl fw2))] := hD.sub [1, 0] (by decide) rfl
  try dsimp only at hw
  rcases hw with ⟨rfl, h_4⟩ | ⟨rfl, h_5, h_6⟩
  · refine lv_if_eq (tgt := 17) hx hb dX7_lengthOf_5 (by decide) (fun c_7 => ?_) (fun c_7 => ?_)
    · refine lv_iconst (v := 0) hx hb dX7_lengthOf_17 (by decide) ?_
      have hP9 := hP.sub (ws' := [(h0, .inr (7, [.ref tl, .ref wa1, .ref wa2, .ref wa3, .ref wa4, .int (nI c), .int sc])), (wa2, .inl (cI, 300, .inl fw2))]) [0, 1] rfl
      have hD9 := hD.sub (ws' := [(h0, .inr (7, [.ref tl, .ref wa1, .ref wa2, .ref wa3, .ref wa4, .int (nI c), .int sc])), (wa2, .inl (cI, 300, .inl fw2))]) [0, 1] (by decide) rfl
      exact W.iret (v := 0) hx hb hr (fun t ht hW => ⟨⟨0, (), rfl, trivial, ⟨by rw [ht]; exact hP9, va_K.moved hW.alike hK, hD9⟩⟩, hS.F ht⟩) hS.2.2 dX7_lengthOf_18
    · exact False.elim (by revert c_7; decide)
  · refine lv_if_eq (tgt := 17) hx hb dX7_lengthOf_5 (by decide) (fun c_8 => ?_) (fun c_8 => ?_)
    · exact False.elim (by revert c_8; decide)
    · refine lv_aload_n hx hb dX7_lengthOf_8 rfl (lv_at hl 0 rfl) ?_
      refine va_get (D := D) (ci := 7) (v := .ref wa2) (C := RX7) (T := TX7) (N := 7) hx hb hts hinX7 hown hK hP 0 rfl rfl 2 (by decide) (hts (.fieldLink RX7 24 "TaleReader$Words" "lengths" "[I") (uc3 _ (List.mem_of_getElem? (i := 15) rfl))) (fun _ h9 => h9) rfl dX7_lengthOf_9 ?_
      refine lv_iload_n hx hb dX7_lengthOf_12 rfl (lv_at hl 1 rfl) ?_
      refine va_iald (D := D) hx hb hK hP 1 1 rfl rfl (by first | assumption | exact pIxc (by assumption) (by assumption) (by omega) (by omega)) dX7_lengthOf_13 ?_
      refine lv_topi (fun v_9 ev_9 => ?_)
      refine lv_goto (tgt := 18) hx hb dX7_lengthOf_14 (by decide) ?_
      have hP9 := hP.sub (ws' := [(h0, .inr (7, [.ref tl, .ref wa1, .ref wa2, .ref wa3, .ref wa4, .int (nI c), .int sc])), (wa2, .inl (cI, 300, .inl fw2))]) [0, 1] rfl
      have hD9 := hD.sub (ws' := [(h0, .inr (7, [.ref tl, .ref wa1, .ref wa2, .ref wa3, .ref wa4, .int (nI c), .int sc])), (wa2, .inl (cI, 300, .inl fw2))]) [0, 1] (by decide) rfl
      exact W.iret (v := v_9) hx hb hr (fun t ht hW => ⟨⟨v_9, (), rfl, trivial, ⟨by rw [ht]; exact hP9, va_K.moved hW.alike hK, hD9⟩⟩, hS.F ht⟩) hS.2.2 dX7_lengthOf_18
set_option maxHeartbeats 4000000 in
set_option maxRecDepth 100000 in
theorem s_X7_sentenceOf (l : Launch) (D : va_G) (cB cI cZ : ClassId) (E : pEt) (sz : Nat) (h0 : Nat) (x : Int32) (tl : Nat) (wa1 : Nat) (wa2 : Nat) (wa3 : Nat) (wa4 : Nat) (c : Nat) (sc : Int32) (fw3 : Nat → Int32) (hc : c ≤ 300) : Met l yX7_sentenceOf (.code yX7_sentenceOf cX7_sentenceOf 2 (some .int) :: wsL_law) ({ frames := 1, cells := 0, slots := 0, locals := 21 } : Room) (va_Pc [.ref h0, .int x] (pInE E D (pT cB cI cZ) sz [(h0, .inr (7, [.ref tl, .ref wa1, .ref wa2, .ref wa3, .ref wa4, .int (nI c), .int sc])), (wa3, .inl (cI, 300, .inl fw3))])) (va_Qi (fun (r : Int32) (u : Unit) => True) (fun (u : Unit) (t : State) => pAt D (pT cB cI cZ) (va_A [(h0, .inr (7, [.ref tl, .ref wa1, .ref wa2, .ref wa3, .ref wa4, .int (nI c), .int sc])), (wa3, .inl (cI, 300, .inl fw3))] sz) [(h0, .inr (7, [.ref tl, .ref wa1, .ref wa2, .ref wa3, .ref wa4, .int (nI c), .int sc])), (wa3, .inl (cI, 300, .inl fw3))] t) (va_A [(h0, .inr (7, [.ref tl, .ref wa1, .ref wa2, .ref wa3, .ref wa4, .int (nI c), .int sc])), (wa3, .inl (cI, 300, .inl fw3))] sz)) 0 0 (va_A [(h0, .inr (7, [.ref tl, .ref wa1, .ref wa2, .ref wa3, .ref wa4, .int (nI c), .int sc])), (wa3, .inl (cI, 300, .inl fw3))] sz) := by
  refine Met.ofW (cc := cX7_sentenceOf) (maxL := 2) (ret := (some .int)) (by decide) rfl ?_
  intro p e s m args below meth cd s₁ B hml hv
  obtain ⟨rfl, hsz, hP, hK, hD0, hE⟩ := hv
  have hx := B.exec
  have hb := B.bytes
  have hr := B.returns
  have hts0 := atoms_spec (ws := .code yX7_sentenceOf cX7_sentenceOf 2 (some .int) :: wsL_law) B.pre
  have hts := fun (w : Cond) (h : w ∈ wsL_law) => hts0 w (List.mem_cons_of_mem _ h)
  have hown : s.vm.findClass RX7 = some m.cls := findClass_of_methodNamed B.named
  have hlocks := B.notSynchronized
  have hinX7 := inlX7
  subst hsz
  have hD := hD0.self (sz := s.heap.size)
  generalize hAe : va_A [(h0, .inr (7, [.ref tl, .ref wa1, .ref wa2, .ref wa3, .ref wa4, .int (nI c), .int sc])), (wa3, .inl (cI, 300, .inl fw3))] s.heap.size = A at hD hE ⊢
  have hA : ∀ q : Nat, s.heap.size ≤ q → A q := fun q h => by rw [← hAe]; exact Or.inr h
  have hS : va_S A s.heap s.heap [] := va_S.rf
  have hP : va_P D vwCl [(h0, .inr (7, [.ref tl, .ref wa1, .ref wa2, .ref wa3, .ref wa4, .int (nI c), .int sc])), (wa3, .inl (cI, 300, .inl fw3))] s.heap := hP
  have hl := lv_entry ([.ref h0, .int x]) (n := 2) (Nat.le_of_ble_eq_true rfl)
  rw [lg_entry_eq]
  generalize (lg_sl ([.ref h0, .int x]) ++ List.replicate (2 - (lg_sl ([.ref h0, .int x])).length) Slot.unset).toArray = ls at hl ⊢
  have hl : lv_has ls 2 [(0, .ref h0), (1, .int x)] := hl
  refine lv_aload_n hx hb dX7_sentenceOf_0 rfl (lv_at hl 0 rfl) ?_
  refine lv_iload_n hx hb dX7_sentenceOf_1 rfl (lv_at hl 1 rfl) ?_
  have hPc := hP.sub (ws' := [(h0, .inr (7, [.ref tl, .ref wa1, .ref wa2, .ref wa3, .ref wa4, .int (nI c), .int sc]))]) [0] rfl
  have hDc := hD.sub (ws' := [(h0, .inr (7, [.ref tl, .ref wa1, .ref wa2, .ref wa3, .ref wa4, .int (nI c), .int sc]))]) [0] (by decide) rfl
  have hFc := va_free (wc := [(h0, .inr (7, [.ref tl, .ref wa1, .ref wa2, .ref wa3, .ref wa4, .int (nI c), .int sc]))]) hD hS hA [0] rfl
  refine va_calli (va_runV (As := [.int x]) (rest := []) ⟨hx, hb, hml, hown, hts⟩ (s_X7_has l D cB cI cZ E s.heap.size h0 x tl wa1 wa2 wa3 wa4 (nI c) sc) (cwV 1 hts (uV (uc11 _ (List.mem_of_getElem? (i := 8) rfl)) (uc11 _ (List.mem_of_getElem? (i := 9) rfl)) (uc11 _ (List.mem_of_getElem? (i := 10) rfl)) (uc1 _ (List.mem_of_getElem? (i := 18) rfl)) (uc11 _ (List.mem_of_getElem? (i := 11) rfl))) rfl rfl rfl (by decide +kernel) ⟨Nat.le_of_ble_eq_true rfl, Nat.le_of_ble_eq_true rfl⟩) (pVE hE hS hFc hK hPc hDc 0 rfl rfl) rfl rfl hl.1 rfl (lv_room (Nat.le_of_ble_eq_true rfl)) dX7_sentenceOf_2 ⟨Nat.le_of_ble_eq_true rfl, Nat.le_of_ble_eq_true rfl⟩) hS (fun q _ h => hFc q h) hFc (fun r_1 u t H_2 L_3 ht hvm hw hB hz1 hk1 hS => ?_)
  obtain ⟨hP1, -, hD1⟩ := hB
  rw [ht] at hP1
  obtain ⟨hP, hD⟩ := va_join (wr := [(wa3, .inl (cI, 300, .inl fw3))]) (w1 := [(h0, .inr (7, [.ref tl, .ref wa1, .ref wa2, .ref wa3, .ref wa4, .int (nI c), .int sc]))]) hP hD [0] [1] rfl rfl (by decide) (by decide) hk1 hFc hP1 hD1
  have hP : va_P D vwCl [(h0, .inr (7, [.ref tl, .ref wa1, .ref wa2, .ref wa3, .ref wa4, .int (nI c), .int sc])), (wa3, .inl (cI, 300, .inl fw3))] H_2 := hP.sub [1, 0] rfl
  have hD : va_D A [(h0, .inr (7, [.ref tl, .ref wa1, .ref wa2, .ref wa3, .ref wa4, .int (nI c), .int sc])), (wa3, .inl (cI, 300, .inl fw3))] := hD.sub [1, 0] (by decide) rfl
  try dsimp only at hw
  rcases hw with ⟨rfl, h_4⟩ | ⟨rfl, h_5, h_6⟩
  · refine lv_if_eq (tgt := 17) hx hb dX7_sentenceOf_5 (by decide) (fun c_7 => ?_) (fun c_7 => ?_)
    · refine lv_iconst (v := (-1)) hx hb dX7_sentenceOf_17 (by decide) ?_
      have hP9 := hP.sub (ws' := [(h0, .inr (7, [.ref tl, .ref wa1, .ref wa2, .ref wa3, .ref wa4, .int (nI c), .int sc])), (wa3, .inl (cI, 300, .inl fw3))]) [0, 1] rfl
      have hD9 := hD.sub (ws' := [(h0, .inr (7, [.ref tl, .ref wa1, .ref wa2, .ref wa3, .ref wa4, .int (nI c), .int sc])), (wa3, .inl (cI, 300, .inl fw3))]) [0, 1] (by decide) rfl
      exact W.iret (v := (-1)) hx hb hr (fun t ht hW => ⟨⟨(-1), (), rfl, trivial, ⟨by rw [ht]; exact hP9, va_K.moved hW.alike hK, hD9⟩⟩, hS.F ht⟩) hS.2.2 dX7_sentenceOf_18
    · exact False.elim (by revert c_7; decide)
  · refine lv_if_eq (tgt := 17) hx hb dX7_sentenceOf_5 (by decide) (fun c_8 => ?_) (fun c_8 => ?_)
    · exact False.elim (by revert c_8; decide)
    · refine lv_aload_n hx hb dX7_sentenceOf_8 rfl (lv_at hl 0 rfl) ?_
      refine va_get (D := D) (ci := 7) (v := .ref wa3) (C := RX7) (T := TX7) (N := 7) hx hb hts hinX7 hown hK hP 0 rfl rfl 3 (by decide) (hts (.fieldLink RX7 27 "TaleReader$Words" "sentences" "[I") (uc3 _ (List.mem_of_getElem? (i := 16) rfl))) (fun _ h9 => h9) rfl dX7_sentenceOf_9 ?_
      refine lv_iload_n hx hb dX7_sentenceOf_12 rfl (lv_at hl 1 rfl) ?_
      refine va_iald (D := D) hx hb hK hP 1 1 rfl rfl (by first | assumption | exact pIxc (by assumption) (by assumption) (by omega) (by omega)) dX7_sentenceOf_13 ?_
      refine lv_topi (fun v_9 ev_9 => ?_)
      refine lv_goto (tgt := 18) hx hb dX7_sentenceOf_14 (by decide) ?_
      have hP9 := hP.sub (ws' := [(h0, .inr (7, [.ref tl, .ref wa1, .ref wa2, .ref wa3, .ref wa4, .int (nI c), .int sc])), (wa3, .inl (cI, 300, .inl fw3))]) [0, 1] rfl
      have hD9 := hD.sub (ws' := [(h0, .inr (7, [.ref tl, .ref wa1, .ref wa2, .ref wa3, .ref wa4, .int (nI c), .int sc])), (wa3, .inl (cI, 300, .inl fw3))]) [0, 1] (by decide) rfl
      exact W.iret (v := v_9) hx hb hr (fun t ht hW => ⟨⟨v_9, (), rfl, trivial, ⟨by rw [ht]; exact hP9, va_K.moved hW.alike hK, hD9⟩⟩, hS.F ht⟩) hS.2.2 dX7_sentenceOf_18
set_option maxHeartbeats 4000000 in
set_option maxRecDepth 100000 in
theorem s_X7_kindOf (l : Launch) (D : va_G) (cB cI cZ : ClassId) (E : pEt) (sz : Nat) (h0 : Nat) (x : Int32) (tl : Nat) (wa1 : Nat) (wa2 : Nat) (wa3 : Nat) (wa4 : Nat) (c : Nat) (sc : Int32) (fw4 : Nat → Int32) (hc : c ≤ 300) : Met l yX7_kindOf (.code yX7_kindOf cX7_kindOf 2 (some .int) :: wsL_law) ({ frames := 1, cells := 0, slots := 0, locals := 21 } : Room) (va_Pc [.ref h0, .int x] (pInE E D (pT cB cI cZ) sz [(h0, .inr (7, [.ref tl, .ref wa1, .ref wa2, .ref wa3, .ref wa4, .int (nI c), .int sc])), (wa4, .inl (cI, 300, .inl fw4))])) (va_Qi (fun (r : Int32) (u : Unit) => True) (fun (u : Unit) (t : State) => pAt D (pT cB cI cZ) (va_A [(h0, .inr (7, [.ref tl, .ref wa1, .ref wa2, .ref wa3, .ref wa4, .int (nI c), .int sc])), (wa4, .inl (cI, 300, .inl fw4))] sz) [(h0, .inr (7, [.ref tl, .ref wa1, .ref wa2, .ref wa3, .ref wa4, .int (nI c), .int sc])), (wa4, .inl (cI, 300, .inl fw4))] t) (va_A [(h0, .inr (7, [.ref tl, .ref wa1, .ref wa2, .ref wa3, .ref wa4, .int (nI c), .int sc])), (wa4, .inl (cI, 300, .inl fw4))] sz)) 0 0 (va_A [(h0, .inr (7, [.ref tl, .ref wa1, .ref wa2, .ref wa3, .ref wa4, .int (nI c), .int sc])), (wa4, .inl (cI, 300, .inl fw4))] sz) := by
  refine Met.ofW (cc := cX7_kindOf) (maxL := 2) (ret := (some .int)) (by decide) rfl ?_
  intro p e s m args below meth cd s₁ B hml hv
  obtain ⟨rfl, hsz, hP, hK, hD0, hE⟩ := hv
  have hx := B.exec
  have hb := B.bytes
  have hr := B.returns
  have hts0 := atoms_spec (ws := .code yX7_kindOf cX7_kindOf 2 (some .int) :: wsL_law) B.pre
  have hts := fun (w : Cond) (h : w ∈ wsL_law) => hts0 w (List.mem_cons_of_mem _ h)
  have hown : s.vm.findClass RX7 = some m.cls := findClass_of_methodNamed B.named
  have hlocks := B.notSynchronized
  have hinX7 := inlX7
  subst hsz
  have hD := hD0.self (sz := s.heap.size)
  generalize hAe : va_A [(h0, .inr (7, [.ref tl, .ref wa1, .ref wa2, .ref wa3, .ref wa4, .int (nI c), .int sc])), (wa4, .inl (cI, 300, .inl fw4))] s.heap.size = A at hD hE ⊢
  have hA : ∀ q : Nat, s.heap.size ≤ q → A q := fun q h => by rw [← hAe]; exact Or.inr h
  have hS : va_S A s.heap s.heap [] := va_S.rf
  have hP : va_P D vwCl [(h0, .inr (7, [.ref tl, .ref wa1, .ref wa2, .ref wa3, .ref wa4, .int (nI c), .int sc])), (wa4, .inl (cI, 300, .inl fw4))] s.heap := hP
  have hl := lv_entry ([.ref h0, .int x]) (n := 2) (Nat.le_of_ble_eq_true rfl)
  rw [lg_entry_eq]
  generalize (lg_sl ([.ref h0, .int x]) ++ List.replicate (2 - (lg_sl ([.ref h0, .int x])).length) Slot.unset).toArray = ls at hl ⊢
  have hl : lv_has ls 2 [(0, .ref h0), (1, .int x)] := hl
  refine lv_aload_n hx hb dX7_kindOf_0 rfl (lv_at hl 0 rfl) ?_
  refine lv_iload_n hx hb dX7_kindOf_1 rfl (lv_at hl 1 rfl) ?_
  have hPc := hP.sub (ws' := [(h0, .inr (7, [.ref tl, .ref wa1, .ref wa2, .ref wa3, .ref wa4, .int (nI c), .int sc]))]) [0] rfl
  have hDc := hD.sub (ws' := [(h0, .inr (7, [.ref tl, .ref wa1, .ref wa2, .ref wa3, .ref wa4, .int (nI c), .int sc]))]) [0] (by decide) rfl
  have hFc := va_free (wc := [(h0, .inr (7, [.ref tl, .ref wa1, .ref wa2, .ref wa3, .ref wa4, .int (nI c), .int sc]))]) hD hS hA [0] rfl
  refine va_calli (va_runV (As := [.int x]) (rest := []) ⟨hx, hb, hml, hown, hts⟩ (s_X7_has l D cB cI cZ E s.heap.size h0 x tl wa1 wa2 wa3 wa4 (nI c) sc) (cwV 1 hts (uV (uc11 _ (List.mem_of_getElem? (i := 8) rfl)) (uc11 _ (List.mem_of_getElem? (i := 9) rfl)) (uc11 _ (List.mem_of_getElem? (i := 10) rfl)) (uc1 _ (List.mem_of_getElem? (i := 18) rfl)) (uc11 _ (List.mem_of_getElem? (i := 11) rfl))) rfl rfl rfl (by decide +kernel) ⟨Nat.le_of_ble_eq_true rfl, Nat.le_of_ble_eq_true rfl⟩) (pVE hE hS hFc hK hPc hDc 0 rfl rfl) rfl rfl hl.1 rfl (lv_room (Nat.le_of_ble_eq_true rfl)) dX7_kindOf_2 ⟨Nat.le_of_ble_eq_true rfl, Nat.le_of_ble_eq_true rfl⟩) hS (fun q _ h => hFc q h) hFc (fun r_1 u t H_2 L_3 ht hvm hw hB hz1 hk1 hS => ?_)
  obtain ⟨hP1, -, hD1⟩ := hB
  rw [ht] at hP1
  obtain ⟨hP, hD⟩ := va_join (wr := [(wa4, .inl (cI, 300, .inl fw4))]) (w1 := [(h0, .inr (7, [.ref tl, .ref wa1, .ref wa2, .ref wa3, .ref wa4, .int (nI c), .int sc]))]) hP hD [0] [1] rfl rfl (by decide) (by decide) hk1 hFc hP1 hD1
  have hP : va_P D vwCl [(h0, .inr (7, [.ref tl, .ref wa1, .ref wa2, .ref wa3, .ref wa4, .int (nI c), .int sc])), (wa4, .inl (cI, 300, .inl fw4))] H_2 := hP.sub [1, 0] rfl
  have hD : va_D A [(h0, .inr (7, [.ref tl, .ref wa1, .ref wa2, .ref wa3, .ref wa4, .int (nI c), .int sc])), (wa4, .inl (cI, 300, .inl fw4))] := hD.sub [1, 0] (by decide) rfl
  try dsimp only at hw
  rcases hw with ⟨rfl, h_4⟩ | ⟨rfl, h_5, h_6⟩
  · refine lv_if_eq (tgt := 17) hx hb dX7_kindOf_5 (by decide) (fun c_7 => ?_) (fun c_7 => ?_)
    · refine lv_iconst (v := 5) hx hb dX7_kindOf_17 (by decide) ?_
      have hP9 := hP.sub (ws' := [(h0, .inr (7, [.ref tl, .ref wa1, .ref wa2, .ref wa3, .ref wa4, .int (nI c), .int sc])), (wa4, .inl (cI, 300, .inl fw4))]) [0, 1] rfl
      have hD9 := hD.sub (ws' := [(h0, .inr (7, [.ref tl, .ref wa1, .ref wa2, .ref wa3, .ref wa4, .int (nI c), .int sc])), (wa4, .inl (cI, 300, .inl fw4))]) [0, 1] (by decide) rfl
      exact W.iret (v := 5) hx hb hr (fun t ht hW => ⟨⟨5, (), rfl, trivial, ⟨by rw [ht]; exact hP9, va_K.moved hW.alike hK, hD9⟩⟩, hS.F ht⟩) hS.2.2 dX7_kindOf_18
    · exact False.elim (by revert c_7; decide)
  · refine lv_if_eq (tgt := 17) hx hb dX7_kindOf_5 (by decide) (fun c_8 => ?_) (fun c_8 => ?_)
    · exact False.elim (by revert c_8; decide)
    · refine lv_aload_n hx hb dX7_kindOf_8 rfl (lv_at hl 0 rfl) ?_
      refine va_get (D := D) (ci := 7) (v := .ref wa4) (C := RX7) (T := TX7) (N := 7) hx hb hts hinX7 hown hK hP 0 rfl rfl 4 (by decide) (hts (.fieldLink RX7 30 "TaleReader$Words" "kinds" "[I") (uc3 _ (List.mem_of_getElem? (i := 17) rfl))) (fun _ h9 => h9) rfl dX7_kindOf_9 ?_
      refine lv_iload_n hx hb dX7_kindOf_12 rfl (lv_at hl 1 rfl) ?_
      refine va_iald (D := D) hx hb hK hP 1 1 rfl rfl (by first | assumption | exact pIxc (by assumption) (by assumption) (by omega) (by omega)) dX7_kindOf_13 ?_
      refine lv_topi (fun v_9 ev_9 => ?_)
      refine lv_goto (tgt := 18) hx hb dX7_kindOf_14 (by decide) ?_
      have hP9 := hP.sub (ws' := [(h0, .inr (7, [.ref tl, .ref wa1, .ref wa2, .ref wa3, .ref wa4, .int (nI c), .int sc])), (wa4, .inl (cI, 300, .inl fw4))]) [0, 1] rfl
      have hD9 := hD.sub (ws' := [(h0, .inr (7, [.ref tl, .ref wa1, .ref wa2, .ref wa3, .ref wa4, .int (nI c), .int sc])), (wa4, .inl (cI, 300, .inl fw4))]) [0, 1] (by decide) rfl
      exact W.iret (v := v_9) hx hb hr (fun t ht hW => ⟨⟨v_9, (), rfl, trivial, ⟨by rw [ht]; exact hP9, va_K.moved hW.alike hK, hD9⟩⟩, hS.F ht⟩) hS.2.2 dX7_kindOf_18
set_option maxHeartbeats 4000000 in
set_option maxRecDepth 100000 in
theorem s_X7_isFirst (l : Launch) (D : va_G) (cB cI cZ : ClassId) (E : pEt) (sz : Nat) (h0 : Nat) (x : Int32) (tl : Nat) (wa1 : Nat) (wa2 : Nat) (wa3 : Nat) (wa4 : Nat) (c : Nat) (sc : Int32) (fw3 : Nat → Int32) (hc : c ≤ 300) : Met l yX7_isFirst (.code yX7_isFirst cX7_isFirst 2 (some .boolean) :: wsL_law) ({ frames := 2, cells := 0, slots := 0, locals := 42 } : Room) (va_Pc [.ref h0, .int x] (pInE E D (pT cB cI cZ) sz [(h0, .inr (7, [.ref tl, .ref wa1, .ref wa2, .ref wa3, .ref wa4, .int (nI c), .int sc])), (wa3, .inl (cI, 300, .inl fw3))])) (va_Qi (fun (r : Int32) (u : Unit) => True) (fun (u : Unit) (t : State) => pAt D (pT cB cI cZ) (va_A [(h0, .inr (7, [.ref tl, .ref wa1, .ref wa2, .ref wa3, .ref wa4, .int (nI c), .int sc])), (wa3, .inl (cI, 300, .inl fw3))] sz) [(h0, .inr (7, [.ref tl, .ref wa1, .ref wa2, .ref wa3, .ref wa4, .int (nI c), .int sc])), (wa3, .inl (cI, 300, .inl fw3))] t) (va_A [(h0, .inr (7, [.ref tl, .ref wa1, .ref wa2, .ref wa3, .ref wa4, .int (nI c), .int sc])), (wa3, .inl (cI, 300, .inl fw3))] sz)) 0 0 (va_A [(h0, .inr (7, [.ref tl, .ref wa1, .ref wa2, .ref wa3, .ref wa4, .int (nI c), .int sc])), (wa3, .inl (cI, 300, .inl fw3))] sz) := by
  refine Met.ofW (cc := cX7_isFirst) (maxL := 2) (ret := (some .boolean)) (by decide) rfl ?_
  intro p e s m args below meth cd s₁ B hml hv
  obtain ⟨rfl, hsz, hP, hK, hD0, hE⟩ := hv
  have hx := B.exec
  have hb := B.bytes
  have hr := B.returns
  have hts0 := atoms_spec (ws := .code yX7_isFirst cX7_isFirst 2 (some .boolean) :: wsL_law) B.pre
  have hts := fun (w : Cond) (h : w ∈ wsL_law) => hts0 w (List.mem_cons_of_mem _ h)
  have hown : s.vm.findClass RX7 = some m.cls := findClass_of_methodNamed B.named
  have hlocks := B.notSynchronized
  subst hsz
  have hD := hD0.self (sz := s.heap.size)
  generalize hAe : va_A [(h0, .inr (7, [.ref tl, .ref wa1, .ref wa2, .ref wa3, .ref wa4, .int (nI c), .int sc])), (wa3, .inl (cI, 300, .inl fw3))] s.heap.size = A at hD hE ⊢
  have hA : ∀ q : Nat, s.heap.size ≤ q → A q := fun q h => by rw [← hAe]; exact Or.inr h
  have hS : va_S A s.heap s.heap [] := va_S.rf
  have hP : va_P D vwCl [(h0, .inr (7, [.ref tl, .ref wa1, .ref wa2, .ref wa3, .ref wa4, .int (nI c), .int sc])), (wa3, .inl (cI, 300, .inl fw3))] s.heap := hP
  have hl := lv_entry ([.ref h0, .int x]) (n := 2) (Nat.le_of_ble_eq_true rfl)
  rw [lg_entry_eq]
  generalize (lg_sl ([.ref h0, .int x]) ++ List.replicate (2 - (lg_sl ([.ref h0, .int x])).length) Slot.unset).toArray = ls at hl ⊢
  have hl : lv_has ls 2 [(0, .ref h0), (1, .int x)] := hl
  refine lv_iload_n hx hb dX7_isFirst_0 rfl (lv_at hl 1 rfl) ?_
  refine lv_if_eq (tgt := 19) hx hb dX7_isFirst_1 (by decide) (fun c_1 => ?_) (fun c_1 => ?_)
  · refine lv_iconst (v := 1) hx hb dX7_isFirst_19 (by decide) ?_
    refine lv_goto (tgt := 24) hx hb dX7_isFirst_20 (by decide) ?_
    have hP9 := hP.sub (ws' := [(h0, .inr (7, [.ref tl, .ref wa1, .ref wa2, .ref wa3, .ref wa4, .int (nI c), .int sc])), (wa3, .inl (cI, 300, .inl fw3))]) [0, 1] rfl
    have hD9 := hD.sub (ws' := [(h0, .inr (7, [.ref tl, .ref wa1, .ref wa2, .ref wa3, .ref wa4, .int (nI c), .int sc])), (wa3, .inl (cI, 300, .inl fw3))]) [0, 1] (by decide) rfl
    exact W.zret (v := 1) hx hb hr (rfl) (fun t ht hW => ⟨⟨1, (), rfl, trivial, ⟨by rw [ht]; exact hP9, va_K.moved hW.alike hK, hD9⟩⟩, hS.F ht⟩) hS.2.2 dX7_isFirst_24
  · refine lv_aload_n hx hb dX7_isFirst_4 rfl (lv_at hl 0 rfl) ?_
    refine lv_iload_n hx hb dX7_isFirst_5 rfl (lv_at hl 1 rfl) ?_
    refine lv_iconst (v := 1) hx hb dX7_isFirst_6 (by decide) ?_
    refine lv_isub hx hb dX7_isFirst_7 ?_
    refine lv_topi (fun v_2 ev_2 => ?_)
    have hPc := hP.sub (ws' := [(h0, .inr (7, [.ref tl, .ref wa1, .ref wa2, .ref wa3, .ref wa4, .int (nI c), .int sc])), (wa3, .inl (cI, 300, .inl fw3))]) [0, 1] rfl
    have hDc := hD.sub (ws' := [(h0, .inr (7, [.ref tl, .ref wa1, .ref wa2, .ref wa3, .ref wa4, .int (nI c), .int sc])), (wa3, .inl (cI, 300, .inl fw3))]) [0, 1] (by decide) rfl
    have hFc := va_free (wc := [(h0, .inr (7, [.ref tl, .ref wa1, .ref wa2, .ref wa3, .ref wa4, .int (nI c), .int sc])), (wa3, .inl (cI, 300, .inl fw3))]) hD hS hA [0, 1] rfl
    refine va_calli (va_runV (As := [.int v_2]) (rest := []) ⟨hx, hb, hml, hown, hts⟩ (s_X7_sentenceOf l D cB cI cZ E s.heap.size h0 v_2 tl wa1 wa2 wa3 wa4 c sc fw3 (by first | assumption | omega)) (cwV 1 hts (uV (uc14 _ (List.mem_of_getElem? (i := 9) rfl)) (uc14 _ (List.mem_of_getElem? (i := 10) rfl)) (uc14 _ (List.mem_of_getElem? (i := 11) rfl)) (uc1 _ (List.mem_of_getElem? (i := 18) rfl)) (uc14 _ (List.mem_of_getElem? (i := 12) rfl))) rfl rfl rfl (by decide +kernel) ⟨Nat.le_of_ble_eq_true rfl, Nat.le_of_ble_eq_true rfl⟩) (pVE hE hS hFc hK hPc hDc 0 rfl rfl) rfl rfl hl.1 rfl (lv_room (Nat.le_of_ble_eq_true rfl)) dX7_isFirst_8 ⟨Nat.le_of_ble_eq_true rfl, Nat.le_of_ble_eq_true rfl⟩) hS (fun q _ h => hFc q h) hFc (fun r_3 u t H_4 L_5 ht hvm hw hB hz1 hk1 hS => ?_)
    obtain ⟨hP1, -, hD1⟩ := hB
    rw [ht] at hP1
    obtain ⟨hP, hD⟩ := va_join (wr := []) (w1 := [(h0, .inr (7, [.ref tl, .ref wa1, .ref wa2, .ref wa3, .ref wa4, .int (nI c), .int sc])), (wa3, .inl (cI, 300, .inl fw3))]) hP hD [0, 1] [] rfl rfl (by decide) (by decide) hk1 hFc hP1 hD1
    have hP : va_P D vwCl [(h0, .inr (7, [.ref tl, .ref wa1, .ref wa2, .ref wa3, .ref wa4, .int (nI c), .int sc])), (wa3, .inl (cI, 300, .inl fw3))] H_4 := hP.sub [0, 1] rfl
    have hD : va_D A [(h0, .inr (7, [.ref tl, .ref wa1, .ref wa2, .ref wa3, .ref wa4, .int (nI c), .int sc])), (wa3, .inl (cI, 300, .inl fw3))] := hD.sub [0, 1] (by decide) rfl
    try dsimp only at hw
    refine lv_aload_n hx hb dX7_isFirst_11 rfl (lv_at hl 0 rfl) ?_
    refine lv_iload_n hx hb dX7_isFirst_12 rfl (lv_at hl 1 rfl) ?_
    have hPc := hP.sub (ws' := [(h0, .inr (7, [.ref tl, .ref wa1, .ref wa2, .ref wa3, .ref wa4, .int (nI c), .int sc])), (wa3, .inl (cI, 300, .inl fw3))]) [0, 1] rfl
    have hDc := hD.sub (ws' := [(h0, .inr (7, [.ref tl, .ref wa1, .ref wa2, .ref wa3, .ref wa4, .int (nI c), .int sc])), (wa3, .inl (cI, 300, .inl fw3))]) [0, 1] (by decide) rfl
    have hFc := va_free (wc := [(h0, .inr (7, [.ref tl, .ref wa1, .ref wa2, .ref wa3, .ref wa4, .int (nI c), .int sc])), (wa3, .inl (cI, 300, .inl fw3))]) hD hS hA [0, 1] rfl
    refine va_calli (va_runV (As := [.int x]) (rest := [.int r_3]) ⟨hx, hb, hml, hown, hts⟩ (s_X7_sentenceOf l D cB cI cZ E H_4.size h0 x tl wa1 wa2 wa3 wa4 c sc fw3 (by first | assumption | omega)) (cwV 1 hts (uV (uc14 _ (List.mem_of_getElem? (i := 9) rfl)) (uc14 _ (List.mem_of_getElem? (i := 10) rfl)) (uc14 _ (List.mem_of_getElem? (i := 11) rfl)) (uc1 _ (List.mem_of_getElem? (i := 18) rfl)) (uc14 _ (List.mem_of_getElem? (i := 12) rfl))) rfl rfl rfl (by decide +kernel) ⟨Nat.le_of_ble_eq_true rfl, Nat.le_of_ble_eq_true rfl⟩) (pVE hE hS hFc hK hPc hDc 0 rfl rfl) rfl rfl hl.1 rfl (lv_room (Nat.le_of_ble_eq_true rfl)) dX7_isFirst_13 ⟨Nat.le_of_ble_eq_true rfl, Nat.le_of_ble_eq_true rfl⟩) hS (fun q _ h => hFc q h) hFc (fun r_6 u t H_7 L_8 ht hvm hw hB hz1 hk1 hS => ?_)
    obtain ⟨hP1, -, hD1⟩ := hB
    rw [ht] at hP1
    obtain ⟨hP, hD⟩ := va_join (wr := []) (w1 := [(h0, .inr (7, [.ref tl, .ref wa1, .ref wa2, .ref wa3, .ref wa4, .int (nI c), .int sc])), (wa3, .inl (cI, 300, .inl fw3))]) hP hD [0, 1] [] rfl rfl (by decide) (by decide) hk1 hFc hP1 hD1
    have hP : va_P D vwCl [(h0, .inr (7, [.ref tl, .ref wa1, .ref wa2, .ref wa3, .ref wa4, .int (nI c), .int sc])), (wa3, .inl (cI, 300, .inl fw3))] H_7 := hP.sub [0, 1] rfl
    have hD : va_D A [(h0, .inr (7, [.ref tl, .ref wa1, .ref wa2, .ref wa3, .ref wa4, .int (nI c), .int sc])), (wa3, .inl (cI, 300, .inl fw3))] := hD.sub [0, 1] (by decide) rfl
    try dsimp only at hw
    refine lv_icmp_eq (tgt := 23) hx hb dX7_isFirst_16 (by decide) (fun c_9 => ?_) (fun c_9 => ?_)
    · refine lv_iconst (v := 0) hx hb dX7_isFirst_23 (by decide) ?_
      have hP9 := hP.sub (ws' := [(h0, .inr (7, [.ref tl, .ref wa1, .ref wa2, .ref wa3, .ref wa4, .int (nI c), .int sc])), (wa3, .inl (cI, 300, .inl fw3))]) [0, 1] rfl
      have hD9 := hD.sub (ws' := [(h0, .inr (7, [.ref tl, .ref wa1, .ref wa2, .ref wa3, .ref wa4, .int (nI c), .int sc])), (wa3, .inl (cI, 300, .inl fw3))]) [0, 1] (by decide) rfl
      exact W.zret (v := 0) hx hb hr (rfl) (fun t ht hW => ⟨⟨0, (), rfl, trivial, ⟨by rw [ht]; exact hP9, va_K.moved hW.alike hK, hD9⟩⟩, hS.F ht⟩) hS.2.2 dX7_isFirst_24
    · refine lv_iconst (v := 1) hx hb dX7_isFirst_19 (by decide) ?_
      refine lv_goto (tgt := 24) hx hb dX7_isFirst_20 (by decide) ?_
      have hP9 := hP.sub (ws' := [(h0, .inr (7, [.ref tl, .ref wa1, .ref wa2, .ref wa3, .ref wa4, .int (nI c), .int sc])), (wa3, .inl (cI, 300, .inl fw3))]) [0, 1] rfl
      have hD9 := hD.sub (ws' := [(h0, .inr (7, [.ref tl, .ref wa1, .ref wa2, .ref wa3, .ref wa4, .int (nI c), .int sc])), (wa3, .inl (cI, 300, .inl fw3))]) [0, 1] (by decide) rfl
      exact W.zret (v := 1) hx hb hr (rfl) (fun t ht hW => ⟨⟨1, (), rfl, trivial, ⟨by rw [ht]; exact hP9, va_K.moved hW.alike hK, hD9⟩⟩, hS.F ht⟩) hS.2.2 dX7_isFirst_24
set_option maxHeartbeats 4000000 in
set_option maxRecDepth 100000 in
theorem s_X7_beginsWith (l : Launch) (D : va_G) (cB cI cZ : ClassId) (E : pEt) (sz : Nat) (h0 : Nat) (x : Int32) (y : Int32) (tl : Nat) (wa1 : Nat) (wa2 : Nat) (wa3 : Nat) (wa4 : Nat) (c : Nat) (sc : Int32) (fw1 : Nat → Int32) (fw2 : Nat → Int32) (ta : Nat) (kt : Nat) (ft : Nat → Int32) (hc : c ≤ 300) (hkt : kt ≤ 600) : Met l yX7_beginsWith (.code yX7_beginsWith cX7_beginsWith 3 (some .boolean) :: wsL_law) ({ frames := 2, cells := 0, slots := 0, locals := 42 } : Room) (va_Pc [.ref h0, .int x, .int y] (pInE E D (pT cB cI cZ) sz [(h0, .inr (7, [.ref tl, .ref wa1, .ref wa2, .ref wa3, .ref wa4, .int (nI c), .int sc])), (wa1, .inl (cI, 300, .inl fw1)), (wa2, .inl (cI, 300, .inl fw2)), (tl, .inr (5, [.ref ta, .int (nI kt)])), (ta, .inl (cB, 600, .inl ft))])) (va_Qi (fun (r : Int32) (u : Unit) => True) (fun (u : Unit) (t : State) => pAt D (pT cB cI cZ) (va_A [(h0, .inr (7, [.ref tl, .ref wa1, .ref wa2, .ref wa3, .ref wa4, .int (nI c), .int sc])), (wa1, .inl (cI, 300, .inl fw1)), (wa2, .inl (cI, 300, .inl fw2)), (tl, .inr (5, [.ref ta, .int (nI kt)])), (ta, .inl (cB, 600, .inl ft))] sz) [(h0, .inr (7, [.ref tl, .ref wa1, .ref wa2, .ref wa3, .ref wa4, .int (nI c), .int sc])), (wa1, .inl (cI, 300, .inl fw1)), (wa2, .inl (cI, 300, .inl fw2)), (tl, .inr (5, [.ref ta, .int (nI kt)])), (ta, .inl (cB, 600, .inl ft))] t) (va_A [(h0, .inr (7, [.ref tl, .ref wa1, .ref wa2, .ref wa3, .ref wa4, .int (nI c), .int sc])), (wa1, .inl (cI, 300, .inl fw1)), (wa2, .inl (cI, 300, .inl fw2)), (tl, .inr (5, [.ref ta, .int (nI kt)])), (ta, .inl (cB, 600, .inl ft))] sz)) 0 0 (va_A [(h0, .inr (7, [.ref tl, .ref wa1, .ref wa2, .ref wa3, .ref wa4, .int (nI c), .int sc])), (wa1, .inl (cI, 300, .inl fw1)), (wa2, .inl (cI, 300, .inl fw2)), (tl, .inr (5, [.ref ta, .int (nI kt)])), (ta, .inl (cB, 600, .inl ft))] sz) := by
  refine Met.ofW (cc := cX7_beginsWith) (maxL := 3) (ret := (some .boolean)) (by decide) rfl ?_
  intro p e s m args below meth cd s₁ B hml hv
  obtain ⟨rfl, hsz, hP, hK, hD0, hE⟩ := hv
  have hx := B.exec
  have hb := B.bytes
  have hr := B.returns
  have hts0 := atoms_spec (ws := .code yX7_beginsWith cX7_beginsWith 3 (some .boolean) :: wsL_law) B.pre
  have hts := fun (w : Cond) (h : w ∈ wsL_law) => hts0 w (List.mem_cons_of_mem _ h)
  have hown : s.vm.findClass RX7 = some m.cls := findClass_of_methodNamed B.named
  have hlocks := B.notSynchronized
  have hinX7 := inlX7
  subst hsz
  have hD := hD0.self (sz := s.heap.size)
  generalize hAe : va_A [(h0, .inr (7, [.ref tl, .ref wa1, .ref wa2, .ref wa3, .ref wa4, .int (nI c), .int sc])), (wa1, .inl (cI, 300, .inl fw1)), (wa2, .inl (cI, 300, .inl fw2)), (tl, .inr (5, [.ref ta, .int (nI kt)])), (ta, .inl (cB, 600, .inl ft))] s.heap.size = A at hD hE ⊢
  have hA : ∀ q : Nat, s.heap.size ≤ q → A q := fun q h => by rw [← hAe]; exact Or.inr h
  have hS : va_S A s.heap s.heap [] := va_S.rf
  have hP : va_P D vwCl [(h0, .inr (7, [.ref tl, .ref wa1, .ref wa2, .ref wa3, .ref wa4, .int (nI c), .int sc])), (wa1, .inl (cI, 300, .inl fw1)), (wa2, .inl (cI, 300, .inl fw2)), (tl, .inr (5, [.ref ta, .int (nI kt)])), (ta, .inl (cB, 600, .inl ft))] s.heap := hP
  have hl := lv_entry ([.ref h0, .int x, .int y]) (n := 3) (Nat.le_of_ble_eq_true rfl)
  rw [lg_entry_eq]
  generalize (lg_sl ([.ref h0, .int x, .int y]) ++ List.replicate (3 - (lg_sl ([.ref h0, .int x, .int y])).length) Slot.unset).toArray = ls at hl ⊢
  have hl : lv_has ls 3 [(0, .ref h0), (1, .int x), (2, .int y)] := hl
  refine lv_aload_n hx hb dX7_beginsWith_0 rfl (lv_at hl 0 rfl) ?_
  refine lv_iload_n hx hb dX7_beginsWith_1 rfl (lv_at hl 2 rfl) ?_
  have hPc := hP.sub (ws' := [(h0, .inr (7, [.ref tl, .ref wa1, .ref wa2, .ref wa3, .ref wa4, .int (nI c), .int sc])), (wa2, .inl (cI, 300, .inl fw2))]) [0, 2] rfl
  have hDc := hD.sub (ws' := [(h0, .inr (7, [.ref tl, .ref wa1, .ref wa2, .ref wa3, .ref wa4, .int (nI c), .int sc])), (wa2, .inl (cI, 300, .inl fw2))]) [0, 2] (by decide) rfl
  have hFc := va_free (wc := [(h0, .inr (7, [.ref tl, .ref wa1, .ref wa2, .ref wa3, .ref wa4, .int (nI c), .int sc])), (wa2, .inl (cI, 300, .inl fw2))]) hD hS hA [0, 2] rfl
  refine va_calli (va_runV (As := [.int y]) (rest := []) ⟨hx, hb, hml, hown, hts⟩ (s_X7_lengthOf l D cB cI cZ E s.heap.size h0 y tl wa1 wa2 wa3 wa4 c sc fw2 (by first | assumption | omega)) (cwV 1 hts (uV (uc11 _ (List.mem_of_getElem? (i := 12) rfl)) (uc11 _ (List.mem_of_getElem? (i := 13) rfl)) (uc11 _ (List.mem_of_getElem? (i := 14) rfl)) (uc1 _ (List.mem_of_getElem? (i := 18) rfl)) (uc11 _ (List.mem_of_getElem? (i := 15) rfl))) rfl rfl rfl (by decide +kernel) ⟨Nat.le_of_ble_eq_true rfl, Nat.le_of_ble_eq_true rfl⟩) (pVE hE hS hFc hK hPc hDc 0 rfl rfl) rfl rfl hl.1 rfl (lv_room (Nat.le_of_ble_eq_true rfl)) dX7_beginsWith_2 ⟨Nat.le_of_ble_eq_true rfl, Nat.le_of_ble_eq_true rfl⟩) hS (fun q _ h => hFc q h) hFc (fun r_1 u t H_2 L_3 ht hvm hw hB hz1 hk1 hS => ?_)
  obtain ⟨hP1, -, hD1⟩ := hB
  rw [ht] at hP1
  obtain ⟨hP, hD⟩ := va_join (wr := [(wa1, .inl (cI, 300, .inl fw1)), (tl, .inr (5, [.ref ta, .int (nI kt)])), (ta, .inl (cB, 600, .inl ft))]) (w1 := [(h0, .inr (7, [.ref tl, .ref wa1, .ref wa2, .ref wa3, .ref wa4, .int (nI c), .int sc])), (wa2, .inl (cI, 300, .inl fw2))]) hP hD [0, 2] [1, 3, 4] rfl rfl (by decide) (by decide) hk1 hFc hP1 hD1
  have hP : va_P D vwCl [(h0, .inr (7, [.ref tl, .ref wa1, .ref wa2, .ref wa3, .ref wa4, .int (nI c), .int sc])), (wa1, .inl (cI, 300, .inl fw1)), (wa2, .inl (cI, 300, .inl fw2)), (tl, .inr (5, [.ref ta, .int (nI kt)])), (ta, .inl (cB, 600, .inl ft))] H_2 := hP.sub [3, 0, 4, 1, 2] rfl
  have hD : va_D A [(h0, .inr (7, [.ref tl, .ref wa1, .ref wa2, .ref wa3, .ref wa4, .int (nI c), .int sc])), (wa1, .inl (cI, 300, .inl fw1)), (wa2, .inl (cI, 300, .inl fw2)), (tl, .inr (5, [.ref ta, .int (nI kt)])), (ta, .inl (cB, 600, .inl ft))] := hD.sub [3, 0, 4, 1, 2] (by decide) rfl
  try dsimp only at hw
  refine lv_aload_n hx hb dX7_beginsWith_5 rfl (lv_at hl 0 rfl) ?_
  refine lv_iload_n hx hb dX7_beginsWith_6 rfl (lv_at hl 1 rfl) ?_
  have hPc := hP.sub (ws' := [(h0, .inr (7, [.ref tl, .ref wa1, .ref wa2, .ref wa3, .ref wa4, .int (nI c), .int sc])), (wa2, .inl (cI, 300, .inl fw2))]) [0, 2] rfl
  have hDc := hD.sub (ws' := [(h0, .inr (7, [.ref tl, .ref wa1, .ref wa2, .ref wa3, .ref wa4, .int (nI c), .int sc])), (wa2, .inl (cI, 300, .inl fw2))]) [0, 2] (by decide) rfl
  have hFc := va_free (wc := [(h0, .inr (7, [.ref tl, .ref wa1, .ref wa2, .ref wa3, .ref wa4, .int (nI c), .int sc])), (wa2, .inl (cI, 300, .inl fw2))]) hD hS hA [0, 2] rfl
  refine va_calli (va_runV (As := [.int x]) (rest := [.int r_1]) ⟨hx, hb, hml, hown, hts⟩ (s_X7_lengthOf l D cB cI cZ E H_2.size h0 x tl wa1 wa2 wa3 wa4 c sc fw2 (by first | assumption | omega)) (cwV 1 hts (uV (uc11 _ (List.mem_of_getElem? (i := 12) rfl)) (uc11 _ (List.mem_of_getElem? (i := 13) rfl)) (uc11 _ (List.mem_of_getElem? (i := 14) rfl)) (uc1 _ (List.mem_of_getElem? (i := 18) rfl)) (uc11 _ (List.mem_of_getElem? (i := 15) rfl))) rfl rfl rfl (by decide +kernel) ⟨Nat.le_of_ble_eq_true rfl, Nat.le_of_ble_eq_true rfl⟩) (pVE hE hS hFc hK hPc hDc 0 rfl rfl) rfl rfl hl.1 rfl (lv_room (Nat.le_of_ble_eq_true rfl)) dX7_beginsWith_7 ⟨Nat.le_of_ble_eq_true rfl, Nat.le_of_ble_eq_true rfl⟩) hS (fun q _ h => hFc q h) hFc (fun r_4 u t H_5 L_6 ht hvm hw hB hz1 hk1 hS => ?_)
  obtain ⟨hP1, -, hD1⟩ := hB
  rw [ht] at hP1
  obtain ⟨hP, hD⟩ := va_join (wr := [(wa1, .inl (cI, 300, .inl fw1)), (tl, .inr (5, [.ref ta, .int (nI kt)])), (ta, .inl (cB, 600, .inl ft))]) (w1 := [(h0, .inr (7, [.ref tl, .ref wa1, .ref wa2, .ref wa3, .ref wa4, .int (nI c), .int sc])), (wa2, .inl (cI, 300, .inl fw2))]) hP hD [0, 2] [1, 3, 4] rfl rfl (by decide) (by decide) hk1 hFc hP1 hD1
  have hP : va_P D vwCl [(h0, .inr (7, [.ref tl, .ref wa1, .ref wa2, .ref wa3, .ref wa4, .int (nI c), .int sc])), (wa1, .inl (cI, 300, .inl fw1)), (wa2, .inl (cI, 300, .inl fw2)), (tl, .inr (5, [.ref ta, .int (nI kt)])), (ta, .inl (cB, 600, .inl ft))] H_5 := hP.sub [3, 0, 4, 1, 2] rfl
  have hD : va_D A [(h0, .inr (7, [.ref tl, .ref wa1, .ref wa2, .ref wa3, .ref wa4, .int (nI c), .int sc])), (wa1, .inl (cI, 300, .inl fw1)), (wa2, .inl (cI, 300, .inl fw2)), (tl, .inr (5, [.ref ta, .int (nI kt)])), (ta, .inl (cB, 600, .inl ft))] := hD.sub [3, 0, 4, 1, 2] (by decide) rfl
  try dsimp only at hw
  refine lv_icmp_gt (tgt := 46) hx hb dX7_beginsWith_10 (by decide) (fun c_7 => ?_) (fun c_7 => ?_)
  · refine lv_iconst (v := 0) hx hb dX7_beginsWith_46 (by decide) ?_
    have hP9 := hP.sub (ws' := [(h0, .inr (7, [.ref tl, .ref wa1, .ref wa2, .ref wa3, .ref wa4, .int (nI c), .int sc])), (wa1, .inl (cI, 300, .inl fw1)), (wa2, .inl (cI, 300, .inl fw2)), (tl, .inr (5, [.ref ta, .int (nI kt)])), (ta, .inl (cB, 600, .inl ft))]) [0, 1, 2, 3, 4] rfl
    have hD9 := hD.sub (ws' := [(h0, .inr (7, [.ref tl, .ref wa1, .ref wa2, .ref wa3, .ref wa4, .int (nI c), .int sc])), (wa1, .inl (cI, 300, .inl fw1)), (wa2, .inl (cI, 300, .inl fw2)), (tl, .inr (5, [.ref ta, .int (nI kt)])), (ta, .inl (cB, 600, .inl ft))]) [0, 1, 2, 3, 4] (by decide) rfl
    exact W.zret (v := 0) hx hb hr (rfl) (fun t ht hW => ⟨⟨0, (), rfl, trivial, ⟨by rw [ht]; exact hP9, va_K.moved hW.alike hK, hD9⟩⟩, hS.F ht⟩) hS.2.2 dX7_beginsWith_47
  · refine lv_aload_n hx hb dX7_beginsWith_13 rfl (lv_at hl 0 rfl) ?_
    refine va_get (D := D) (ci := 7) (v := .ref tl) (C := RX7) (T := TX7) (N := 7) hx hb hts hinX7 hown hK hP 0 rfl rfl 0 (by decide) (hts (.fieldLink RX7 14 "TaleReader$Words" "tale" "LTaleReader$Text;") (uc3 _ (List.mem_of_getElem? (i := 12) rfl))) (fun _ h9 => h9) rfl dX7_beginsWith_14 ?_
    refine lv_aload_n hx hb dX7_beginsWith_17 rfl (lv_at hl 0 rfl) ?_
    refine lv_iload_n hx hb dX7_beginsWith_18 rfl (lv_at hl 1 rfl) ?_
    have hPc := hP.sub (ws' := [(h0, .inr (7, [.ref tl, .ref wa1, .ref wa2, .ref wa3, .ref wa4, .int (nI c), .int sc])), (wa1, .inl (cI, 300, .inl fw1))]) [0, 1] rfl
    have hDc := hD.sub (ws' := [(h0, .inr (7, [.ref tl, .ref wa1, .ref wa2, .ref wa3, .ref wa4, .int (nI c), .int sc])), (wa1, .inl (cI, 300, .inl fw1))]) [0, 1] (by decide) rfl
    have hFc := va_free (wc := [(h0, .inr (7, [.ref tl, .ref wa1, .ref wa2, .ref wa3, .ref wa4, .int (nI c), .int sc])), (wa1, .inl (cI, 300, .inl fw1))]) hD hS hA [0, 1] rfl
    refine va_calli (va_runV (As := [.int x]) (rest := [.ref tl]) ⟨hx, hb, hml, hown, hts⟩ (s_X7_placeOf l D cB cI cZ E H_5.size h0 x tl wa1 wa2 wa3 wa4 c sc fw1 (by first | assumption | omega)) (cwV 1 hts (uV (uc11 _ (List.mem_of_getElem? (i := 4) rfl)) (uc11 _ (List.mem_of_getElem? (i := 5) rfl)) (uc11 _ (List.mem_of_getElem? (i := 6) rfl)) (uc1 _ (List.mem_of_getElem? (i := 18) rfl)) (uc11 _ (List.mem_of_getElem? (i := 7) rfl))) rfl rfl rfl (by decide +kernel) ⟨Nat.le_of_ble_eq_true rfl, Nat.le_of_ble_eq_true rfl⟩) (pVE hE hS hFc hK hPc hDc 0 rfl rfl) rfl rfl hl.1 rfl (lv_room (Nat.le_of_ble_eq_true rfl)) dX7_beginsWith_19 ⟨Nat.le_of_ble_eq_true rfl, Nat.le_of_ble_eq_true rfl⟩) hS (fun q _ h => hFc q h) hFc (fun r_8 u t H_9 L_10 ht hvm hw hB hz1 hk1 hS => ?_)
    obtain ⟨hP1, -, hD1⟩ := hB
    rw [ht] at hP1
    obtain ⟨hP, hD⟩ := va_join (wr := [(wa2, .inl (cI, 300, .inl fw2)), (tl, .inr (5, [.ref ta, .int (nI kt)])), (ta, .inl (cB, 600, .inl ft))]) (w1 := [(h0, .inr (7, [.ref tl, .ref wa1, .ref wa2, .ref wa3, .ref wa4, .int (nI c), .int sc])), (wa1, .inl (cI, 300, .inl fw1))]) hP hD [0, 1] [2, 3, 4] rfl rfl (by decide) (by decide) hk1 hFc hP1 hD1
    have hP : va_P D vwCl [(h0, .inr (7, [.ref tl, .ref wa1, .ref wa2, .ref wa3, .ref wa4, .int (nI c), .int sc])), (wa1, .inl (cI, 300, .inl fw1)), (wa2, .inl (cI, 300, .inl fw2)), (tl, .inr (5, [.ref ta, .int (nI kt)])), (ta, .inl (cB, 600, .inl ft))] H_9 := hP.sub [3, 4, 0, 1, 2] rfl
    have hD : va_D A [(h0, .inr (7, [.ref tl, .ref wa1, .ref wa2, .ref wa3, .ref wa4, .int (nI c), .int sc])), (wa1, .inl (cI, 300, .inl fw1)), (wa2, .inl (cI, 300, .inl fw2)), (tl, .inr (5, [.ref ta, .int (nI kt)])), (ta, .inl (cB, 600, .inl ft))] := hD.sub [3, 4, 0, 1, 2] (by decide) rfl
    try dsimp only at hw
    refine lv_aload_n hx hb dX7_beginsWith_22 rfl (lv_at hl 0 rfl) ?_
    refine va_get (D := D) (ci := 7) (v := .ref tl) (C := RX7) (T := TX7) (N := 7) hx hb hts hinX7 hown hK hP 0 rfl rfl 0 (by decide) (hts (.fieldLink RX7 14 "TaleReader$Words" "tale" "LTaleReader$Text;") (uc3 _ (List.mem_of_getElem? (i := 12) rfl))) (fun _ h9 => h9) rfl dX7_beginsWith_23 ?_
    refine lv_aload_n hx hb dX7_beginsWith_26 rfl (lv_at hl 0 rfl) ?_
    refine lv_iload_n hx hb dX7_beginsWith_27 rfl (lv_at hl 2 rfl) ?_
    have hPc := hP.sub (ws' := [(h0, .inr (7, [.ref tl, .ref wa1, .ref wa2, .ref wa3, .ref wa4, .int (nI c), .int sc])), (wa1, .inl (cI, 300, .inl fw1))]) [0, 1] rfl
    have hDc := hD.sub (ws' := [(h0, .inr (7, [.ref tl, .ref wa1, .ref wa2, .ref wa3, .ref wa4, .int (nI c), .int sc])), (wa1, .inl (cI, 300, .inl fw1))]) [0, 1] (by decide) rfl
    have hFc := va_free (wc := [(h0, .inr (7, [.ref tl, .ref wa1, .ref wa2, .ref wa3, .ref wa4, .int (nI c), .int sc])), (wa1, .inl (cI, 300, .inl fw1))]) hD hS hA [0, 1] rfl
    refine va_calli (va_runV (As := [.int y]) (rest := [.ref tl, .int r_8, .ref tl]) ⟨hx, hb, hml, hown, hts⟩ (s_X7_placeOf l D cB cI cZ E H_9.size h0 y tl wa1 wa2 wa3 wa4 c sc fw1 (by first | assumption | omega)) (cwV 1 hts (uV (uc11 _ (List.mem_of_getElem? (i := 4) rfl)) (uc11 _ (List.mem_of_getElem? (i := 5) rfl)) (uc11 _ (List.mem_of_getElem? (i := 6) rfl)) (uc1 _ (List.mem_of_getElem? (i := 18) rfl)) (uc11 _ (List.mem_of_getElem? (i := 7) rfl))) rfl rfl rfl (by decide +kernel) ⟨Nat.le_of_ble_eq_true rfl, Nat.le_of_ble_eq_true rfl⟩) (pVE hE hS hFc hK hPc hDc 0 rfl rfl) rfl rfl hl.1 rfl (lv_room (Nat.le_of_ble_eq_true rfl)) dX7_beginsWith_28 ⟨Nat.le_of_ble_eq_true rfl, Nat.le_of_ble_eq_true rfl⟩) hS (fun q _ h => hFc q h) hFc (fun r_11 u t H_12 L_13 ht hvm hw hB hz1 hk1 hS => ?_)
    obtain ⟨hP1, -, hD1⟩ := hB
    rw [ht] at hP1
    obtain ⟨hP, hD⟩ := va_join (wr := [(wa2, .inl (cI, 300, .inl fw2)), (tl, .inr (5, [.ref ta, .int (nI kt)])), (ta, .inl (cB, 600, .inl ft))]) (w1 := [(h0, .inr (7, [.ref tl, .ref wa1, .ref wa2, .ref wa3, .ref wa4, .int (nI c), .int sc])), (wa1, .inl (cI, 300, .inl fw1))]) hP hD [0, 1] [2, 3, 4] rfl rfl (by decide) (by decide) hk1 hFc hP1 hD1
    have hP : va_P D vwCl [(h0, .inr (7, [.ref tl, .ref wa1, .ref wa2, .ref wa3, .ref wa4, .int (nI c), .int sc])), (wa1, .inl (cI, 300, .inl fw1)), (wa2, .inl (cI, 300, .inl fw2)), (tl, .inr (5, [.ref ta, .int (nI kt)])), (ta, .inl (cB, 600, .inl ft))] H_12 := hP.sub [3, 4, 0, 1, 2] rfl
    have hD : va_D A [(h0, .inr (7, [.ref tl, .ref wa1, .ref wa2, .ref wa3, .ref wa4, .int (nI c), .int sc])), (wa1, .inl (cI, 300, .inl fw1)), (wa2, .inl (cI, 300, .inl fw2)), (tl, .inr (5, [.ref ta, .int (nI kt)])), (ta, .inl (cB, 600, .inl ft))] := hD.sub [3, 4, 0, 1, 2] (by decide) rfl
    try dsimp only at hw
    refine lv_aload_n hx hb dX7_beginsWith_31 rfl (lv_at hl 0 rfl) ?_
    refine lv_iload_n hx hb dX7_beginsWith_32 rfl (lv_at hl 2 rfl) ?_
    have hPc := hP.sub (ws' := [(h0, .inr (7, [.ref tl, .ref wa1, .ref wa2, .ref wa3, .ref wa4, .int (nI c), .int sc])), (wa2, .inl (cI, 300, .inl fw2))]) [0, 2] rfl
    have hDc := hD.sub (ws' := [(h0, .inr (7, [.ref tl, .ref wa1, .ref wa2, .ref wa3, .ref wa4, .int (nI c), .int sc])), (wa2, .inl (cI, 300, .inl fw2))]) [0, 2] (by decide) rfl
    have hFc := va_free (wc := [(h0, .inr (7, [.ref tl, .ref wa1, .ref wa2, .ref wa3, .ref wa4, .int (nI c), .int sc])), (wa2, .inl (cI, 300, .inl fw2))]) hD hS hA [0, 2] rfl
    refine va_calli (va_runV (As := [.int y]) (rest := [.int r_11, .ref tl, .int r_8, .ref tl]) ⟨hx, hb, hml, hown, hts⟩ (s_X7_lengthOf l D cB cI cZ E H_12.size h0 y tl wa1 wa2 wa3 wa4 c sc fw2 (by first | assumption | omega)) (cwV 1 hts (uV (uc11 _ (List.mem_of_getElem? (i := 12) rfl)) (uc11 _ (List.mem_of_getElem? (i := 13) rfl)) (uc11 _ (List.mem_of_getElem? (i := 14) rfl)) (uc1 _ (List.mem_of_getElem? (i := 18) rfl)) (uc11 _ (List.mem_of_getElem? (i := 15) rfl))) rfl rfl rfl (by decide +kernel) ⟨Nat.le_of_ble_eq_true rfl, Nat.le_of_ble_eq_true rfl⟩) (pVE hE hS hFc hK hPc hDc 0 rfl rfl) rfl rfl hl.1 rfl (lv_room (Nat.le_of_ble_eq_true rfl)) dX7_beginsWith_33 ⟨Nat.le_of_ble_eq_true rfl, Nat.le_of_ble_eq_true rfl⟩) hS (fun q _ h => hFc q h) hFc (fun r_14 u t H_15 L_16 ht hvm hw hB hz1 hk1 hS => ?_)
    obtain ⟨hP1, -, hD1⟩ := hB
    rw [ht] at hP1
    obtain ⟨hP, hD⟩ := va_join (wr := [(wa1, .inl (cI, 300, .inl fw1)), (tl, .inr (5, [.ref ta, .int (nI kt)])), (ta, .inl (cB, 600, .inl ft))]) (w1 := [(h0, .inr (7, [.ref tl, .ref wa1, .ref wa2, .ref wa3, .ref wa4, .int (nI c), .int sc])), (wa2, .inl (cI, 300, .inl fw2))]) hP hD [0, 2] [1, 3, 4] rfl rfl (by decide) (by decide) hk1 hFc hP1 hD1
    have hP : va_P D vwCl [(h0, .inr (7, [.ref tl, .ref wa1, .ref wa2, .ref wa3, .ref wa4, .int (nI c), .int sc])), (wa1, .inl (cI, 300, .inl fw1)), (wa2, .inl (cI, 300, .inl fw2)), (tl, .inr (5, [.ref ta, .int (nI kt)])), (ta, .inl (cB, 600, .inl ft))] H_15 := hP.sub [3, 0, 4, 1, 2] rfl
    have hD : va_D A [(h0, .inr (7, [.ref tl, .ref wa1, .ref wa2, .ref wa3, .ref wa4, .int (nI c), .int sc])), (wa1, .inl (cI, 300, .inl fw1)), (wa2, .inl (cI, 300, .inl fw2)), (tl, .inr (5, [.ref ta, .int (nI kt)])), (ta, .inl (cB, 600, .inl ft))] := hD.sub [3, 0, 4, 1, 2] (by decide) rfl
    try dsimp only at hw
    have hPc := hP.sub (ws' := [(tl, .inr (5, [.ref ta, .int (nI kt)])), (ta, .inl (cB, 600, .inl ft))]) [3, 4] rfl
    have hDc := hD.sub (ws' := [(tl, .inr (5, [.ref ta, .int (nI kt)])), (ta, .inl (cB, 600, .inl ft))]) [3, 4] (by decide) rfl
    have hFc := va_free (wc := [(tl, .inr (5, [.ref ta, .int (nI kt)])), (ta, .inl (cB, 600, .inl ft))]) hD hS hA [3, 4] rfl
    refine va_calli (va_runV (As := [.int r_8, .ref tl, .int r_11, .int r_14]) (rest := []) ⟨hx, hb, hml, hown, hts⟩ (s_X5_sameAs1 l D cB cI cZ E H_15.size tl ta 600 kt ft r_8 r_11 r_14 (by first | assumption | omega) (by first | assumption | omega)) (cwV 4 hts (uV (uc15 _ (List.mem_of_getElem? (i := 5) rfl)) (uc15 _ (List.mem_of_getElem? (i := 6) rfl)) (uc15 _ (List.mem_of_getElem? (i := 7) rfl)) (uc1 _ (List.mem_of_getElem? (i := 14) rfl)) (uc15 _ (List.mem_of_getElem? (i := 8) rfl))) rfl rfl rfl (by decide +kernel) ⟨Nat.le_of_ble_eq_true rfl, Nat.le_of_ble_eq_true rfl⟩) (pVE hE hS hFc hK hPc hDc 0 rfl rfl) rfl rfl hl.1 rfl (lv_room (Nat.le_of_ble_eq_true rfl)) dX7_beginsWith_36 ⟨Nat.le_of_ble_eq_true rfl, Nat.le_of_ble_eq_true rfl⟩) hS (fun q _ h => hFc q h) hFc (fun r_17 u t H_18 L_19 ht hvm hw hB hz1 hk1 hS => ?_)
    obtain ⟨hP1, -, hD1⟩ := hB
    rw [ht] at hP1
    obtain ⟨hP, hD⟩ := va_join (wr := [(h0, .inr (7, [.ref tl, .ref wa1, .ref wa2, .ref wa3, .ref wa4, .int (nI c), .int sc])), (wa1, .inl (cI, 300, .inl fw1)), (wa2, .inl (cI, 300, .inl fw2))]) (w1 := [(tl, .inr (5, [.ref ta, .int (nI kt)])), (ta, .inl (cB, 600, .inl ft))]) hP hD [3, 4] [0, 1, 2] rfl rfl (by decide) (by decide) hk1 hFc hP1 hD1
    have hP : va_P D vwCl [(h0, .inr (7, [.ref tl, .ref wa1, .ref wa2, .ref wa3, .ref wa4, .int (nI c), .int sc])), (wa1, .inl (cI, 300, .inl fw1)), (wa2, .inl (cI, 300, .inl fw2)), (tl, .inr (5, [.ref ta, .int (nI kt)])), (ta, .inl (cB, 600, .inl ft))] H_18 := hP.sub [0, 1, 2, 3, 4] rfl
    have hD : va_D A [(h0, .inr (7, [.ref tl, .ref wa1, .ref wa2, .ref wa3, .ref wa4, .int (nI c), .int sc])), (wa1, .inl (cI, 300, .inl fw1)), (wa2, .inl (cI, 300, .inl fw2)), (tl, .inr (5, [.ref ta, .int (nI kt)])), (ta, .inl (cB, 600, .inl ft))] := hD.sub [0, 1, 2, 3, 4] (by decide) rfl
    try dsimp only at hw
    refine lv_if_eq (tgt := 46) hx hb dX7_beginsWith_39 (by decide) (fun c_20 => ?_) (fun c_20 => ?_)
    · refine lv_iconst (v := 0) hx hb dX7_beginsWith_46 (by decide) ?_
      have hP9 := hP.sub (ws' := [(h0, .inr (7, [.ref tl, .ref wa1, .ref wa2, .ref wa3, .ref wa4, .int (nI c), .int sc])), (wa1, .inl (cI, 300, .inl fw1)), (wa2, .inl (cI, 300, .inl fw2)), (tl, .inr (5, [.ref ta, .int (nI kt)])), (ta, .inl (cB, 600, .inl ft))]) [0, 1, 2, 3, 4] rfl
      have hD9 := hD.sub (ws' := [(h0, .inr (7, [.ref tl, .ref wa1, .ref wa2, .ref wa3, .ref wa4, .int (nI c), .int sc])), (wa1, .inl (cI, 300, .inl fw1)), (wa2, .inl (cI, 300, .inl fw2)), (tl, .inr (5, [.ref ta, .int (nI kt)])), (ta, .inl (cB, 600, .inl ft))]) [0, 1, 2, 3, 4] (by decide) rfl
      exact W.zret (v := 0) hx hb hr (rfl) (fun t ht hW => ⟨⟨0, (), rfl, trivial, ⟨by rw [ht]; exact hP9, va_K.moved hW.alike hK, hD9⟩⟩, hS.F ht⟩) hS.2.2 dX7_beginsWith_47
    · refine lv_iconst (v := 1) hx hb dX7_beginsWith_42 (by decide) ?_
      refine lv_goto (tgt := 47) hx hb dX7_beginsWith_43 (by decide) ?_
      have hP9 := hP.sub (ws' := [(h0, .inr (7, [.ref tl, .ref wa1, .ref wa2, .ref wa3, .ref wa4, .int (nI c), .int sc])), (wa1, .inl (cI, 300, .inl fw1)), (wa2, .inl (cI, 300, .inl fw2)), (tl, .inr (5, [.ref ta, .int (nI kt)])), (ta, .inl (cB, 600, .inl ft))]) [0, 1, 2, 3, 4] rfl
      have hD9 := hD.sub (ws' := [(h0, .inr (7, [.ref tl, .ref wa1, .ref wa2, .ref wa3, .ref wa4, .int (nI c), .int sc])), (wa1, .inl (cI, 300, .inl fw1)), (wa2, .inl (cI, 300, .inl fw2)), (tl, .inr (5, [.ref ta, .int (nI kt)])), (ta, .inl (cB, 600, .inl ft))]) [0, 1, 2, 3, 4] (by decide) rfl
      exact W.zret (v := 1) hx hb hr (rfl) (fun t ht hW => ⟨⟨1, (), rfl, trivial, ⟨by rw [ht]; exact hP9, va_K.moved hW.alike hK, hD9⟩⟩, hS.F ht⟩) hS.2.2 dX7_beginsWith_47
set_option maxHeartbeats 4000000 in
set_option maxRecDepth 100000 in
theorem s_X7_isNameInsideSentence (l : Launch) (D : va_G) (cB cI cZ : ClassId) (E : pEt) (sz : Nat) (h0 : Nat) (x : Int32) (tl : Nat) (wa1 : Nat) (wa2 : Nat) (wa3 : Nat) (wa4 : Nat) (c : Nat) (sc : Int32) (fw1 : Nat → Int32) (fw2 : Nat → Int32) (fw3 : Nat → Int32) (fw4 : Nat → Int32) (ta : Nat) (kt : Nat) (ft : Nat → Int32) (hc : c ≤ 300) (hkt : kt ≤ 600) : Met l yX7_isNameInsideSentence (.code yX7_isNameInsideSentence cX7_isNameInsideSentence 3 (some .boolean) :: wsL_law) ({ frames := 3, cells := 0, slots := 0, locals := 64 } : Room) (va_Pc [.ref h0, .int x] (pInE E D (pT cB cI cZ) sz [(h0, .inr (7, [.ref tl, .ref wa1, .ref wa2, .ref wa3, .ref wa4, .int (nI c), .int sc])), (wa1, .inl (cI, 300, .inl fw1)), (wa2, .inl (cI, 300, .inl fw2)), (wa3, .inl (cI, 300, .inl fw3)), (wa4, .inl (cI, 300, .inl fw4)), (tl, .inr (5, [.ref ta, .int (nI kt)])), (ta, .inl (cB, 600, .inl ft))])) (va_Qi (fun (r : Int32) (u : Unit) => True) (fun (u : Unit) (t : State) => pAt D (pT cB cI cZ) (va_A [(h0, .inr (7, [.ref tl, .ref wa1, .ref wa2, .ref wa3, .ref wa4, .int (nI c), .int sc])), (wa1, .inl (cI, 300, .inl fw1)), (wa2, .inl (cI, 300, .inl fw2)), (wa3, .inl (cI, 300, .inl fw3)), (wa4, .inl (cI, 300, .inl fw4)), (tl, .inr (5, [.ref ta, .int (nI kt)])), (ta, .inl (cB, 600, .inl ft))] sz) [(h0, .inr (7, [.ref tl, .ref wa1, .ref wa2, .ref wa3, .ref wa4, .int (nI c), .int sc])), (wa1, .inl (cI, 300, .inl fw1)), (wa2, .inl (cI, 300, .inl fw2)), (wa3, .inl (cI, 300, .inl fw3)), (wa4, .inl (cI, 300, .inl fw4)), (tl, .inr (5, [.ref ta, .int (nI kt)])), (ta, .inl (cB, 600, .inl ft))] t) (va_A [(h0, .inr (7, [.ref tl, .ref wa1, .ref wa2, .ref wa3, .ref wa4, .int (nI c), .int sc])), (wa1, .inl (cI, 300, .inl fw1)), (wa2, .inl (cI, 300, .inl fw2)), (wa3, .inl (cI, 300, .inl fw3)), (wa4, .inl (cI, 300, .inl fw4)), (tl, .inr (5, [.ref ta, .int (nI kt)])), (ta, .inl (cB, 600, .inl ft))] sz)) 0 0 (va_A [(h0, .inr (7, [.ref tl, .ref wa1, .ref wa2, .ref wa3, .ref wa4, .int (nI c), .int sc])), (wa1, .inl (cI, 300, .inl fw1)), (wa2, .inl (cI, 300, .inl fw2)), (wa3, .inl (cI, 300, .inl fw3)), (wa4, .inl (cI, 300, .inl fw4)), (tl, .inr (5, [.ref ta, .int (nI kt)])), (ta, .inl (cB, 600, .inl ft))] sz) := by
  refine Met.ofW (cc := cX7_isNameInsideSentence) (maxL := 3) (ret := (some .boolean)) (by decide) rfl ?_
  intro p e s m args below meth cd s₁ B hml hv
  obtain ⟨rfl, hsz, hP, hK, hD0, hE⟩ := hv
  have hx := B.exec
  have hb := B.bytes
  have hr := B.returns
  have hts0 := atoms_spec (ws := .code yX7_isNameInsideSentence cX7_isNameInsideSentence 3 (some .boolean) :: wsL_law) B.pre
  have hts := fun (w : Cond) (h : w ∈ wsL_law) => hts0 w (List.mem_cons_of_mem _ h)
  have hown : s.vm.findClass RX7 = some m.cls := findClass_of_methodNamed B.named
  have hlocks := B.notSynchronized
  have hinX7 := inlX7
  subst hsz
  have hD := hD0.self (sz := s.heap.size)
  generalize hAe : va_A [(h0, .inr (7, [.ref tl, .ref wa1, .ref wa2, .ref wa3, .ref wa4, .int (nI c), .int sc])), (wa1, .inl (cI, 300, .inl fw1)), (wa2, .inl (cI, 300, .inl fw2)), (wa3, .inl (cI, 300, .inl fw3)), (wa4, .inl (cI, 300, .inl fw4)), (tl, .inr (5, [.ref ta, .int (nI kt)])), (ta, .inl (cB, 600, .inl ft))] s.heap.size = A at hD hE ⊢
  have hA : ∀ q : Nat, s.heap.size ≤ q → A q := fun q h => by rw [← hAe]; exact Or.inr h
  have hS : va_S A s.heap s.heap [] := va_S.rf
  have hP : va_P D vwCl [(h0, .inr (7, [.ref tl, .ref wa1, .ref wa2, .ref wa3, .ref wa4, .int (nI c), .int sc])), (wa1, .inl (cI, 300, .inl fw1)), (wa2, .inl (cI, 300, .inl fw2)), (wa3, .inl (cI, 300, .inl fw3)), (wa4, .inl (cI, 300, .inl fw4)), (tl, .inr (5, [.ref ta, .int (nI kt)])), (ta, .inl (cB, 600, .inl ft))] s.heap := hP
  have hl := lv_entry ([.ref h0, .int x]) (n := 3) (Nat.le_of_ble_eq_true rfl)
  rw [lg_entry_eq]
  generalize (lg_sl ([.ref h0, .int x]) ++ List.replicate (3 - (lg_sl ([.ref h0, .int x])).length) Slot.unset).toArray = ls at hl ⊢
  have hl : lv_has ls 3 [(0, .ref h0), (1, .int x)] := hl
  generalize hQ : MQ below _ _ _ _ _ _ = Q
  refine lv_iconst (v := 0) hx hb dX7_isNameInsideSentence_0 (by decide) ?_
  refine lv_istore_n (lv' := [(2, .int 0), (0, .ref h0), (1, .int x)]) hx hb dX7_isNameInsideSentence_1 rfl hl (by decide) rfl (fun ls hl => ?_)
  have loop_1 : ∀ (nn_3 : Nat) (i : Nat), (i ≤ 600) → (c - i < nn_3) → ∀ (H : Heap) (locs : List Loc) (ls : Array Slot), va_P D vwCl [(h0, .inr (7, [.ref tl, .ref wa1, .ref wa2, .ref wa3, .ref wa4, .int (nI c), .int sc])), (wa1, .inl (cI, 300, .inl fw1)), (wa2, .inl (cI, 300, .inl fw2)), (wa3, .inl (cI, 300, .inl fw3)), (wa4, .inl (cI, 300, .inl fw4)), (tl, .inr (5, [.ref ta, .int (nI kt)])), (ta, .inl (cB, 600, .inl ft))] H → va_D A [(h0, .inr (7, [.ref tl, .ref wa1, .ref wa2, .ref wa3, .ref wa4, .int (nI c), .int sc])), (wa1, .inl (cI, 300, .inl fw1)), (wa2, .inl (cI, 300, .inl fw2)), (wa3, .inl (cI, 300, .inl fw3)), (wa4, .inl (cI, 300, .inl fw4)), (tl, .inr (5, [.ref ta, .int (nI kt)])), (ta, .inl (cB, 600, .inl ft))] → va_S A s.heap H locs → lv_has ls 3 [(0, .ref h0), (1, .int x), (2, .int (nI i))] → W p l e ({ frames := 3, cells := 0, slots := 0, locals := 64 } : Room) s m ([.ref h0, .int x] : List Value).toArray below meth cd H locs 0 0 Q (F0 m 2 ls []) := by
    intro nn_3
    induction nn_3 with
    | zero => intros; exact absurd ‹_ < 0› (Nat.not_lt_zero _)
    | succ nn_3 ih_2 =>
      intro i hi600 hmu H locs ls hP hD hS hl
      refine lv_iload_n hx hb dX7_isNameInsideSentence_2 rfl (lv_at hl 2 rfl) ?_
      refine lv_aload_n hx hb dX7_isNameInsideSentence_3 rfl (lv_at hl 0 rfl) ?_
      refine va_get (D := D) (ci := 7) (v := .int (nI c)) (C := RX7) (T := TX7) (N := 7) hx hb hts hinX7 hown hK hP 0 rfl rfl 5 (by decide) (hts (.fieldLink RX7 33 "TaleReader$Words" "count" "I") (uc3 _ (List.mem_of_getElem? (i := 18) rfl))) (fun _ h9 => h9) rfl dX7_isNameInsideSentence_4 ?_
      refine lv_icmp_ge (tgt := 58) hx hb dX7_isNameInsideSentence_7 (by decide) (fun c_4 => ?_) (fun c_4 => ?_)
      · refine lv_iconst (v := 0) hx hb dX7_isNameInsideSentence_58 (by decide) ?_
        have hP9 := hP.sub (ws' := [(h0, .inr (7, [.ref tl, .ref wa1, .ref wa2, .ref wa3, .ref wa4, .int (nI c), .int sc])), (wa1, .inl (cI, 300, .inl fw1)), (wa2, .inl (cI, 300, .inl fw2)), (wa3, .inl (cI, 300, .inl fw3)), (wa4, .inl (cI, 300, .inl fw4)), (tl, .inr (5, [.ref ta, .int (nI kt)])), (ta, .inl (cB, 600, .inl ft))]) [0, 1, 2, 3, 4, 5, 6] rfl
        have hD9 := hD.sub (ws' := [(h0, .inr (7, [.ref tl, .ref wa1, .ref wa2, .ref wa3, .ref wa4, .int (nI c), .int sc])), (wa1, .inl (cI, 300, .inl fw1)), (wa2, .inl (cI, 300, .inl fw2)), (wa3, .inl (cI, 300, .inl fw3)), (wa4, .inl (cI, 300, .inl fw4)), (tl, .inr (5, [.ref ta, .int (nI kt)])), (ta, .inl (cB, 600, .inl ft))]) [0, 1, 2, 3, 4, 5, 6] (by decide) rfl
        rw [← hQ]
        exact W.zret (v := 0) hx hb hr (rfl) (fun t ht hW => ⟨⟨0, (), rfl, trivial, ⟨by rw [ht]; exact hP9, va_K.moved hW.alike hK, hD9⟩⟩, hS.F ht⟩) hS.2.2 dX7_isNameInsideSentence_59
      · have hlt_i : i < c := Nat.lt_of_not_le (fun q => c_4 (nI_le q (by omega)))
        refine lv_aload_n hx hb dX7_isNameInsideSentence_10 rfl (lv_at hl 0 rfl) ?_
        refine va_get (D := D) (ci := 7) (v := .ref wa4) (C := RX7) (T := TX7) (N := 7) hx hb hts hinX7 hown hK hP 0 rfl rfl 4 (by decide) (hts (.fieldLink RX7 30 "TaleReader$Words" "kinds" "[I") (uc3 _ (List.mem_of_getElem? (i := 17) rfl))) (fun _ h9 => h9) rfl dX7_isNameInsideSentence_11 ?_
        refine lv_iload_n hx hb dX7_isNameInsideSentence_14 rfl (lv_at hl 2 rfl) ?_
        refine va_iald (D := D) hx hb hK hP 4 1 rfl rfl (vp_in_nI (by omega) (by omega)) dX7_isNameInsideSentence_15 ?_
        refine lv_topi (fun v_5 ev_5 => ?_)
        refine lv_if_ne (tgt := 52) hx hb dX7_isNameInsideSentence_16 (by decide) (fun c_6 => ?_) (fun c_6 => ?_)
        · refine lv_iinc (v := nI (i + 1)) (lv' := [(2, .int (nI (i + 1))), (0, .ref h0), (1, .int x)]) hx hb dX7_isNameInsideSentence_52 hl (k := 2) rfl (nI_add i 1) (by decide) rfl (fun ls hl => ?_)
          refine lv_goto (tgt := 2) hx hb dX7_isNameInsideSentence_55 (by decide) ?_
          exact ih_2 (i + 1) (by first | assumption | exact Or.inl rfl | exact Or.inr rfl | omega) (by omega) H _ ls (hP.sub (ws' := [(h0, .inr (7, [.ref tl, .ref wa1, .ref wa2, .ref wa3, .ref wa4, .int (nI c), .int sc])), (wa1, .inl (cI, 300, .inl fw1)), (wa2, .inl (cI, 300, .inl fw2)), (wa3, .inl (cI, 300, .inl fw3)), (wa4, .inl (cI, 300, .inl fw4)), (tl, .inr (5, [.ref ta, .int (nI kt)])), (ta, .inl (cB, 600, .inl ft))]) [0, 1, 2, 3, 4, 5, 6] rfl) (hD.sub (ws' := [(h0, .inr (7, [.ref tl, .ref wa1, .ref wa2, .ref wa3, .ref wa4, .int (nI c), .int sc])), (wa1, .inl (cI, 300, .inl fw1)), (wa2, .inl (cI, 300, .inl fw2)), (wa3, .inl (cI, 300, .inl fw3)), (wa4, .inl (cI, 300, .inl fw4)), (tl, .inr (5, [.ref ta, .int (nI kt)])), (ta, .inl (cB, 600, .inl ft))]) [0, 1, 2, 3, 4, 5, 6] (by decide) rfl) hS (lv_sub hl [1, 2, 0] rfl)
        · refine lv_aload_n hx hb dX7_isNameInsideSentence_19 rfl (lv_at hl 0 rfl) ?_
          refine lv_iload_n hx hb dX7_isNameInsideSentence_20 rfl (lv_at hl 2 rfl) ?_
          have hPc := hP.sub (ws' := [(h0, .inr (7, [.ref tl, .ref wa1, .ref wa2, .ref wa3, .ref wa4, .int (nI c), .int sc])), (wa3, .inl (cI, 300, .inl fw3))]) [0, 3] rfl
          have hDc := hD.sub (ws' := [(h0, .inr (7, [.ref tl, .ref wa1, .ref wa2, .ref wa3, .ref wa4, .int (nI c), .int sc])), (wa3, .inl (cI, 300, .inl fw3))]) [0, 3] (by decide) rfl
          have hFc := va_free (wc := [(h0, .inr (7, [.ref tl, .ref wa1, .ref wa2, .ref wa3, .ref wa4, .int (nI c), .int sc])), (wa3, .inl (cI, 300, .inl fw3))]) hD hS hA [0, 3] rfl
          refine va_calli (va_runV (As := [.int (nI i)]) (rest := []) ⟨hx, hb, hml, hown, hts⟩ (s_X7_isFirst l D cB cI cZ E H.size h0 (nI i) tl wa1 wa2 wa3 wa4 c sc fw3 (by first | assumption | omega)) (cwV 1 hts (uV (uc14 _ (List.mem_of_getElem? (i := 5) rfl)) (uc14 _ (List.mem_of_getElem? (i := 6) rfl)) (uc14 _ (List.mem_of_getElem? (i := 7) rfl)) (uc1 _ (List.mem_of_getElem? (i := 18) rfl)) (uc14 _ (List.mem_of_getElem? (i := 8) rfl))) rfl rfl rfl (by decide +kernel) ⟨Nat.le_of_ble_eq_true rfl, Nat.le_of_ble_eq_true rfl⟩) (pVE hE hS hFc hK hPc hDc 0 rfl rfl) rfl rfl hl.1 rfl (lv_room (Nat.le_of_ble_eq_true rfl)) dX7_isNameInsideSentence_21 ⟨Nat.le_of_ble_eq_true rfl, Nat.le_of_ble_eq_true rfl⟩) hS (fun q _ h => hFc q h) hFc (fun r_7 u t H_8 L_9 ht hvm hw hB hz1 hk1 hS => ?_)
          obtain ⟨hP1, -, hD1⟩ := hB
          rw [ht] at hP1
          obtain ⟨hP, hD⟩ := va_join (wr := [(wa1, .inl (cI, 300, .inl fw1)), (wa2, .inl (cI, 300, .inl fw2)), (wa4, .inl (cI, 300, .inl fw4)), (tl, .inr (5, [.ref ta, .int (nI kt)])), (ta, .inl (cB, 600, .inl ft))]) (w1 := [(h0, .inr (7, [.ref tl, .ref wa1, .ref wa2, .ref wa3, .ref wa4, .int (nI c), .int sc])), (wa3, .inl (cI, 300, .inl fw3))]) hP hD [0, 3] [1, 2, 4, 5, 6] rfl rfl (by decide) (by decide) hk1 hFc hP1 hD1
          have hP : va_P D vwCl [(h0, .inr (7, [.ref tl, .ref wa1, .ref wa2, .ref wa3, .ref wa4, .int (nI c), .int sc])), (wa1, .inl (cI, 300, .inl fw1)), (wa2, .inl (cI, 300, .inl fw2)), (wa3, .inl (cI, 300, .inl fw3)), (wa4, .inl (cI, 300, .inl fw4)), (tl, .inr (5, [.ref ta, .int (nI kt)])), (ta, .inl (cB, 600, .inl ft))] H_8 := hP.sub [5, 0, 1, 6, 2, 3, 4] rfl
          have hD : va_D A [(h0, .inr (7, [.ref tl, .ref wa1, .ref wa2, .ref wa3, .ref wa4, .int (nI c), .int sc])), (wa1, .inl (cI, 300, .inl fw1)), (wa2, .inl (cI, 300, .inl fw2)), (wa3, .inl (cI, 300, .inl fw3)), (wa4, .inl (cI, 300, .inl fw4)), (tl, .inr (5, [.ref ta, .int (nI kt)])), (ta, .inl (cB, 600, .inl ft))] := hD.sub [5, 0, 1, 6, 2, 3, 4] (by decide) rfl
          try dsimp only at hw
          refine lv_if_ne (tgt := 52) hx hb dX7_isNameInsideSentence_24 (by decide) (fun c_10 => ?_) (fun c_10 => ?_)
          · refine lv_iinc (v := nI (i + 1)) (lv' := [(2, .int (nI (i + 1))), (0, .ref h0), (1, .int x)]) hx hb dX7_isNameInsideSentence_52 hl (k := 2) rfl (nI_add i 1) (by decide) rfl (fun ls hl => ?_)
            refine lv_goto (tgt := 2) hx hb dX7_isNameInsideSentence_55 (by decide) ?_
            exact ih_2 (i + 1) (by first | assumption | exact Or.inl rfl | exact Or.inr rfl | omega) (by omega) H_8 _ ls (hP.sub (ws' := [(h0, .inr (7, [.ref tl, .ref wa1, .ref wa2, .ref wa3, .ref wa4, .int (nI c), .int sc])), (wa1, .inl (cI, 300, .inl fw1)), (wa2, .inl (cI, 300, .inl fw2)), (wa3, .inl (cI, 300, .inl fw3)), (wa4, .inl (cI, 300, .inl fw4)), (tl, .inr (5, [.ref ta, .int (nI kt)])), (ta, .inl (cB, 600, .inl ft))]) [0, 1, 2, 3, 4, 5, 6] rfl) (hD.sub (ws' := [(h0, .inr (7, [.ref tl, .ref wa1, .ref wa2, .ref wa3, .ref wa4, .int (nI c), .int sc])), (wa1, .inl (cI, 300, .inl fw1)), (wa2, .inl (cI, 300, .inl fw2)), (wa3, .inl (cI, 300, .inl fw3)), (wa4, .inl (cI, 300, .inl fw4)), (tl, .inr (5, [.ref ta, .int (nI kt)])), (ta, .inl (cB, 600, .inl ft))]) [0, 1, 2, 3, 4, 5, 6] (by decide) rfl) hS (lv_sub hl [1, 2, 0] rfl)
          · refine lv_aload_n hx hb dX7_isNameInsideSentence_27 rfl (lv_at hl 0 rfl) ?_
            refine va_get (D := D) (ci := 7) (v := .ref wa2) (C := RX7) (T := TX7) (N := 7) hx hb hts hinX7 hown hK hP 0 rfl rfl 2 (by decide) (hts (.fieldLink RX7 24 "TaleReader$Words" "lengths" "[I") (uc3 _ (List.mem_of_getElem? (i := 15) rfl))) (fun _ h9 => h9) rfl dX7_isNameInsideSentence_28 ?_
            refine lv_iload_n hx hb dX7_isNameInsideSentence_31 rfl (lv_at hl 2 rfl) ?_
            refine va_iald (D := D) hx hb hK hP 2 1 rfl rfl (vp_in_nI (by omega) (by omega)) dX7_isNameInsideSentence_32 ?_
            refine lv_topi (fun v_11 ev_11 => ?_)
            refine lv_aload_n hx hb dX7_isNameInsideSentence_33 rfl (lv_at hl 0 rfl) ?_
            refine lv_iload_n hx hb dX7_isNameInsideSentence_34 rfl (lv_at hl 1 rfl) ?_
            have hPc := hP.sub (ws' := [(h0, .inr (7, [.ref tl, .ref wa1, .ref wa2, .ref wa3, .ref wa4, .int (nI c), .int sc])), (wa2, .inl (cI, 300, .inl fw2))]) [0, 2] rfl
            have hDc := hD.sub (ws' := [(h0, .inr (7, [.ref tl, .ref wa1, .ref wa2, .ref wa3, .ref wa4, .int (nI c), .int sc])), (wa2, .inl (cI, 300, .inl fw2))]) [0, 2] (by decide) rfl
            have hFc := va_free (wc := [(h0, .inr (7, [.ref tl, .ref wa1, .ref wa2, .ref wa3, .ref wa4, .int (nI c), .int sc])), (wa2, .inl (cI, 300, .inl fw2))]) hD hS hA [0, 2] rfl
            refine va_calli (va_runV (As := [.int x]) (rest := [.int v_11]) ⟨hx, hb, hml, hown, hts⟩ (s_X7_lengthOf l D cB cI cZ E H_8.size h0 x tl wa1 wa2 wa3 wa4 c sc fw2 (by first | assumption | omega)) (cwV 1 hts (uV (uc11 _ (List.mem_of_getElem? (i := 12) rfl)) (uc11 _ (List.mem_of_getElem? (i := 13) rfl)) (uc11 _ (List.mem_of_getElem? (i := 14) rfl)) (uc1 _ (List.mem_of_getElem? (i := 18) rfl)) (uc11 _ (List.mem_of_getElem? (i := 15) rfl))) rfl rfl rfl (by decide +kernel) ⟨Nat.le_of_ble_eq_true rfl, Nat.le_of_ble_eq_true rfl⟩) (pVE hE hS hFc hK hPc hDc 0 rfl rfl) rfl rfl hl.1 rfl (lv_room (Nat.le_of_ble_eq_true rfl)) dX7_isNameInsideSentence_35 ⟨Nat.le_of_ble_eq_true rfl, Nat.le_of_ble_eq_true rfl⟩) hS (fun q _ h => hFc q h) hFc (fun r_12 u t H_13 L_14 ht hvm hw hB hz1 hk1 hS => ?_)
            obtain ⟨hP1, -, hD1⟩ := hB
            rw [ht] at hP1
            obtain ⟨hP, hD⟩ := va_join (wr := [(wa1, .inl (cI, 300, .inl fw1)), (wa3, .inl (cI, 300, .inl fw3)), (wa4, .inl (cI, 300, .inl fw4)), (tl, .inr (5, [.ref ta, .int (nI kt)])), (ta, .inl (cB, 600, .inl ft))]) (w1 := [(h0, .inr (7, [.ref tl, .ref wa1, .ref wa2, .ref wa3, .ref wa4, .int (nI c), .int sc])), (wa2, .inl (cI, 300, .inl fw2))]) hP hD [0, 2] [1, 3, 4, 5, 6] rfl rfl (by decide) (by decide) hk1 hFc hP1 hD1
            have hP : va_P D vwCl [(h0, .inr (7, [.ref tl, .ref wa1, .ref wa2, .ref wa3, .ref wa4, .int (nI c), .int sc])), (wa1, .inl (cI, 300, .inl fw1)), (wa2, .inl (cI, 300, .inl fw2)), (wa3, .inl (cI, 300, .inl fw3)), (wa4, .inl (cI, 300, .inl fw4)), (tl, .inr (5, [.ref ta, .int (nI kt)])), (ta, .inl (cB, 600, .inl ft))] H_13 := hP.sub [5, 0, 6, 1, 2, 3, 4] rfl
            have hD : va_D A [(h0, .inr (7, [.ref tl, .ref wa1, .ref wa2, .ref wa3, .ref wa4, .int (nI c), .int sc])), (wa1, .inl (cI, 300, .inl fw1)), (wa2, .inl (cI, 300, .inl fw2)), (wa3, .inl (cI, 300, .inl fw3)), (wa4, .inl (cI, 300, .inl fw4)), (tl, .inr (5, [.ref ta, .int (nI kt)])), (ta, .inl (cB, 600, .inl ft))] := hD.sub [5, 0, 6, 1, 2, 3, 4] (by decide) rfl
            try dsimp only at hw
            refine lv_icmp_ne (tgt := 52) hx hb dX7_isNameInsideSentence_38 (by decide) (fun c_15 => ?_) (fun c_15 => ?_)
            · refine lv_iinc (v := nI (i + 1)) (lv' := [(2, .int (nI (i + 1))), (0, .ref h0), (1, .int x)]) hx hb dX7_isNameInsideSentence_52 hl (k := 2) rfl (nI_add i 1) (by decide) rfl (fun ls hl => ?_)
              refine lv_goto (tgt := 2) hx hb dX7_isNameInsideSentence_55 (by decide) ?_
              exact ih_2 (i + 1) (by first | assumption | exact Or.inl rfl | exact Or.inr rfl | omega) (by omega) H_13 _ ls (hP.sub (ws' := [(h0, .inr (7, [.ref tl, .ref wa1, .ref wa2, .ref wa3, .ref wa4, .int (nI c), .int sc])), (wa1, .inl (cI, 300, .inl fw1)), (wa2, .inl (cI, 300, .inl fw2)), (wa3, .inl (cI, 300, .inl fw3)), (wa4, .inl (cI, 300, .inl fw4)), (tl, .inr (5, [.ref ta, .int (nI kt)])), (ta, .inl (cB, 600, .inl ft))]) [0, 1, 2, 3, 4, 5, 6] rfl) (hD.sub (ws' := [(h0, .inr (7, [.ref tl, .ref wa1, .ref wa2, .ref wa3, .ref wa4, .int (nI c), .int sc])), (wa1, .inl (cI, 300, .inl fw1)), (wa2, .inl (cI, 300, .inl fw2)), (wa3, .inl (cI, 300, .inl fw3)), (wa4, .inl (cI, 300, .inl fw4)), (tl, .inr (5, [.ref ta, .int (nI kt)])), (ta, .inl (cB, 600, .inl ft))]) [0, 1, 2, 3, 4, 5, 6] (by decide) rfl) hS (lv_sub hl [1, 2, 0] rfl)
            · refine lv_aload_n hx hb dX7_isNameInsideSentence_41 rfl (lv_at hl 0 rfl) ?_
              refine lv_iload_n hx hb dX7_isNameInsideSentence_42 rfl (lv_at hl 2 rfl) ?_
              refine lv_iload_n hx hb dX7_isNameInsideSentence_43 rfl (lv_at hl 1 rfl) ?_
              have hPc := hP.sub (ws' := [(h0, .inr (7, [.ref tl, .ref wa1, .ref wa2, .ref wa3, .ref wa4, .int (nI c), .int sc])), (wa1, .inl (cI, 300, .inl fw1)), (wa2, .inl (cI, 300, .inl fw2)), (tl, .inr (5, [.ref ta, .int (nI kt)])), (ta, .inl (cB, 600, .inl ft))]) [0, 1, 2, 5, 6] rfl
              have hDc := hD.sub (ws' := [(h0, .inr (7, [.ref tl, .ref wa1, .ref wa2, .ref wa3, .ref wa4, .int (nI c), .int sc])), (wa1, .inl (cI, 300, .inl fw1)), (wa2, .inl (cI, 300, .inl fw2)), (tl, .inr (5, [.ref ta, .int (nI kt)])), (ta, .inl (cB, 600, .inl ft))]) [0, 1, 2, 5, 6] (by decide) rfl
              have hFc := va_free (wc := [(h0, .inr (7, [.ref tl, .ref wa1, .ref wa2, .ref wa3, .ref wa4, .int (nI c), .int sc])), (wa1, .inl (cI, 300, .inl fw1)), (wa2, .inl (cI, 300, .inl fw2)), (tl, .inr (5, [.ref ta, .int (nI kt)])), (ta, .inl (cB, 600, .inl ft))]) hD hS hA [0, 1, 2, 5, 6] rfl
              refine va_calli (va_runV (As := [.int (nI i), .int x]) (rest := []) ⟨hx, hb, hml, hown, hts⟩ (s_X7_beginsWith l D cB cI cZ E H_13.size h0 (nI i) x tl wa1 wa2 wa3 wa4 c sc fw1 fw2 ta kt ft (by first | assumption | omega) (by first | assumption | omega)) (cwV 2 hts (uV (uc15 _ (List.mem_of_getElem? (i := 1) rfl)) (uc15 _ (List.mem_of_getElem? (i := 2) rfl)) (uc15 _ (List.mem_of_getElem? (i := 3) rfl)) (uc1 _ (List.mem_of_getElem? (i := 18) rfl)) (uc15 _ (List.mem_of_getElem? (i := 4) rfl))) rfl rfl rfl (by decide +kernel) ⟨Nat.le_of_ble_eq_true rfl, Nat.le_of_ble_eq_true rfl⟩) (pVE hE hS hFc hK hPc hDc 0 rfl rfl) rfl rfl hl.1 rfl (lv_room (Nat.le_of_ble_eq_true rfl)) dX7_isNameInsideSentence_44 ⟨Nat.le_of_ble_eq_true rfl, Nat.le_of_ble_eq_true rfl⟩) hS (fun q _ h => hFc q h) hFc (fun r_16 u t H_17 L_18 ht hvm hw hB hz1 hk1 hS => ?_)
              obtain ⟨hP1, -, hD1⟩ := hB
              rw [ht] at hP1
              obtain ⟨hP, hD⟩ := va_join (wr := [(wa3, .inl (cI, 300, .inl fw3)), (wa4, .inl (cI, 300, .inl fw4))]) (w1 := [(h0, .inr (7, [.ref tl, .ref wa1, .ref wa2, .ref wa3, .ref wa4, .int (nI c), .int sc])), (wa1, .inl (cI, 300, .inl fw1)), (wa2, .inl (cI, 300, .inl fw2)), (tl, .inr (5, [.ref ta, .int (nI kt)])), (ta, .inl (cB, 600, .inl ft))]) hP hD [0, 1, 2, 5, 6] [3, 4] rfl rfl (by decide) (by decide) hk1 hFc hP1 hD1
              have hP : va_P D vwCl [(h0, .inr (7, [.ref tl, .ref wa1, .ref wa2, .ref wa3, .ref wa4, .int (nI c), .int sc])), (wa1, .inl (cI, 300, .inl fw1)), (wa2, .inl (cI, 300, .inl fw2)), (wa3, .inl (cI, 300, .inl fw3)), (wa4, .inl (cI, 300, .inl fw4)), (tl, .inr (5, [.ref ta, .int (nI kt)])), (ta, .inl (cB, 600, .inl ft))] H_17 := hP.sub [2, 3, 4, 0, 1, 5, 6] rfl
              have hD : va_D A [(h0, .inr (7, [.ref tl, .ref wa1, .ref wa2, .ref wa3, .ref wa4, .int (nI c), .int sc])), (wa1, .inl (cI, 300, .inl fw1)), (wa2, .inl (cI, 300, .inl fw2)), (wa3, .inl (cI, 300, .inl fw3)), (wa4, .inl (cI, 300, .inl fw4)), (tl, .inr (5, [.ref ta, .int (nI kt)])), (ta, .inl (cB, 600, .inl ft))] := hD.sub [2, 3, 4, 0, 1, 5, 6] (by decide) rfl
              try dsimp only at hw
              refine lv_if_eq (tgt := 52) hx hb dX7_isNameInsideSentence_47 (by decide) (fun c_19 => ?_) (fun c_19 => ?_)
              · refine lv_iinc (v := nI (i + 1)) (lv' := [(2, .int (nI (i + 1))), (0, .ref h0), (1, .int x)]) hx hb dX7_isNameInsideSentence_52 hl (k := 2) rfl (nI_add i 1) (by decide) rfl (fun ls hl => ?_)
                refine lv_goto (tgt := 2) hx hb dX7_isNameInsideSentence_55 (by decide) ?_
                exact ih_2 (i + 1) (by first | assumption | exact Or.inl rfl | exact Or.inr rfl | omega) (by omega) H_17 _ ls (hP.sub (ws' := [(h0, .inr (7, [.ref tl, .ref wa1, .ref wa2, .ref wa3, .ref wa4, .int (nI c), .int sc])), (wa1, .inl (cI, 300, .inl fw1)), (wa2, .inl (cI, 300, .inl fw2)), (wa3, .inl (cI, 300, .inl fw3)), (wa4, .inl (cI, 300, .inl fw4)), (tl, .inr (5, [.ref ta, .int (nI kt)])), (ta, .inl (cB, 600, .inl ft))]) [0, 1, 2, 3, 4, 5, 6] rfl) (hD.sub (ws' := [(h0, .inr (7, [.ref tl, .ref wa1, .ref wa2, .ref wa3, .ref wa4, .int (nI c), .int sc])), (wa1, .inl (cI, 300, .inl fw1)), (wa2, .inl (cI, 300, .inl fw2)), (wa3, .inl (cI, 300, .inl fw3)), (wa4, .inl (cI, 300, .inl fw4)), (tl, .inr (5, [.ref ta, .int (nI kt)])), (ta, .inl (cB, 600, .inl ft))]) [0, 1, 2, 3, 4, 5, 6] (by decide) rfl) hS (lv_sub hl [1, 2, 0] rfl)
              · refine lv_iconst (v := 1) hx hb dX7_isNameInsideSentence_50 (by decide) ?_
                have hP9 := hP.sub (ws' := [(h0, .inr (7, [.ref tl, .ref wa1, .ref wa2, .ref wa3, .ref wa4, .int (nI c), .int sc])), (wa1, .inl (cI, 300, .inl fw1)), (wa2, .inl (cI, 300, .inl fw2)), (wa3, .inl (cI, 300, .inl fw3)), (wa4, .inl (cI, 300, .inl fw4)), (tl, .inr (5, [.ref ta, .int (nI kt)])), (ta, .inl (cB, 600, .inl ft))]) [0, 1, 2, 3, 4, 5, 6] rfl
                have hD9 := hD.sub (ws' := [(h0, .inr (7, [.ref tl, .ref wa1, .ref wa2, .ref wa3, .ref wa4, .int (nI c), .int sc])), (wa1, .inl (cI, 300, .inl fw1)), (wa2, .inl (cI, 300, .inl fw2)), (wa3, .inl (cI, 300, .inl fw3)), (wa4, .inl (cI, 300, .inl fw4)), (tl, .inr (5, [.ref ta, .int (nI kt)])), (ta, .inl (cB, 600, .inl ft))]) [0, 1, 2, 3, 4, 5, 6] (by decide) rfl
                rw [← hQ]
                exact W.zret (v := 1) hx hb hr (rfl) (fun t ht hW => ⟨⟨1, (), rfl, trivial, ⟨by rw [ht]; exact hP9, va_K.moved hW.alike hK, hD9⟩⟩, hS.F ht⟩) hS.2.2 dX7_isNameInsideSentence_51
  exact loop_1 _ 0 (by first | assumption | exact Or.inl rfl | exact Or.inr rfl | omega) (Nat.lt_succ_self _) s.heap _ ls (hP.sub (ws' := [(h0, .inr (7, [.ref tl, .ref wa1, .ref wa2, .ref wa3, .ref wa4, .int (nI c), .int sc])), (wa1, .inl (cI, 300, .inl fw1)), (wa2, .inl (cI, 300, .inl fw2)), (wa3, .inl (cI, 300, .inl fw3)), (wa4, .inl (cI, 300, .inl fw4)), (tl, .inr (5, [.ref ta, .int (nI kt)])), (ta, .inl (cB, 600, .inl ft))]) [0, 1, 2, 3, 4, 5, 6] rfl) (hD.sub (ws' := [(h0, .inr (7, [.ref tl, .ref wa1, .ref wa2, .ref wa3, .ref wa4, .int (nI c), .int sc])), (wa1, .inl (cI, 300, .inl fw1)), (wa2, .inl (cI, 300, .inl fw2)), (wa3, .inl (cI, 300, .inl fw3)), (wa4, .inl (cI, 300, .inl fw4)), (tl, .inr (5, [.ref ta, .int (nI kt)])), (ta, .inl (cB, 600, .inl ft))]) [0, 1, 2, 3, 4, 5, 6] (by decide) rfl) hS (lv_sub hl [1, 2, 0] rfl)
set_option maxHeartbeats 4000000 in
set_option maxRecDepth 100000 in
theorem s_X7_kindBySpelling (l : Launch) (D : va_G) (cB cI cZ : ClassId) (E : pEt) (sz : Nat) (h0 : Nat) (x : Int32) (tl : Nat) (wa1 : Nat) (wa2 : Nat) (wa3 : Nat) (wa4 : Nat) (c : Nat) (sc : Int32) (fw1 : Nat → Int32) (fw2 : Nat → Int32) (fw3 : Nat → Int32) (ta : Nat) (kt : Nat) (ft : Nat → Int32) (hc : c ≤ 300) (hkt : kt ≤ 600) : Met l yX7_kindBySpelling (.code yX7_kindBySpelling cX7_kindBySpelling 6 (some .int) :: wsL_law) ({ frames := 7, cells := 0, slots := 0, locals := 158 } : Room) (va_Pc [.ref h0, .int x] (pInE E D (pT cB cI cZ) sz [(h0, .inr (7, [.ref tl, .ref wa1, .ref wa2, .ref wa3, .ref wa4, .int (nI c), .int sc])), (wa1, .inl (cI, 300, .inl fw1)), (wa2, .inl (cI, 300, .inl fw2)), (wa3, .inl (cI, 300, .inl fw3)), (tl, .inr (5, [.ref ta, .int (nI kt)])), (ta, .inl (cB, 600, .inl ft))])) (va_Qi (fun (r : Int32) (u : Unit) => True) (fun (u : Unit) (t : State) => pAt D (pT cB cI cZ) (va_A [(h0, .inr (7, [.ref tl, .ref wa1, .ref wa2, .ref wa3, .ref wa4, .int (nI c), .int sc])), (wa1, .inl (cI, 300, .inl fw1)), (wa2, .inl (cI, 300, .inl fw2)), (wa3, .inl (cI, 300, .inl fw3)), (tl, .inr (5, [.ref ta, .int (nI kt)])), (ta, .inl (cB, 600, .inl ft))] sz) [(h0, .inr (7, [.ref tl, .ref wa1, .ref wa2, .ref wa3, .ref wa4, .int (nI c), .int sc])), (wa1, .inl (cI, 300, .inl fw1)), (wa2, .inl (cI, 300, .inl fw2)), (wa3, .inl (cI, 300, .inl fw3)), (tl, .inr (5, [.ref ta, .int (nI kt)])), (ta, .inl (cB, 600, .inl ft))] t) (va_A [(h0, .inr (7, [.ref tl, .ref wa1, .ref wa2, .ref wa3, .ref wa4, .int (nI c), .int sc])), (wa1, .inl (cI, 300, .inl fw1)), (wa2, .inl (cI, 300, .inl fw2)), (wa3, .inl (cI, 300, .inl fw3)), (tl, .inr (5, [.ref ta, .int (nI kt)])), (ta, .inl (cB, 600, .inl ft))] sz)) 0 0 (va_A [(h0, .inr (7, [.ref tl, .ref wa1, .ref wa2, .ref wa3, .ref wa4, .int (nI c), .int sc])), (wa1, .inl (cI, 300, .inl fw1)), (wa2, .inl (cI, 300, .inl fw2)), (wa3, .inl (cI, 300, .inl fw3)), (tl, .inr (5, [.ref ta, .int (nI kt)])), (ta, .inl (cB, 600, .inl ft))] sz) := by
  refine Met.ofW (cc := cX7_kindBySpelling) (maxL := 6) (ret := (some .int)) (by decide) rfl ?_
  intro p e s m args below meth cd s₁ B hml hv
  obtain ⟨rfl, hsz, hP, hK, hD0, hE⟩ := hv
  have hx := B.exec
  have hb := B.bytes
  have hr := B.returns
  have hts0 := atoms_spec (ws := .code yX7_kindBySpelling cX7_kindBySpelling 6 (some .int) :: wsL_law) B.pre
  have hts := fun (w : Cond) (h : w ∈ wsL_law) => hts0 w (List.mem_cons_of_mem _ h)
  have hown : s.vm.findClass RX7 = some m.cls := findClass_of_methodNamed B.named
  have hlocks := B.notSynchronized
  have hinX7 := inlX7
  subst hsz
  have hD := hD0.self (sz := s.heap.size)
  generalize hAe : va_A [(h0, .inr (7, [.ref tl, .ref wa1, .ref wa2, .ref wa3, .ref wa4, .int (nI c), .int sc])), (wa1, .inl (cI, 300, .inl fw1)), (wa2, .inl (cI, 300, .inl fw2)), (wa3, .inl (cI, 300, .inl fw3)), (tl, .inr (5, [.ref ta, .int (nI kt)])), (ta, .inl (cB, 600, .inl ft))] s.heap.size = A at hD hE ⊢
  have hA : ∀ q : Nat, s.heap.size ≤ q → A q := fun q h => by rw [← hAe]; exact Or.inr h
  have hS : va_S A s.heap s.heap [] := va_S.rf
  have hP : va_P D vwCl [(h0, .inr (7, [.ref tl, .ref wa1, .ref wa2, .ref wa3, .ref wa4, .int (nI c), .int sc])), (wa1, .inl (cI, 300, .inl fw1)), (wa2, .inl (cI, 300, .inl fw2)), (wa3, .inl (cI, 300, .inl fw3)), (tl, .inr (5, [.ref ta, .int (nI kt)])), (ta, .inl (cB, 600, .inl ft))] s.heap := hP
  have hl := lv_entry ([.ref h0, .int x]) (n := 6) (Nat.le_of_ble_eq_true rfl)
  rw [lg_entry_eq]
  generalize (lg_sl ([.ref h0, .int x]) ++ List.replicate (6 - (lg_sl ([.ref h0, .int x])).length) Slot.unset).toArray = ls at hl ⊢
  have hl : lv_has ls 6 [(0, .ref h0), (1, .int x)] := hl
  refine lv_aload_n hx hb dX7_kindBySpelling_0 rfl (lv_at hl 0 rfl) ?_
  refine lv_iload_n hx hb dX7_kindBySpelling_1 rfl (lv_at hl 1 rfl) ?_
  have hPc := hP.sub (ws' := [(h0, .inr (7, [.ref tl, .ref wa1, .ref wa2, .ref wa3, .ref wa4, .int (nI c), .int sc])), (wa1, .inl (cI, 300, .inl fw1))]) [0, 1] rfl
  have hDc := hD.sub (ws' := [(h0, .inr (7, [.ref tl, .ref wa1, .ref wa2, .ref wa3, .ref wa4, .int (nI c), .int sc])), (wa1, .inl (cI, 300, .inl fw1))]) [0, 1] (by decide) rfl
  have hFc := va_free (wc := [(h0, .inr (7, [.ref tl, .ref wa1, .ref wa2, .ref wa3, .ref wa4, .int (nI c), .int sc])), (wa1, .inl (cI, 300, .inl fw1))]) hD hS hA [0, 1] rfl
  refine va_calli (va_runV (As := [.int x]) (rest := []) ⟨hx, hb, hml, hown, hts⟩ (s_X7_placeOf l D cB cI cZ E s.heap.size h0 x tl wa1 wa2 wa3 wa4 c sc fw1 (by first | assumption | omega)) (cwV 1 hts (uV (uc11 _ (List.mem_of_getElem? (i := 4) rfl)) (uc11 _ (List.mem_of_getElem? (i := 5) rfl)) (uc11 _ (List.mem_of_getElem? (i := 6) rfl)) (uc1 _ (List.mem_of_getElem? (i := 18) rfl)) (uc11 _ (List.mem_of_getElem? (i := 7) rfl))) rfl rfl rfl (by decide +kernel) ⟨Nat.le_of_ble_eq_true rfl, Nat.le_of_ble_eq_true rfl⟩) (pVE hE hS hFc hK hPc hDc 0 rfl rfl) rfl rfl hl.1 rfl (lv_room (Nat.le_of_ble_eq_true rfl)) dX7_kindBySpelling_2 ⟨Nat.le_of_ble_eq_true rfl, Nat.le_of_ble_eq_true rfl⟩) hS (fun q _ h => hFc q h) hFc (fun r_1 u t H_2 L_3 ht hvm hw hB hz1 hk1 hS => ?_)
  obtain ⟨hP1, -, hD1⟩ := hB
  rw [ht] at hP1
  obtain ⟨hP, hD⟩ := va_join (wr := [(wa2, .inl (cI, 300, .inl fw2)), (wa3, .inl (cI, 300, .inl fw3)), (tl, .inr (5, [.ref ta, .int (nI kt)])), (ta, .inl (cB, 600, .inl ft))]) (w1 := [(h0, .inr (7, [.ref tl, .ref wa1, .ref wa2, .ref wa3, .ref wa4, .int (nI c), .int sc])), (wa1, .inl (cI, 300, .inl fw1))]) hP hD [0, 1] [2, 3, 4, 5] rfl rfl (by decide) (by decide) hk1 hFc hP1 hD1
  have hP : va_P D vwCl [(h0, .inr (7, [.ref tl, .ref wa1, .ref wa2, .ref wa3, .ref wa4, .int (nI c), .int sc])), (wa1, .inl (cI, 300, .inl fw1)), (wa2, .inl (cI, 300, .inl fw2)), (wa3, .inl (cI, 300, .inl fw3)), (tl, .inr (5, [.ref ta, .int (nI kt)])), (ta, .inl (cB, 600, .inl ft))] H_2 := hP.sub [4, 5, 0, 1, 2, 3] rfl
  have hD : va_D A [(h0, .inr (7, [.ref tl, .ref wa1, .ref wa2, .ref wa3, .ref wa4, .int (nI c), .int sc])), (wa1, .inl (cI, 300, .inl fw1)), (wa2, .inl (cI, 300, .inl fw2)), (wa3, .inl (cI, 300, .inl fw3)), (tl, .inr (5, [.ref ta, .int (nI kt)])), (ta, .inl (cB, 600, .inl ft))] := hD.sub [4, 5, 0, 1, 2, 3] (by decide) rfl
  try dsimp only at hw
  refine lv_istore_n (lv' := [(2, .int r_1), (0, .ref h0), (1, .int x)]) hx hb dX7_kindBySpelling_5 rfl hl (by decide) rfl (fun ls hl => ?_)
  refine lv_aload_n hx hb dX7_kindBySpelling_6 rfl (lv_at hl 1 rfl) ?_
  refine lv_iload_n hx hb dX7_kindBySpelling_7 rfl (lv_at hl 2 rfl) ?_
  have hPc := hP.sub (ws' := [(h0, .inr (7, [.ref tl, .ref wa1, .ref wa2, .ref wa3, .ref wa4, .int (nI c), .int sc])), (wa2, .inl (cI, 300, .inl fw2))]) [0, 2] rfl
  have hDc := hD.sub (ws' := [(h0, .inr (7, [.ref tl, .ref wa1, .ref wa2, .ref wa3, .ref wa4, .int (nI c), .int sc])), (wa2, .inl (cI, 300, .inl fw2))]) [0, 2] (by decide) rfl
  have hFc := va_free (wc := [(h0, .inr (7, [.ref tl, .ref wa1, .ref wa2, .ref wa3, .ref wa4, .int (nI c), .int sc])), (wa2, .inl (cI, 300, .inl fw2))]) hD hS hA [0, 2] rfl
  refine va_calli (va_runV (As := [.int x]) (rest := []) ⟨hx, hb, hml, hown, hts⟩ (s_X7_lengthOf l D cB cI cZ E H_2.size h0 x tl wa1 wa2 wa3 wa4 c sc fw2 (by first | assumption | omega)) (cwV 1 hts (uV (uc11 _ (List.mem_of_getElem? (i := 12) rfl)) (uc11 _ (List.mem_of_getElem? (i := 13) rfl)) (uc11 _ (List.mem_of_getElem? (i := 14) rfl)) (uc1 _ (List.mem_of_getElem? (i := 18) rfl)) (uc11 _ (List.mem_of_getElem? (i := 15) rfl))) rfl rfl rfl (by decide +kernel) ⟨Nat.le_of_ble_eq_true rfl, Nat.le_of_ble_eq_true rfl⟩) (pVE hE hS hFc hK hPc hDc 0 rfl rfl) rfl rfl hl.1 rfl (lv_room (Nat.le_of_ble_eq_true rfl)) dX7_kindBySpelling_8 ⟨Nat.le_of_ble_eq_true rfl, Nat.le_of_ble_eq_true rfl⟩) hS (fun q _ h => hFc q h) hFc (fun r_4 u t H_5 L_6 ht hvm hw hB hz1 hk1 hS => ?_)
  obtain ⟨hP1, -, hD1⟩ := hB
  rw [ht] at hP1
  obtain ⟨hP, hD⟩ := va_join (wr := [(wa1, .inl (cI, 300, .inl fw1)), (wa3, .inl (cI, 300, .inl fw3)), (tl, .inr (5, [.ref ta, .int (nI kt)])), (ta, .inl (cB, 600, .inl ft))]) (w1 := [(h0, .inr (7, [.ref tl, .ref wa1, .ref wa2, .ref wa3, .ref wa4, .int (nI c), .int sc])), (wa2, .inl (cI, 300, .inl fw2))]) hP hD [0, 2] [1, 3, 4, 5] rfl rfl (by decide) (by decide) hk1 hFc hP1 hD1
  have hP : va_P D vwCl [(h0, .inr (7, [.ref tl, .ref wa1, .ref wa2, .ref wa3, .ref wa4, .int (nI c), .int sc])), (wa1, .inl (cI, 300, .inl fw1)), (wa2, .inl (cI, 300, .inl fw2)), (wa3, .inl (cI, 300, .inl fw3)), (tl, .inr (5, [.ref ta, .int (nI kt)])), (ta, .inl (cB, 600, .inl ft))] H_5 := hP.sub [4, 0, 5, 1, 2, 3] rfl
  have hD : va_D A [(h0, .inr (7, [.ref tl, .ref wa1, .ref wa2, .ref wa3, .ref wa4, .int (nI c), .int sc])), (wa1, .inl (cI, 300, .inl fw1)), (wa2, .inl (cI, 300, .inl fw2)), (wa3, .inl (cI, 300, .inl fw3)), (tl, .inr (5, [.ref ta, .int (nI kt)])), (ta, .inl (cB, 600, .inl ft))] := hD.sub [4, 0, 5, 1, 2, 3] (by decide) rfl
  try dsimp only at hw
  refine lv_istore_n (lv' := [(3, .int r_4), (2, .int r_1), (0, .ref h0), (1, .int x)]) hx hb dX7_kindBySpelling_11 rfl hl (by decide) rfl (fun ls hl => ?_)
  refine lv_aload_n hx hb dX7_kindBySpelling_12 rfl (lv_at hl 2 rfl) ?_
  refine va_get (D := D) (ci := 7) (v := .ref tl) (C := RX7) (T := TX7) (N := 7) hx hb hts hinX7 hown hK hP 0 rfl rfl 0 (by decide) (hts (.fieldLink RX7 14 "TaleReader$Words" "tale" "LTaleReader$Text;") (uc3 _ (List.mem_of_getElem? (i := 12) rfl))) (fun _ h9 => h9) rfl dX7_kindBySpelling_13 ?_
  refine lv_iload_n hx hb dX7_kindBySpelling_16 rfl (lv_at hl 1 rfl) ?_
  refine lv_iload_n hx hb dX7_kindBySpelling_17 rfl (lv_at hl 0 rfl) ?_
  have hPc := hP.sub (ws' := [(tl, .inr (5, [.ref ta, .int (nI kt)])), (ta, .inl (cB, 600, .inl ft))]) [4, 5] rfl
  have hDc := hD.sub (ws' := [(tl, .inr (5, [.ref ta, .int (nI kt)])), (ta, .inl (cB, 600, .inl ft))]) [4, 5] (by decide) rfl
  have hFc := va_free (wc := [(tl, .inr (5, [.ref ta, .int (nI kt)])), (ta, .inl (cB, 600, .inl ft))]) hD hS hA [4, 5] rfl
  refine va_calli (va_runV (As := [.int r_1, .int r_4]) (rest := []) ⟨hx, hb, hml, hown, hts⟩ (s_X5_heWordSex l D cB cI cZ E H_5.size tl ta 600 kt ft r_1 r_4 (by first | assumption | omega) (by first | assumption | omega)) (cwV 2 hts (uV (uc11 _ (List.mem_of_getElem? (i := 16) rfl)) (uc11 _ (List.mem_of_getElem? (i := 17) rfl)) (uc11 _ (List.mem_of_getElem? (i := 18) rfl)) (uc1 _ (List.mem_of_getElem? (i := 14) rfl)) (uc11 _ (List.mem_of_getElem? (i := 19) rfl))) rfl rfl rfl (by decide +kernel) ⟨Nat.le_of_ble_eq_true rfl, Nat.le_of_ble_eq_true rfl⟩) (pVE hE hS hFc hK hPc hDc 0 rfl rfl) rfl rfl hl.1 rfl (lv_room (Nat.le_of_ble_eq_true rfl)) dX7_kindBySpelling_18 ⟨Nat.le_of_ble_eq_true rfl, Nat.le_of_ble_eq_true rfl⟩) hS (fun q _ h => hFc q h) hFc (fun r_7 u t H_8 L_9 ht hvm hw hB hz1 hk1 hS => ?_)
  obtain ⟨hP1, -, hD1⟩ := hB
  rw [ht] at hP1
  obtain ⟨hP, hD⟩ := va_join (wr := [(h0, .inr (7, [.ref tl, .ref wa1, .ref wa2, .ref wa3, .ref wa4, .int (nI c), .int sc])), (wa1, .inl (cI, 300, .inl fw1)), (wa2, .inl (cI, 300, .inl fw2)), (wa3, .inl (cI, 300, .inl fw3))]) (w1 := [(tl, .inr (5, [.ref ta, .int (nI kt)])), (ta, .inl (cB, 600, .inl ft))]) hP hD [4, 5] [0, 1, 2, 3] rfl rfl (by decide) (by decide) hk1 hFc hP1 hD1
  have hP : va_P D vwCl [(h0, .inr (7, [.ref tl, .ref wa1, .ref wa2, .ref wa3, .ref wa4, .int (nI c), .int sc])), (wa1, .inl (cI, 300, .inl fw1)), (wa2, .inl (cI, 300, .inl fw2)), (wa3, .inl (cI, 300, .inl fw3)), (tl, .inr (5, [.ref ta, .int (nI kt)])), (ta, .inl (cB, 600, .inl ft))] H_8 := hP.sub [0, 1, 2, 3, 4, 5] rfl
  have hD : va_D A [(h0, .inr (7, [.ref tl, .ref wa1, .ref wa2, .ref wa3, .ref wa4, .int (nI c), .int sc])), (wa1, .inl (cI, 300, .inl fw1)), (wa2, .inl (cI, 300, .inl fw2)), (wa3, .inl (cI, 300, .inl fw3)), (tl, .inr (5, [.ref ta, .int (nI kt)])), (ta, .inl (cB, 600, .inl ft))] := hD.sub [0, 1, 2, 3, 4, 5] (by decide) rfl
  try dsimp only at hw
  refine lv_istore (lv' := [(4, .int r_7), (3, .int r_4), (2, .int r_1), (0, .ref h0), (1, .int x)]) hx hb dX7_kindBySpelling_21 hl (by decide) rfl (fun ls hl => ?_)
  refine lv_iload hx hb dX7_kindBySpelling_23 (lv_at hl 0 rfl) ?_
  refine lv_if_le (tgt := 57) hx hb dX7_kindBySpelling_25 (by decide) (fun c_10 => ?_) (fun c_10 => ?_)
  · refine lv_aload_n hx hb dX7_kindBySpelling_57 rfl (lv_at hl 3 rfl) ?_
    refine va_get (D := D) (ci := 7) (v := .ref tl) (C := RX7) (T := TX7) (N := 7) hx hb hts hinX7 hown hK hP 0 rfl rfl 0 (by decide) (hts (.fieldLink RX7 14 "TaleReader$Words" "tale" "LTaleReader$Text;") (uc3 _ (List.mem_of_getElem? (i := 12) rfl))) (fun _ h9 => h9) rfl dX7_kindBySpelling_58 ?_
    refine lv_iload_n hx hb dX7_kindBySpelling_61 rfl (lv_at hl 2 rfl) ?_
    refine lv_iload_n hx hb dX7_kindBySpelling_62 rfl (lv_at hl 1 rfl) ?_
    have hPc := hP.sub (ws' := [(tl, .inr (5, [.ref ta, .int (nI kt)])), (ta, .inl (cB, 600, .inl ft))]) [4, 5] rfl
    have hDc := hD.sub (ws' := [(tl, .inr (5, [.ref ta, .int (nI kt)])), (ta, .inl (cB, 600, .inl ft))]) [4, 5] (by decide) rfl
    have hFc := va_free (wc := [(tl, .inr (5, [.ref ta, .int (nI kt)])), (ta, .inl (cB, 600, .inl ft))]) hD hS hA [4, 5] rfl
    refine va_calli (va_runV (As := [.int r_1, .int r_4]) (rest := []) ⟨hx, hb, hml, hown, hts⟩ (s_X5_looksLikeName l D cB cI cZ E H_8.size tl ta 600 kt ft r_1 r_4 (by first | assumption | omega) (by first | assumption | omega)) (cwV 2 hts (uV (uc14 _ (List.mem_of_getElem? (i := 13) rfl)) (uc14 _ (List.mem_of_getElem? (i := 14) rfl)) (uc14 _ (List.mem_of_getElem? (i := 15) rfl)) (uc1 _ (List.mem_of_getElem? (i := 14) rfl)) (uc14 _ (List.mem_of_getElem? (i := 16) rfl))) rfl rfl rfl (by decide +kernel) ⟨Nat.le_of_ble_eq_true rfl, Nat.le_of_ble_eq_true rfl⟩) (pVE hE hS hFc hK hPc hDc 0 rfl rfl) rfl rfl hl.1 rfl (lv_room (Nat.le_of_ble_eq_true rfl)) dX7_kindBySpelling_63 ⟨Nat.le_of_ble_eq_true rfl, Nat.le_of_ble_eq_true rfl⟩) hS (fun q _ h => hFc q h) hFc (fun r_11 u t H_12 L_13 ht hvm hw hB hz1 hk1 hS => ?_)
    obtain ⟨hP1, -, hD1⟩ := hB
    rw [ht] at hP1
    obtain ⟨hP, hD⟩ := va_join (wr := [(h0, .inr (7, [.ref tl, .ref wa1, .ref wa2, .ref wa3, .ref wa4, .int (nI c), .int sc])), (wa1, .inl (cI, 300, .inl fw1)), (wa2, .inl (cI, 300, .inl fw2)), (wa3, .inl (cI, 300, .inl fw3))]) (w1 := [(tl, .inr (5, [.ref ta, .int (nI kt)])), (ta, .inl (cB, 600, .inl ft))]) hP hD [4, 5] [0, 1, 2, 3] rfl rfl (by decide) (by decide) hk1 hFc hP1 hD1
    have hP : va_P D vwCl [(h0, .inr (7, [.ref tl, .ref wa1, .ref wa2, .ref wa3, .ref wa4, .int (nI c), .int sc])), (wa1, .inl (cI, 300, .inl fw1)), (wa2, .inl (cI, 300, .inl fw2)), (wa3, .inl (cI, 300, .inl fw3)), (tl, .inr (5, [.ref ta, .int (nI kt)])), (ta, .inl (cB, 600, .inl ft))] H_12 := hP.sub [0, 1, 2, 3, 4, 5] rfl
    have hD : va_D A [(h0, .inr (7, [.ref tl, .ref wa1, .ref wa2, .ref wa3, .ref wa4, .int (nI c), .int sc])), (wa1, .inl (cI, 300, .inl fw1)), (wa2, .inl (cI, 300, .inl fw2)), (wa3, .inl (cI, 300, .inl fw3)), (tl, .inr (5, [.ref ta, .int (nI kt)])), (ta, .inl (cB, 600, .inl ft))] := hD.sub [0, 1, 2, 3, 4, 5] (by decide) rfl
    try dsimp only at hw
    refine lv_if_eq (tgt := 84) hx hb dX7_kindBySpelling_66 (by decide) (fun c_14 => ?_) (fun c_14 => ?_)
    · refine lv_aload_n hx hb dX7_kindBySpelling_84 rfl (lv_at hl 3 rfl) ?_
      refine va_get (D := D) (ci := 7) (v := .ref tl) (C := RX7) (T := TX7) (N := 7) hx hb hts hinX7 hown hK hP 0 rfl rfl 0 (by decide) (hts (.fieldLink RX7 14 "TaleReader$Words" "tale" "LTaleReader$Text;") (uc3 _ (List.mem_of_getElem? (i := 12) rfl))) (fun _ h9 => h9) rfl dX7_kindBySpelling_85 ?_
      refine lv_iload_n hx hb dX7_kindBySpelling_88 rfl (lv_at hl 2 rfl) ?_
      refine lv_iload_n hx hb dX7_kindBySpelling_89 rfl (lv_at hl 1 rfl) ?_
      refine va_ldcS hx hb hown (pR_RX7_97 hE) dX7_kindBySpelling_90 ?_
      have hPc := hP.sub (ws' := [(tl, .inr (5, [.ref ta, .int (nI kt)])), (ta, .inl (cB, 600, .inl ft))]) [4, 5] rfl
      have hDc := hD.sub (ws' := [(tl, .inr (5, [.ref ta, .int (nI kt)])), (ta, .inl (cB, 600, .inl ft))]) [4, 5] (by decide) rfl
      have hFc := va_free (wc := [(tl, .inr (5, [.ref ta, .int (nI kt)])), (ta, .inl (cB, 600, .inl ft))]) hD hS hA [4, 5] rfl
      refine va_calli (va_runV (As := [.int r_1, .int r_4, .ref (E.1 13)]) (rest := []) ⟨hx, hb, hml, hown, hts⟩ (s_X5_spells l D cB cI cZ E H_12.size tl ta 600 kt ft r_1 r_4 13 (by first | assumption | omega) (by first | assumption | omega) (by first | assumption | omega)) (cwV 3 hts (uV (uc14 _ (List.mem_of_getElem? (i := 17) rfl)) (uc14 _ (List.mem_of_getElem? (i := 18) rfl)) (uc14 _ (List.mem_of_getElem? (i := 19) rfl)) (uc1 _ (List.mem_of_getElem? (i := 14) rfl)) (uc14 _ (List.mem_of_getElem? (i := 20) rfl))) rfl rfl rfl (by decide +kernel) ⟨Nat.le_of_ble_eq_true rfl, Nat.le_of_ble_eq_true rfl⟩) (pVE hE hS hFc hK hPc hDc 0 rfl rfl) rfl rfl hl.1 rfl (lv_room (Nat.le_of_ble_eq_true rfl)) dX7_kindBySpelling_92 ⟨Nat.le_of_ble_eq_true rfl, Nat.le_of_ble_eq_true rfl⟩) hS (fun q _ h => hFc q h) hFc (fun r_15 u t H_16 L_17 ht hvm hw hB hz1 hk1 hS => ?_)
      obtain ⟨hP1, -, hD1⟩ := hB
      rw [ht] at hP1
      obtain ⟨hP, hD⟩ := va_join (wr := [(h0, .inr (7, [.ref tl, .ref wa1, .ref wa2, .ref wa3, .ref wa4, .int (nI c), .int sc])), (wa1, .inl (cI, 300, .inl fw1)), (wa2, .inl (cI, 300, .inl fw2)), (wa3, .inl (cI, 300, .inl fw3))]) (w1 := [(tl, .inr (5, [.ref ta, .int (nI kt)])), (ta, .inl (cB, 600, .inl ft))]) hP hD [4, 5] [0, 1, 2, 3] rfl rfl (by decide) (by decide) hk1 hFc hP1 hD1
      have hP : va_P D vwCl [(h0, .inr (7, [.ref tl, .ref wa1, .ref wa2, .ref wa3, .ref wa4, .int (nI c), .int sc])), (wa1, .inl (cI, 300, .inl fw1)), (wa2, .inl (cI, 300, .inl fw2)), (wa3, .inl (cI, 300, .inl fw3)), (tl, .inr (5, [.ref ta, .int (nI kt)])), (ta, .inl (cB, 600, .inl ft))] H_16 := hP.sub [0, 1, 2, 3, 4, 5] rfl
      have hD : va_D A [(h0, .inr (7, [.ref tl, .ref wa1, .ref wa2, .ref wa3, .ref wa4, .int (nI c), .int sc])), (wa1, .inl (cI, 300, .inl fw1)), (wa2, .inl (cI, 300, .inl fw2)), (wa3, .inl (cI, 300, .inl fw3)), (tl, .inr (5, [.ref ta, .int (nI kt)])), (ta, .inl (cB, 600, .inl ft))] := hD.sub [0, 1, 2, 3, 4, 5] (by decide) rfl
      try dsimp only at hw
      refine lv_if_eq (tgt := 101) hx hb dX7_kindBySpelling_95 (by decide) (fun c_18 => ?_) (fun c_18 => ?_)
      · refine lv_aload_n hx hb dX7_kindBySpelling_101 rfl (lv_at hl 3 rfl) ?_
        refine va_get (D := D) (ci := 7) (v := .ref tl) (C := RX7) (T := TX7) (N := 7) hx hb hts hinX7 hown hK hP 0 rfl rfl 0 (by decide) (hts (.fieldLink RX7 14 "TaleReader$Words" "tale" "LTaleReader$Text;") (uc3 _ (List.mem_of_getElem? (i := 12) rfl))) (fun _ h9 => h9) rfl dX7_kindBySpelling_102 ?_
        refine lv_iload_n hx hb dX7_kindBySpelling_105 rfl (lv_at hl 2 rfl) ?_
        refine lv_iload_n hx hb dX7_kindBySpelling_106 rfl (lv_at hl 1 rfl) ?_
        refine va_ldcS hx hb hown (pR_RX7_103 hE) dX7_kindBySpelling_107 ?_
        have hPc := hP.sub (ws' := [(tl, .inr (5, [.ref ta, .int (nI kt)])), (ta, .inl (cB, 600, .inl ft))]) [4, 5] rfl
        have hDc := hD.sub (ws' := [(tl, .inr (5, [.ref ta, .int (nI kt)])), (ta, .inl (cB, 600, .inl ft))]) [4, 5] (by decide) rfl
        have hFc := va_free (wc := [(tl, .inr (5, [.ref ta, .int (nI kt)])), (ta, .inl (cB, 600, .inl ft))]) hD hS hA [4, 5] rfl
        refine va_calli (va_runV (As := [.int r_1, .int r_4, .ref (E.1 11)]) (rest := []) ⟨hx, hb, hml, hown, hts⟩ (s_X5_spells l D cB cI cZ E H_16.size tl ta 600 kt ft r_1 r_4 11 (by first | assumption | omega) (by first | assumption | omega) (by first | assumption | omega)) (cwV 3 hts (uV (uc14 _ (List.mem_of_getElem? (i := 17) rfl)) (uc14 _ (List.mem_of_getElem? (i := 18) rfl)) (uc14 _ (List.mem_of_getElem? (i := 19) rfl)) (uc1 _ (List.mem_of_getElem? (i := 14) rfl)) (uc14 _ (List.mem_of_getElem? (i := 20) rfl))) rfl rfl rfl (by decide +kernel) ⟨Nat.le_of_ble_eq_true rfl, Nat.le_of_ble_eq_true rfl⟩) (pVE hE hS hFc hK hPc hDc 0 rfl rfl) rfl rfl hl.1 rfl (lv_room (Nat.le_of_ble_eq_true rfl)) dX7_kindBySpelling_109 ⟨Nat.le_of_ble_eq_true rfl, Nat.le_of_ble_eq_true rfl⟩) hS (fun q _ h => hFc q h) hFc (fun r_19 u t H_20 L_21 ht hvm hw hB hz1 hk1 hS => ?_)
        obtain ⟨hP1, -, hD1⟩ := hB
        rw [ht] at hP1
        obtain ⟨hP, hD⟩ := va_join (wr := [(h0, .inr (7, [.ref tl, .ref wa1, .ref wa2, .ref wa3, .ref wa4, .int (nI c), .int sc])), (wa1, .inl (cI, 300, .inl fw1)), (wa2, .inl (cI, 300, .inl fw2)), (wa3, .inl (cI, 300, .inl fw3))]) (w1 := [(tl, .inr (5, [.ref ta, .int (nI kt)])), (ta, .inl (cB, 600, .inl ft))]) hP hD [4, 5] [0, 1, 2, 3] rfl rfl (by decide) (by decide) hk1 hFc hP1 hD1
        have hP : va_P D vwCl [(h0, .inr (7, [.ref tl, .ref wa1, .ref wa2, .ref wa3, .ref wa4, .int (nI c), .int sc])), (wa1, .inl (cI, 300, .inl fw1)), (wa2, .inl (cI, 300, .inl fw2)), (wa3, .inl (cI, 300, .inl fw3)), (tl, .inr (5, [.ref ta, .int (nI kt)])), (ta, .inl (cB, 600, .inl ft))] H_20 := hP.sub [0, 1, 2, 3, 4, 5] rfl
        have hD : va_D A [(h0, .inr (7, [.ref tl, .ref wa1, .ref wa2, .ref wa3, .ref wa4, .int (nI c), .int sc])), (wa1, .inl (cI, 300, .inl fw1)), (wa2, .inl (cI, 300, .inl fw2)), (wa3, .inl (cI, 300, .inl fw3)), (tl, .inr (5, [.ref ta, .int (nI kt)])), (ta, .inl (cB, 600, .inl ft))] := hD.sub [0, 1, 2, 3, 4, 5] (by decide) rfl
        try dsimp only at hw
        refine lv_if_ne (tgt := 129) hx hb dX7_kindBySpelling_112 (by decide) (fun c_22 => ?_) (fun c_22 => ?_)
        · refine lv_iconst (v := 1) hx hb dX7_kindBySpelling_129 (by decide) ?_
          refine lv_goto (tgt := 134) hx hb dX7_kindBySpelling_130 (by decide) ?_
          refine lv_istore (lv' := [(5, .int 1), (4, .int r_7), (3, .int r_4), (2, .int r_1), (0, .ref h0), (1, .int x)]) hx hb dX7_kindBySpelling_134 hl (by decide) rfl (fun ls hl => ?_)
          refine lv_iload hx hb dX7_kindBySpelling_136 (lv_at hl 0 rfl) ?_
          refine lv_if_eq (tgt := 146) hx hb dX7_kindBySpelling_138 (by decide) (fun c_23 => ?_) (fun c_23 => ?_)
          · exact False.elim (by revert c_23; decide)
          · refine lv_bipush (v := 7) hx hb dX7_kindBySpelling_141 (by decide) ?_
            refine lv_goto (tgt := 147) hx hb dX7_kindBySpelling_143 (by decide) ?_
            have hP9 := hP.sub (ws' := [(h0, .inr (7, [.ref tl, .ref wa1, .ref wa2, .ref wa3, .ref wa4, .int (nI c), .int sc])), (wa1, .inl (cI, 300, .inl fw1)), (wa2, .inl (cI, 300, .inl fw2)), (wa3, .inl (cI, 300, .inl fw3)), (tl, .inr (5, [.ref ta, .int (nI kt)])), (ta, .inl (cB, 600, .inl ft))]) [0, 1, 2, 3, 4, 5] rfl
            have hD9 := hD.sub (ws' := [(h0, .inr (7, [.ref tl, .ref wa1, .ref wa2, .ref wa3, .ref wa4, .int (nI c), .int sc])), (wa1, .inl (cI, 300, .inl fw1)), (wa2, .inl (cI, 300, .inl fw2)), (wa3, .inl (cI, 300, .inl fw3)), (tl, .inr (5, [.ref ta, .int (nI kt)])), (ta, .inl (cB, 600, .inl ft))]) [0, 1, 2, 3, 4, 5] (by decide) rfl
            exact W.iret (v := 7) hx hb hr (fun t ht hW => ⟨⟨7, (), rfl, trivial, ⟨by rw [ht]; exact hP9, va_K.moved hW.alike hK, hD9⟩⟩, hS.F ht⟩) hS.2.2 dX7_kindBySpelling_147
        · refine lv_aload_n hx hb dX7_kindBySpelling_115 rfl (lv_at hl 3 rfl) ?_
          refine va_get (D := D) (ci := 7) (v := .ref tl) (C := RX7) (T := TX7) (N := 7) hx hb hts hinX7 hown hK hP 0 rfl rfl 0 (by decide) (hts (.fieldLink RX7 14 "TaleReader$Words" "tale" "LTaleReader$Text;") (uc3 _ (List.mem_of_getElem? (i := 12) rfl))) (fun _ h9 => h9) rfl dX7_kindBySpelling_116 ?_
          refine lv_iload_n hx hb dX7_kindBySpelling_119 rfl (lv_at hl 2 rfl) ?_
          refine lv_iload_n hx hb dX7_kindBySpelling_120 rfl (lv_at hl 1 rfl) ?_
          refine va_ldcS hx hb hown (pR_RX7_105 hE) dX7_kindBySpelling_121 ?_
          have hPc := hP.sub (ws' := [(tl, .inr (5, [.ref ta, .int (nI kt)])), (ta, .inl (cB, 600, .inl ft))]) [4, 5] rfl
          have hDc := hD.sub (ws' := [(tl, .inr (5, [.ref ta, .int (nI kt)])), (ta, .inl (cB, 600, .inl ft))]) [4, 5] (by decide) rfl
          have hFc := va_free (wc := [(tl, .inr (5, [.ref ta, .int (nI kt)])), (ta, .inl (cB, 600, .inl ft))]) hD hS hA [4, 5] rfl
          refine va_calli (va_runV (As := [.int r_1, .int r_4, .ref (E.1 12)]) (rest := []) ⟨hx, hb, hml, hown, hts⟩ (s_X5_spells l D cB cI cZ E H_20.size tl ta 600 kt ft r_1 r_4 12 (by first | assumption | omega) (by first | assumption | omega) (by first | assumption | omega)) (cwV 3 hts (uV (uc14 _ (List.mem_of_getElem? (i := 17) rfl)) (uc14 _ (List.mem_of_getElem? (i := 18) rfl)) (uc14 _ (List.mem_of_getElem? (i := 19) rfl)) (uc1 _ (List.mem_of_getElem? (i := 14) rfl)) (uc14 _ (List.mem_of_getElem? (i := 20) rfl))) rfl rfl rfl (by decide +kernel) ⟨Nat.le_of_ble_eq_true rfl, Nat.le_of_ble_eq_true rfl⟩) (pVE hE hS hFc hK hPc hDc 0 rfl rfl) rfl rfl hl.1 rfl (lv_room (Nat.le_of_ble_eq_true rfl)) dX7_kindBySpelling_123 ⟨Nat.le_of_ble_eq_true rfl, Nat.le_of_ble_eq_true rfl⟩) hS (fun q _ h => hFc q h) hFc (fun r_24 u t H_25 L_26 ht hvm hw hB hz1 hk1 hS => ?_)
          obtain ⟨hP1, -, hD1⟩ := hB
          rw [ht] at hP1
          obtain ⟨hP, hD⟩ := va_join (wr := [(h0, .inr (7, [.ref tl, .ref wa1, .ref wa2, .ref wa3, .ref wa4, .int (nI c), .int sc])), (wa1, .inl (cI, 300, .inl fw1)), (wa2, .inl (cI, 300, .inl fw2)), (wa3, .inl (cI, 300, .inl fw3))]) (w1 := [(tl, .inr (5, [.ref ta, .int (nI kt)])), (ta, .inl (cB, 600, .inl ft))]) hP hD [4, 5] [0, 1, 2, 3] rfl rfl (by decide) (by decide) hk1 hFc hP1 hD1
          have hP : va_P D vwCl [(h0, .inr (7, [.ref tl, .ref wa1, .ref wa2, .ref wa3, .ref wa4, .int (nI c), .int sc])), (wa1, .inl (cI, 300, .inl fw1)), (wa2, .inl (cI, 300, .inl fw2)), (wa3, .inl (cI, 300, .inl fw3)), (tl, .inr (5, [.ref ta, .int (nI kt)])), (ta, .inl (cB, 600, .inl ft))] H_25 := hP.sub [0, 1, 2, 3, 4, 5] rfl
          have hD : va_D A [(h0, .inr (7, [.ref tl, .ref wa1, .ref wa2, .ref wa3, .ref wa4, .int (nI c), .int sc])), (wa1, .inl (cI, 300, .inl fw1)), (wa2, .inl (cI, 300, .inl fw2)), (wa3, .inl (cI, 300, .inl fw3)), (tl, .inr (5, [.ref ta, .int (nI kt)])), (ta, .inl (cB, 600, .inl ft))] := hD.sub [0, 1, 2, 3, 4, 5] (by decide) rfl
          try dsimp only at hw
          refine lv_if_eq (tgt := 133) hx hb dX7_kindBySpelling_126 (by decide) (fun c_27 => ?_) (fun c_27 => ?_)
          · refine lv_iconst (v := 0) hx hb dX7_kindBySpelling_133 (by decide) ?_
            refine lv_istore (lv' := [(5, .int 0), (4, .int r_7), (3, .int r_4), (2, .int r_1), (0, .ref h0), (1, .int x)]) hx hb dX7_kindBySpelling_134 hl (by decide) rfl (fun ls hl => ?_)
            refine lv_iload hx hb dX7_kindBySpelling_136 (lv_at hl 0 rfl) ?_
            refine lv_if_eq (tgt := 146) hx hb dX7_kindBySpelling_138 (by decide) (fun c_28 => ?_) (fun c_28 => ?_)
            · refine lv_iconst (v := 5) hx hb dX7_kindBySpelling_146 (by decide) ?_
              have hP9 := hP.sub (ws' := [(h0, .inr (7, [.ref tl, .ref wa1, .ref wa2, .ref wa3, .ref wa4, .int (nI c), .int sc])), (wa1, .inl (cI, 300, .inl fw1)), (wa2, .inl (cI, 300, .inl fw2)), (wa3, .inl (cI, 300, .inl fw3)), (tl, .inr (5, [.ref ta, .int (nI kt)])), (ta, .inl (cB, 600, .inl ft))]) [0, 1, 2, 3, 4, 5] rfl
              have hD9 := hD.sub (ws' := [(h0, .inr (7, [.ref tl, .ref wa1, .ref wa2, .ref wa3, .ref wa4, .int (nI c), .int sc])), (wa1, .inl (cI, 300, .inl fw1)), (wa2, .inl (cI, 300, .inl fw2)), (wa3, .inl (cI, 300, .inl fw3)), (tl, .inr (5, [.ref ta, .int (nI kt)])), (ta, .inl (cB, 600, .inl ft))]) [0, 1, 2, 3, 4, 5] (by decide) rfl
              exact W.iret (v := 5) hx hb hr (fun t ht hW => ⟨⟨5, (), rfl, trivial, ⟨by rw [ht]; exact hP9, va_K.moved hW.alike hK, hD9⟩⟩, hS.F ht⟩) hS.2.2 dX7_kindBySpelling_147
            · exact False.elim (by revert c_28; decide)
          · refine lv_iconst (v := 1) hx hb dX7_kindBySpelling_129 (by decide) ?_
            refine lv_goto (tgt := 134) hx hb dX7_kindBySpelling_130 (by decide) ?_
            refine lv_istore (lv' := [(5, .int 1), (4, .int r_7), (3, .int r_4), (2, .int r_1), (0, .ref h0), (1, .int x)]) hx hb dX7_kindBySpelling_134 hl (by decide) rfl (fun ls hl => ?_)
            refine lv_iload hx hb dX7_kindBySpelling_136 (lv_at hl 0 rfl) ?_
            refine lv_if_eq (tgt := 146) hx hb dX7_kindBySpelling_138 (by decide) (fun c_29 => ?_) (fun c_29 => ?_)
            · exact False.elim (by revert c_29; decide)
            · refine lv_bipush (v := 7) hx hb dX7_kindBySpelling_141 (by decide) ?_
              refine lv_goto (tgt := 147) hx hb dX7_kindBySpelling_143 (by decide) ?_
              have hP9 := hP.sub (ws' := [(h0, .inr (7, [.ref tl, .ref wa1, .ref wa2, .ref wa3, .ref wa4, .int (nI c), .int sc])), (wa1, .inl (cI, 300, .inl fw1)), (wa2, .inl (cI, 300, .inl fw2)), (wa3, .inl (cI, 300, .inl fw3)), (tl, .inr (5, [.ref ta, .int (nI kt)])), (ta, .inl (cB, 600, .inl ft))]) [0, 1, 2, 3, 4, 5] rfl
              have hD9 := hD.sub (ws' := [(h0, .inr (7, [.ref tl, .ref wa1, .ref wa2, .ref wa3, .ref wa4, .int (nI c), .int sc])), (wa1, .inl (cI, 300, .inl fw1)), (wa2, .inl (cI, 300, .inl fw2)), (wa3, .inl (cI, 300, .inl fw3)), (tl, .inr (5, [.ref ta, .int (nI kt)])), (ta, .inl (cB, 600, .inl ft))]) [0, 1, 2, 3, 4, 5] (by decide) rfl
              exact W.iret (v := 7) hx hb hr (fun t ht hW => ⟨⟨7, (), rfl, trivial, ⟨by rw [ht]; exact hP9, va_K.moved hW.alike hK, hD9⟩⟩, hS.F ht⟩) hS.2.2 dX7_kindBySpelling_147
      · refine lv_bipush (v := 6) hx hb dX7_kindBySpelling_98 (by decide) ?_
        have hP9 := hP.sub (ws' := [(h0, .inr (7, [.ref tl, .ref wa1, .ref wa2, .ref wa3, .ref wa4, .int (nI c), .int sc])), (wa1, .inl (cI, 300, .inl fw1)), (wa2, .inl (cI, 300, .inl fw2)), (wa3, .inl (cI, 300, .inl fw3)), (tl, .inr (5, [.ref ta, .int (nI kt)])), (ta, .inl (cB, 600, .inl ft))]) [0, 1, 2, 3, 4, 5] rfl
        have hD9 := hD.sub (ws' := [(h0, .inr (7, [.ref tl, .ref wa1, .ref wa2, .ref wa3, .ref wa4, .int (nI c), .int sc])), (wa1, .inl (cI, 300, .inl fw1)), (wa2, .inl (cI, 300, .inl fw2)), (wa3, .inl (cI, 300, .inl fw3)), (tl, .inr (5, [.ref ta, .int (nI kt)])), (ta, .inl (cB, 600, .inl ft))]) [0, 1, 2, 3, 4, 5] (by decide) rfl
        exact W.iret (v := 6) hx hb hr (fun t ht hW => ⟨⟨6, (), rfl, trivial, ⟨by rw [ht]; exact hP9, va_K.moved hW.alike hK, hD9⟩⟩, hS.F ht⟩) hS.2.2 dX7_kindBySpelling_100
    · refine lv_aload_n hx hb dX7_kindBySpelling_69 rfl (lv_at hl 3 rfl) ?_
      refine lv_iload_n hx hb dX7_kindBySpelling_70 rfl (lv_at hl 4 rfl) ?_
      have hPc := hP.sub (ws' := [(h0, .inr (7, [.ref tl, .ref wa1, .ref wa2, .ref wa3, .ref wa4, .int (nI c), .int sc])), (wa3, .inl (cI, 300, .inl fw3))]) [0, 3] rfl
      have hDc := hD.sub (ws' := [(h0, .inr (7, [.ref tl, .ref wa1, .ref wa2, .ref wa3, .ref wa4, .int (nI c), .int sc])), (wa3, .inl (cI, 300, .inl fw3))]) [0, 3] (by decide) rfl
      have hFc := va_free (wc := [(h0, .inr (7, [.ref tl, .ref wa1, .ref wa2, .ref wa3, .ref wa4, .int (nI c), .int sc])), (wa3, .inl (cI, 300, .inl fw3))]) hD hS hA [0, 3] rfl
      refine va_calli (va_runV (As := [.int x]) (rest := []) ⟨hx, hb, hml, hown, hts⟩ (s_X7_isFirst l D cB cI cZ E H_12.size h0 x tl wa1 wa2 wa3 wa4 c sc fw3 (by first | assumption | omega)) (cwV 1 hts (uV (uc14 _ (List.mem_of_getElem? (i := 5) rfl)) (uc14 _ (List.mem_of_getElem? (i := 6) rfl)) (uc14 _ (List.mem_of_getElem? (i := 7) rfl)) (uc1 _ (List.mem_of_getElem? (i := 18) rfl)) (uc14 _ (List.mem_of_getElem? (i := 8) rfl))) rfl rfl rfl (by decide +kernel) ⟨Nat.le_of_ble_eq_true rfl, Nat.le_of_ble_eq_true rfl⟩) (pVE hE hS hFc hK hPc hDc 0 rfl rfl) rfl rfl hl.1 rfl (lv_room (Nat.le_of_ble_eq_true rfl)) dX7_kindBySpelling_71 ⟨Nat.le_of_ble_eq_true rfl, Nat.le_of_ble_eq_true rfl⟩) hS (fun q _ h => hFc q h) hFc (fun r_30 u t H_31 L_32 ht hvm hw hB hz1 hk1 hS => ?_)
      obtain ⟨hP1, -, hD1⟩ := hB
      rw [ht] at hP1
      obtain ⟨hP, hD⟩ := va_join (wr := [(wa1, .inl (cI, 300, .inl fw1)), (wa2, .inl (cI, 300, .inl fw2)), (tl, .inr (5, [.ref ta, .int (nI kt)])), (ta, .inl (cB, 600, .inl ft))]) (w1 := [(h0, .inr (7, [.ref tl, .ref wa1, .ref wa2, .ref wa3, .ref wa4, .int (nI c), .int sc])), (wa3, .inl (cI, 300, .inl fw3))]) hP hD [0, 3] [1, 2, 4, 5] rfl rfl (by decide) (by decide) hk1 hFc hP1 hD1
      have hP : va_P D vwCl [(h0, .inr (7, [.ref tl, .ref wa1, .ref wa2, .ref wa3, .ref wa4, .int (nI c), .int sc])), (wa1, .inl (cI, 300, .inl fw1)), (wa2, .inl (cI, 300, .inl fw2)), (wa3, .inl (cI, 300, .inl fw3)), (tl, .inr (5, [.ref ta, .int (nI kt)])), (ta, .inl (cB, 600, .inl ft))] H_31 := hP.sub [4, 0, 1, 5, 2, 3] rfl
      have hD : va_D A [(h0, .inr (7, [.ref tl, .ref wa1, .ref wa2, .ref wa3, .ref wa4, .int (nI c), .int sc])), (wa1, .inl (cI, 300, .inl fw1)), (wa2, .inl (cI, 300, .inl fw2)), (wa3, .inl (cI, 300, .inl fw3)), (tl, .inr (5, [.ref ta, .int (nI kt)])), (ta, .inl (cB, 600, .inl ft))] := hD.sub [4, 0, 1, 5, 2, 3] (by decide) rfl
      try dsimp only at hw
      refine lv_if_eq (tgt := 82) hx hb dX7_kindBySpelling_74 (by decide) (fun c_33 => ?_) (fun c_33 => ?_)
      · refine lv_iconst (v := 0) hx hb dX7_kindBySpelling_82 (by decide) ?_
        have hP9 := hP.sub (ws' := [(h0, .inr (7, [.ref tl, .ref wa1, .ref wa2, .ref wa3, .ref wa4, .int (nI c), .int sc])), (wa1, .inl (cI, 300, .inl fw1)), (wa2, .inl (cI, 300, .inl fw2)), (wa3, .inl (cI, 300, .inl fw3)), (tl, .inr (5, [.ref ta, .int (nI kt)])), (ta, .inl (cB, 600, .inl ft))]) [0, 1, 2, 3, 4, 5] rfl
        have hD9 := hD.sub (ws' := [(h0, .inr (7, [.ref tl, .ref wa1, .ref wa2, .ref wa3, .ref wa4, .int (nI c), .int sc])), (wa1, .inl (cI, 300, .inl fw1)), (wa2, .inl (cI, 300, .inl fw2)), (wa3, .inl (cI, 300, .inl fw3)), (tl, .inr (5, [.ref ta, .int (nI kt)])), (ta, .inl (cB, 600, .inl ft))]) [0, 1, 2, 3, 4, 5] (by decide) rfl
        exact W.iret (v := 0) hx hb hr (fun t ht hW => ⟨⟨0, (), rfl, trivial, ⟨by rw [ht]; exact hP9, va_K.moved hW.alike hK, hD9⟩⟩, hS.F ht⟩) hS.2.2 dX7_kindBySpelling_83
      · refine lv_bipush (v := 8) hx hb dX7_kindBySpelling_77 (by decide) ?_
        refine lv_goto (tgt := 83) hx hb dX7_kindBySpelling_79 (by decide) ?_
        have hP9 := hP.sub (ws' := [(h0, .inr (7, [.ref tl, .ref wa1, .ref wa2, .ref wa3, .ref wa4, .int (nI c), .int sc])), (wa1, .inl (cI, 300, .inl fw1)), (wa2, .inl (cI, 300, .inl fw2)), (wa3, .inl (cI, 300, .inl fw3)), (tl, .inr (5, [.ref ta, .int (nI kt)])), (ta, .inl (cB, 600, .inl ft))]) [0, 1, 2, 3, 4, 5] rfl
        have hD9 := hD.sub (ws' := [(h0, .inr (7, [.ref tl, .ref wa1, .ref wa2, .ref wa3, .ref wa4, .int (nI c), .int sc])), (wa1, .inl (cI, 300, .inl fw1)), (wa2, .inl (cI, 300, .inl fw2)), (wa3, .inl (cI, 300, .inl fw3)), (tl, .inr (5, [.ref ta, .int (nI kt)])), (ta, .inl (cB, 600, .inl ft))]) [0, 1, 2, 3, 4, 5] (by decide) rfl
        exact W.iret (v := 8) hx hb hr (fun t ht hW => ⟨⟨8, (), rfl, trivial, ⟨by rw [ht]; exact hP9, va_K.moved hW.alike hK, hD9⟩⟩, hS.F ht⟩) hS.2.2 dX7_kindBySpelling_83
  · refine lv_aload_n hx hb dX7_kindBySpelling_28 rfl (lv_at hl 3 rfl) ?_
    refine va_get (D := D) (ci := 7) (v := .ref tl) (C := RX7) (T := TX7) (N := 7) hx hb hts hinX7 hown hK hP 0 rfl rfl 0 (by decide) (hts (.fieldLink RX7 14 "TaleReader$Words" "tale" "LTaleReader$Text;") (uc3 _ (List.mem_of_getElem? (i := 12) rfl))) (fun _ h9 => h9) rfl dX7_kindBySpelling_29 ?_
    refine lv_iload_n hx hb dX7_kindBySpelling_32 rfl (lv_at hl 2 rfl) ?_
    have hPc := hP.sub (ws' := [(tl, .inr (5, [.ref ta, .int (nI kt)])), (ta, .inl (cB, 600, .inl ft))]) [4, 5] rfl
    have hDc := hD.sub (ws' := [(tl, .inr (5, [.ref ta, .int (nI kt)])), (ta, .inl (cB, 600, .inl ft))]) [4, 5] (by decide) rfl
    have hFc := va_free (wc := [(tl, .inr (5, [.ref ta, .int (nI kt)])), (ta, .inl (cB, 600, .inl ft))]) hD hS hA [4, 5] rfl
    refine va_calli (va_runV (As := [.int r_1]) (rest := []) ⟨hx, hb, hml, hown, hts⟩ (s_X5_signAt l D cB cI cZ E H_8.size tl ta 600 kt ft r_1 (by first | assumption | omega) (by first | assumption | omega)) (cwV 1 hts (uV (uc10 _ (List.mem_of_getElem? (i := 23) rfl)) (uc9 _ (List.mem_of_getElem? (i := 22) rfl)) (uc9 _ (List.mem_of_getElem? (i := 23) rfl)) (uc1 _ (List.mem_of_getElem? (i := 14) rfl)) (uc10 _ (List.mem_of_getElem? (i := 0) rfl))) rfl rfl rfl (by decide +kernel) ⟨Nat.le_of_ble_eq_true rfl, Nat.le_of_ble_eq_true rfl⟩) (pVE hE hS hFc hK hPc hDc 0 rfl rfl) rfl rfl hl.1 rfl (lv_room (Nat.le_of_ble_eq_true rfl)) dX7_kindBySpelling_33 ⟨Nat.le_of_ble_eq_true rfl, Nat.le_of_ble_eq_true rfl⟩) hS (fun q _ h => hFc q h) hFc (fun r_34 u t H_35 L_36 ht hvm hw hB hz1 hk1 hS => ?_)
    obtain ⟨hP1, -, hD1⟩ := hB
    rw [ht] at hP1
    obtain ⟨hP, hD⟩ := va_join (wr := [(h0, .inr (7, [.ref tl, .ref wa1, .ref wa2, .ref wa3, .ref wa4, .int (nI c), .int sc])), (wa1, .inl (cI, 300, .inl fw1)), (wa2, .inl (cI, 300, .inl fw2)), (wa3, .inl (cI, 300, .inl fw3))]) (w1 := [(tl, .inr (5, [.ref ta, .int (nI kt)])), (ta, .inl (cB, 600, .inl ft))]) hP hD [4, 5] [0, 1, 2, 3] rfl rfl (by decide) (by decide) hk1 hFc hP1 hD1
    have hP : va_P D vwCl [(h0, .inr (7, [.ref tl, .ref wa1, .ref wa2, .ref wa3, .ref wa4, .int (nI c), .int sc])), (wa1, .inl (cI, 300, .inl fw1)), (wa2, .inl (cI, 300, .inl fw2)), (wa3, .inl (cI, 300, .inl fw3)), (tl, .inr (5, [.ref ta, .int (nI kt)])), (ta, .inl (cB, 600, .inl ft))] H_35 := hP.sub [0, 1, 2, 3, 4, 5] rfl
    have hD : va_D A [(h0, .inr (7, [.ref tl, .ref wa1, .ref wa2, .ref wa3, .ref wa4, .int (nI c), .int sc])), (wa1, .inl (cI, 300, .inl fw1)), (wa2, .inl (cI, 300, .inl fw2)), (wa3, .inl (cI, 300, .inl fw3)), (tl, .inr (5, [.ref ta, .int (nI kt)])), (ta, .inl (cB, 600, .inl ft))] := hD.sub [0, 1, 2, 3, 4, 5] (by decide) rfl
    try dsimp only at hw
    have hPc := hP.sub (ws' := []) [] rfl
    have hDc := hD.sub (ws' := []) [] (by decide) rfl
    have hFc := va_free (wc := []) hD hS hA [] rfl
    refine va_calli (va_runSN (As := [.int r_34]) (rest := []) ⟨hx, hb, hml, hown, hts⟩ (s_isSmall l D cB cI cZ E H_35.size r_34) ⟨va_cnB 1 hts (uI (uc10 _ (List.mem_of_getElem? (i := 16) rfl))) rfl rfl rfl (pN_RX7_87 hE) (hts (.initialized RX8) (uc1 _ (List.mem_of_getElem? (i := 2) rfl))) (by decide +kernel) ⟨Nat.le_of_ble_eq_true rfl, Nat.le_of_ble_eq_true rfl⟩, (hts (.static yX8_isSmall) (uc10 _ (List.mem_of_getElem? (i := 15) rfl))), trivial⟩ (pSE hE hS hFc hK hPc hDc) rfl rfl hl.1 rfl (lv_room (Nat.le_of_ble_eq_true rfl)) dX7_kindBySpelling_36 ⟨Nat.le_of_ble_eq_true rfl, Nat.le_of_ble_eq_true rfl⟩) hS (fun q _ h => hFc q h) hFc (fun r_37 u t H_38 L_39 ht hvm hw hB hz1 hk1 hS => ?_)
    obtain ⟨hP1, -, hD1⟩ := hB
    rw [ht] at hP1
    obtain ⟨hP, hD⟩ := va_join (wr := [(h0, .inr (7, [.ref tl, .ref wa1, .ref wa2, .ref wa3, .ref wa4, .int (nI c), .int sc])), (wa1, .inl (cI, 300, .inl fw1)), (wa2, .inl (cI, 300, .inl fw2)), (wa3, .inl (cI, 300, .inl fw3)), (tl, .inr (5, [.ref ta, .int (nI kt)])), (ta, .inl (cB, 600, .inl ft))]) (w1 := []) hP hD [] [0, 1, 2, 3, 4, 5] rfl rfl (by decide) (by decide) hk1 hFc hP1 hD1
    have hP : va_P D vwCl [(h0, .inr (7, [.ref tl, .ref wa1, .ref wa2, .ref wa3, .ref wa4, .int (nI c), .int sc])), (wa1, .inl (cI, 300, .inl fw1)), (wa2, .inl (cI, 300, .inl fw2)), (wa3, .inl (cI, 300, .inl fw3)), (tl, .inr (5, [.ref ta, .int (nI kt)])), (ta, .inl (cB, 600, .inl ft))] H_38 := hP.sub [0, 1, 2, 3, 4, 5] rfl
    have hD : va_D A [(h0, .inr (7, [.ref tl, .ref wa1, .ref wa2, .ref wa3, .ref wa4, .int (nI c), .int sc])), (wa1, .inl (cI, 300, .inl fw1)), (wa2, .inl (cI, 300, .inl fw2)), (wa3, .inl (cI, 300, .inl fw3)), (tl, .inr (5, [.ref ta, .int (nI kt)])), (ta, .inl (cB, 600, .inl ft))] := hD.sub [0, 1, 2, 3, 4, 5] (by decide) rfl
    try dsimp only at hw
    rcases hw with ⟨rfl, h_40⟩ | ⟨rfl, h_41, h_42⟩
    · refine lv_if_ne (tgt := 50) hx hb dX7_kindBySpelling_39 (by decide) (fun c_43 => ?_) (fun c_43 => ?_)
      · exact False.elim (by revert c_43; decide)
      · refine lv_aload_n hx hb dX7_kindBySpelling_42 rfl (lv_at hl 3 rfl) ?_
        refine lv_iload_n hx hb dX7_kindBySpelling_43 rfl (lv_at hl 4 rfl) ?_
        have hPc := hP.sub (ws' := [(h0, .inr (7, [.ref tl, .ref wa1, .ref wa2, .ref wa3, .ref wa4, .int (nI c), .int sc])), (wa3, .inl (cI, 300, .inl fw3))]) [0, 3] rfl
        have hDc := hD.sub (ws' := [(h0, .inr (7, [.ref tl, .ref wa1, .ref wa2, .ref wa3, .ref wa4, .int (nI c), .int sc])), (wa3, .inl (cI, 300, .inl fw3))]) [0, 3] (by decide) rfl
        have hFc := va_free (wc := [(h0, .inr (7, [.ref tl, .ref wa1, .ref wa2, .ref wa3, .ref wa4, .int (nI c), .int sc])), (wa3, .inl (cI, 300, .inl fw3))]) hD hS hA [0, 3] rfl
        refine va_calli (va_runV (As := [.int x]) (rest := []) ⟨hx, hb, hml, hown, hts⟩ (s_X7_isFirst l D cB cI cZ E H_38.size h0 x tl wa1 wa2 wa3 wa4 c sc fw3 (by first | assumption | omega)) (cwV 1 hts (uV (uc14 _ (List.mem_of_getElem? (i := 5) rfl)) (uc14 _ (List.mem_of_getElem? (i := 6) rfl)) (uc14 _ (List.mem_of_getElem? (i := 7) rfl)) (uc1 _ (List.mem_of_getElem? (i := 18) rfl)) (uc14 _ (List.mem_of_getElem? (i := 8) rfl))) rfl rfl rfl (by decide +kernel) ⟨Nat.le_of_ble_eq_true rfl, Nat.le_of_ble_eq_true rfl⟩) (pVE hE hS hFc hK hPc hDc 0 rfl rfl) rfl rfl hl.1 rfl (lv_room (Nat.le_of_ble_eq_true rfl)) dX7_kindBySpelling_44 ⟨Nat.le_of_ble_eq_true rfl, Nat.le_of_ble_eq_true rfl⟩) hS (fun q _ h => hFc q h) hFc (fun r_44 u t H_45 L_46 ht hvm hw hB hz1 hk1 hS => ?_)
        obtain ⟨hP1, -, hD1⟩ := hB
        rw [ht] at hP1
        obtain ⟨hP, hD⟩ := va_join (wr := [(wa1, .inl (cI, 300, .inl fw1)), (wa2, .inl (cI, 300, .inl fw2)), (tl, .inr (5, [.ref ta, .int (nI kt)])), (ta, .inl (cB, 600, .inl ft))]) (w1 := [(h0, .inr (7, [.ref tl, .ref wa1, .ref wa2, .ref wa3, .ref wa4, .int (nI c), .int sc])), (wa3, .inl (cI, 300, .inl fw3))]) hP hD [0, 3] [1, 2, 4, 5] rfl rfl (by decide) (by decide) hk1 hFc hP1 hD1
        have hP : va_P D vwCl [(h0, .inr (7, [.ref tl, .ref wa1, .ref wa2, .ref wa3, .ref wa4, .int (nI c), .int sc])), (wa1, .inl (cI, 300, .inl fw1)), (wa2, .inl (cI, 300, .inl fw2)), (wa3, .inl (cI, 300, .inl fw3)), (tl, .inr (5, [.ref ta, .int (nI kt)])), (ta, .inl (cB, 600, .inl ft))] H_45 := hP.sub [4, 0, 1, 5, 2, 3] rfl
        have hD : va_D A [(h0, .inr (7, [.ref tl, .ref wa1, .ref wa2, .ref wa3, .ref wa4, .int (nI c), .int sc])), (wa1, .inl (cI, 300, .inl fw1)), (wa2, .inl (cI, 300, .inl fw2)), (wa3, .inl (cI, 300, .inl fw3)), (tl, .inr (5, [.ref ta, .int (nI kt)])), (ta, .inl (cB, 600, .inl ft))] := hD.sub [4, 0, 1, 5, 2, 3] (by decide) rfl
        try dsimp only at hw
        refine lv_if_eq (tgt := 55) hx hb dX7_kindBySpelling_47 (by decide) (fun c_47 => ?_) (fun c_47 => ?_)
        · refine lv_iconst (v := 5) hx hb dX7_kindBySpelling_55 (by decide) ?_
          have hP9 := hP.sub (ws' := [(h0, .inr (7, [.ref tl, .ref wa1, .ref wa2, .ref wa3, .ref wa4, .int (nI c), .int sc])), (wa1, .inl (cI, 300, .inl fw1)), (wa2, .inl (cI, 300, .inl fw2)), (wa3, .inl (cI, 300, .inl fw3)), (tl, .inr (5, [.ref ta, .int (nI kt)])), (ta, .inl (cB, 600, .inl ft))]) [0, 1, 2, 3, 4, 5] rfl
          have hD9 := hD.sub (ws' := [(h0, .inr (7, [.ref tl, .ref wa1, .ref wa2, .ref wa3, .ref wa4, .int (nI c), .int sc])), (wa1, .inl (cI, 300, .inl fw1)), (wa2, .inl (cI, 300, .inl fw2)), (wa3, .inl (cI, 300, .inl fw3)), (tl, .inr (5, [.ref ta, .int (nI kt)])), (ta, .inl (cB, 600, .inl ft))]) [0, 1, 2, 3, 4, 5] (by decide) rfl
          exact W.iret (v := 5) hx hb hr (fun t ht hW => ⟨⟨5, (), rfl, trivial, ⟨by rw [ht]; exact hP9, va_K.moved hW.alike hK, hD9⟩⟩, hS.F ht⟩) hS.2.2 dX7_kindBySpelling_56
        · refine lv_iload hx hb dX7_kindBySpelling_50 (lv_at hl 0 rfl) ?_
          refine lv_goto (tgt := 56) hx hb dX7_kindBySpelling_52 (by decide) ?_
          have hP9 := hP.sub (ws' := [(h0, .inr (7, [.ref tl, .ref wa1, .ref wa2, .ref wa3, .ref wa4, .int (nI c), .int sc])), (wa1, .inl (cI, 300, .inl fw1)), (wa2, .inl (cI, 300, .inl fw2)), (wa3, .inl (cI, 300, .inl fw3)), (tl, .inr (5, [.ref ta, .int (nI kt)])), (ta, .inl (cB, 600, .inl ft))]) [0, 1, 2, 3, 4, 5] rfl
          have hD9 := hD.sub (ws' := [(h0, .inr (7, [.ref tl, .ref wa1, .ref wa2, .ref wa3, .ref wa4, .int (nI c), .int sc])), (wa1, .inl (cI, 300, .inl fw1)), (wa2, .inl (cI, 300, .inl fw2)), (wa3, .inl (cI, 300, .inl fw3)), (tl, .inr (5, [.ref ta, .int (nI kt)])), (ta, .inl (cB, 600, .inl ft))]) [0, 1, 2, 3, 4, 5] (by decide) rfl
          exact W.iret (v := r_7) hx hb hr (fun t ht hW => ⟨⟨r_7, (), rfl, trivial, ⟨by rw [ht]; exact hP9, va_K.moved hW.alike hK, hD9⟩⟩, hS.F ht⟩) hS.2.2 dX7_kindBySpelling_56
    · refine lv_if_ne (tgt := 50) hx hb dX7_kindBySpelling_39 (by decide) (fun c_48 => ?_) (fun c_48 => ?_)
      · refine lv_iload hx hb dX7_kindBySpelling_50 (lv_at hl 0 rfl) ?_
        refine lv_goto (tgt := 56) hx hb dX7_kindBySpelling_52 (by decide) ?_
        have hP9 := hP.sub (ws' := [(h0, .inr (7, [.ref tl, .ref wa1, .ref wa2, .ref wa3, .ref wa4, .int (nI c), .int sc])), (wa1, .inl (cI, 300, .inl fw1)), (wa2, .inl (cI, 300, .inl fw2)), (wa3, .inl (cI, 300, .inl fw3)), (tl, .inr (5, [.ref ta, .int (nI kt)])), (ta, .inl (cB, 600, .inl ft))]) [0, 1, 2, 3, 4, 5] rfl
        have hD9 := hD.sub (ws' := [(h0, .inr (7, [.ref tl, .ref wa1, .ref wa2, .ref wa3, .ref wa4, .int (nI c), .int sc])), (wa1, .inl (cI, 300, .inl fw1)), (wa2, .inl (cI, 300, .inl fw2)), (wa3, .inl (cI, 300, .inl fw3)), (tl, .inr (5, [.ref ta, .int (nI kt)])), (ta, .inl (cB, 600, .inl ft))]) [0, 1, 2, 3, 4, 5] (by decide) rfl
        exact W.iret (v := r_7) hx hb hr (fun t ht hW => ⟨⟨r_7, (), rfl, trivial, ⟨by rw [ht]; exact hP9, va_K.moved hW.alike hK, hD9⟩⟩, hS.F ht⟩) hS.2.2 dX7_kindBySpelling_56
      · exact False.elim (by revert c_48; decide)
set_option maxHeartbeats 4000000 in
set_option maxRecDepth 100000 in
theorem s_X7_add (l : Launch) (D : va_G) (cB cI cZ : ClassId) (E : pEt) (sz : Nat) (h0 : Nat) (x : Int32) (y : Int32) (z : Int32) (tl : Nat) (wa1 : Nat) (wa2 : Nat) (wa3 : Nat) (wa4 : Nat) (c : Nat) (sc : Int32) (fw1 : Nat → Int32) (fw2 : Nat → Int32) (fw3 : Nat → Int32) (hc : c ≤ 300) : Met l yX7_add (.code yX7_add cX7_add 4 none :: wsL_law) ({ frames := 0, cells := 0, slots := 0, locals := 0 } : Room) (va_Pc [.ref h0, .int x, .int y, .int z] (pInE E D (pT cB cI cZ) sz [(h0, .inr (7, [.ref tl, .ref wa1, .ref wa2, .ref wa3, .ref wa4, .int (nI c), .int sc])), (wa1, .inl (cI, 300, .inl fw1)), (wa2, .inl (cI, 300, .inl fw2)), (wa3, .inl (cI, 300, .inl fw3))])) (va_Qv (fun (u : Nat × (Nat → Int32) × (Nat → Int32) × (Nat → Int32)) => u.1 ≤ 300) (fun (u : Nat × (Nat → Int32) × (Nat → Int32) × (Nat → Int32)) (t : State) => pAt D (pT cB cI cZ) (va_A [(h0, .inr (7, [.ref tl, .ref wa1, .ref wa2, .ref wa3, .ref wa4, .int (nI c), .int sc])), (wa1, .inl (cI, 300, .inl fw1)), (wa2, .inl (cI, 300, .inl fw2)), (wa3, .inl (cI, 300, .inl fw3))] sz) [(h0, .inr (7, [.ref tl, .ref wa1, .ref wa2, .ref wa3, .ref wa4, .int (nI u.1), .int sc])), (wa1, .inl (cI, 300, .inl u.2.1)), (wa2, .inl (cI, 300, .inl u.2.2.1)), (wa3, .inl (cI, 300, .inl u.2.2.2))] t) (va_A [(h0, .inr (7, [.ref tl, .ref wa1, .ref wa2, .ref wa3, .ref wa4, .int (nI c), .int sc])), (wa1, .inl (cI, 300, .inl fw1)), (wa2, .inl (cI, 300, .inl fw2)), (wa3, .inl (cI, 300, .inl fw3))] sz)) 0 0 (va_A [(h0, .inr (7, [.ref tl, .ref wa1, .ref wa2, .ref wa3, .ref wa4, .int (nI c), .int sc])), (wa1, .inl (cI, 300, .inl fw1)), (wa2, .inl (cI, 300, .inl fw2)), (wa3, .inl (cI, 300, .inl fw3))] sz) := by
  refine Met.ofW (cc := cX7_add) (maxL := 4) (ret := none) (by decide) rfl ?_
  intro p e s m args below meth cd s₁ B hml hv
  obtain ⟨rfl, hsz, hP, hK, hD0, hE⟩ := hv
  have hx := B.exec
  have hb := B.bytes
  have hr := B.returns
  have hts0 := atoms_spec (ws := .code yX7_add cX7_add 4 none :: wsL_law) B.pre
  have hts := fun (w : Cond) (h : w ∈ wsL_law) => hts0 w (List.mem_cons_of_mem _ h)
  have hown : s.vm.findClass RX7 = some m.cls := findClass_of_methodNamed B.named
  have hlocks := B.notSynchronized
  have hinX7 := inlX7
  subst hsz
  have hD := hD0.self (sz := s.heap.size)
  generalize hAe : va_A [(h0, .inr (7, [.ref tl, .ref wa1, .ref wa2, .ref wa3, .ref wa4, .int (nI c), .int sc])), (wa1, .inl (cI, 300, .inl fw1)), (wa2, .inl (cI, 300, .inl fw2)), (wa3, .inl (cI, 300, .inl fw3))] s.heap.size = A at hD hE ⊢
  have hA : ∀ q : Nat, s.heap.size ≤ q → A q := fun q h => by rw [← hAe]; exact Or.inr h
  have hS : va_S A s.heap s.heap [] := va_S.rf
  have hP : va_P D vwCl [(h0, .inr (7, [.ref tl, .ref wa1, .ref wa2, .ref wa3, .ref wa4, .int (nI c), .int sc])), (wa1, .inl (cI, 300, .inl fw1)), (wa2, .inl (cI, 300, .inl fw2)), (wa3, .inl (cI, 300, .inl fw3))] s.heap := hP
  have hl := lv_entry ([.ref h0, .int x, .int y, .int z]) (n := 4) (Nat.le_of_ble_eq_true rfl)
  rw [lg_entry_eq]
  generalize (lg_sl ([.ref h0, .int x, .int y, .int z]) ++ List.replicate (4 - (lg_sl ([.ref h0, .int x, .int y, .int z])).length) Slot.unset).toArray = ls at hl ⊢
  have hl : lv_has ls 4 [(0, .ref h0), (1, .int x), (2, .int y), (3, .int z)] := hl
  refine lv_aload_n hx hb dX7_add_0 rfl (lv_at hl 0 rfl) ?_
  refine va_get (D := D) (ci := 7) (v := .int (nI c)) (C := RX7) (T := TX7) (N := 7) hx hb hts hinX7 hown hK hP 0 rfl rfl 5 (by decide) (hts (.fieldLink RX7 33 "TaleReader$Words" "count" "I") (uc3 _ (List.mem_of_getElem? (i := 18) rfl))) (fun _ h9 => h9) rfl dX7_add_1 ?_
  refine lv_sipush (v := 300) hx hb dX7_add_4 (by decide) ?_
  refine lv_icmp_ge (tgt := 50) hx hb dX7_add_7 (by decide) (fun c_1 => ?_) (fun c_1 => ?_)
  · have hP9 := hP.sub (ws' := [(h0, .inr (7, [.ref tl, .ref wa1, .ref wa2, .ref wa3, .ref wa4, .int (nI c), .int sc])), (wa1, .inl (cI, 300, .inl fw1)), (wa2, .inl (cI, 300, .inl fw2)), (wa3, .inl (cI, 300, .inl fw3))]) [0, 1, 2, 3] rfl
    have hD9 := hD.sub (ws' := [(h0, .inr (7, [.ref tl, .ref wa1, .ref wa2, .ref wa3, .ref wa4, .int (nI c), .int sc])), (wa1, .inl (cI, 300, .inl fw1)), (wa2, .inl (cI, 300, .inl fw2)), (wa3, .inl (cI, 300, .inl fw3))]) [0, 1, 2, 3] (by decide) rfl
    exact W.vret hx hb hr (fun t ht hW => ⟨⟨(c, fw1, fw2, fw3), rfl, hc, ⟨by rw [ht]; exact hP9, va_K.moved hW.alike hK, hD9⟩⟩, hS.F ht⟩) hS.2.2 dX7_add_50
  · have hlt_c : c < 300 := Nat.lt_of_not_le (fun q => c_1 (nI_le q (by omega)))
    refine lv_aload_n hx hb dX7_add_10 rfl (lv_at hl 0 rfl) ?_
    refine va_get (D := D) (ci := 7) (v := .ref wa1) (C := RX7) (T := TX7) (N := 7) hx hb hts hinX7 hown hK hP 0 rfl rfl 1 (by decide) (hts (.fieldLink RX7 20 "TaleReader$Words" "places" "[I") (uc3 _ (List.mem_of_getElem? (i := 14) rfl))) (fun _ h9 => h9) rfl dX7_add_11 ?_
    refine lv_aload_n hx hb dX7_add_14 rfl (lv_at hl 0 rfl) ?_
    refine va_get (D := D) (ci := 7) (v := .int (nI c)) (C := RX7) (T := TX7) (N := 7) hx hb hts hinX7 hown hK hP 0 rfl rfl 5 (by decide) (hts (.fieldLink RX7 33 "TaleReader$Words" "count" "I") (uc3 _ (List.mem_of_getElem? (i := 18) rfl))) (fun _ h9 => h9) rfl dX7_add_15 ?_
    refine lv_iload_n hx hb dX7_add_18 rfl (lv_at hl 1 rfl) ?_
    refine va_iast (D := D) hx hb hK hP hD hS 1 1 rfl rfl (vp_in_nI (by omega) (by omega)) dX7_add_19 (fun H_2 L_3 hP hD hS => ?_)
    obtain ⟨g_4, eg_4⟩ : ∃ gg : Nat → Int32, gg = upd fw1 ((nI c)).toNatClampNeg x := ⟨_, rfl⟩
    have hP : va_P D vwCl [(h0, .inr (7, [.ref tl, .ref wa1, .ref wa2, .ref wa3, .ref wa4, .int (nI c), .int sc])), (wa1, .inl (cI, 300, .inl g_4)), (wa2, .inl (cI, 300, .inl fw2)), (wa3, .inl (cI, 300, .inl fw3))] H_2 := by rw [eg_4]; exact hP
    have hD : va_D A [(h0, .inr (7, [.ref tl, .ref wa1, .ref wa2, .ref wa3, .ref wa4, .int (nI c), .int sc])), (wa1, .inl (cI, 300, .inl g_4)), (wa2, .inl (cI, 300, .inl fw2)), (wa3, .inl (cI, 300, .inl fw3))] := by rw [eg_4]; exact hD
    refine lv_aload_n hx hb dX7_add_20 rfl (lv_at hl 0 rfl) ?_
    refine va_get (D := D) (ci := 7) (v := .ref wa2) (C := RX7) (T := TX7) (N := 7) hx hb hts hinX7 hown hK hP 0 rfl rfl 2 (by decide) (hts (.fieldLink RX7 24 "TaleReader$Words" "lengths" "[I") (uc3 _ (List.mem_of_getElem? (i := 15) rfl))) (fun _ h9 => h9) rfl dX7_add_21 ?_
    refine lv_aload_n hx hb dX7_add_24 rfl (lv_at hl 0 rfl) ?_
    refine va_get (D := D) (ci := 7) (v := .int (nI c)) (C := RX7) (T := TX7) (N := 7) hx hb hts hinX7 hown hK hP 0 rfl rfl 5 (by decide) (hts (.fieldLink RX7 33 "TaleReader$Words" "count" "I") (uc3 _ (List.mem_of_getElem? (i := 18) rfl))) (fun _ h9 => h9) rfl dX7_add_25 ?_
    refine lv_iload_n hx hb dX7_add_28 rfl (lv_at hl 2 rfl) ?_
    refine va_iast (D := D) hx hb hK hP hD hS 2 1 rfl rfl (vp_in_nI (by omega) (by omega)) dX7_add_29 (fun H_5 L_6 hP hD hS => ?_)
    obtain ⟨g_7, eg_7⟩ : ∃ gg : Nat → Int32, gg = upd fw2 ((nI c)).toNatClampNeg y := ⟨_, rfl⟩
    have hP : va_P D vwCl [(h0, .inr (7, [.ref tl, .ref wa1, .ref wa2, .ref wa3, .ref wa4, .int (nI c), .int sc])), (wa1, .inl (cI, 300, .inl g_4)), (wa2, .inl (cI, 300, .inl g_7)), (wa3, .inl (cI, 300, .inl fw3))] H_5 := by rw [eg_7]; exact hP
    have hD : va_D A [(h0, .inr (7, [.ref tl, .ref wa1, .ref wa2, .ref wa3, .ref wa4, .int (nI c), .int sc])), (wa1, .inl (cI, 300, .inl g_4)), (wa2, .inl (cI, 300, .inl g_7)), (wa3, .inl (cI, 300, .inl fw3))] := by rw [eg_7]; exact hD
    refine lv_aload_n hx hb dX7_add_30 rfl (lv_at hl 0 rfl) ?_
    refine va_get (D := D) (ci := 7) (v := .ref wa3) (C := RX7) (T := TX7) (N := 7) hx hb hts hinX7 hown hK hP 0 rfl rfl 3 (by decide) (hts (.fieldLink RX7 27 "TaleReader$Words" "sentences" "[I") (uc3 _ (List.mem_of_getElem? (i := 16) rfl))) (fun _ h9 => h9) rfl dX7_add_31 ?_
    refine lv_aload_n hx hb dX7_add_34 rfl (lv_at hl 0 rfl) ?_
    refine va_get (D := D) (ci := 7) (v := .int (nI c)) (C := RX7) (T := TX7) (N := 7) hx hb hts hinX7 hown hK hP 0 rfl rfl 5 (by decide) (hts (.fieldLink RX7 33 "TaleReader$Words" "count" "I") (uc3 _ (List.mem_of_getElem? (i := 18) rfl))) (fun _ h9 => h9) rfl dX7_add_35 ?_
    refine lv_iload_n hx hb dX7_add_38 rfl (lv_at hl 3 rfl) ?_
    refine va_iast (D := D) hx hb hK hP hD hS 3 1 rfl rfl (vp_in_nI (by omega) (by omega)) dX7_add_39 (fun H_8 L_9 hP hD hS => ?_)
    obtain ⟨g_10, eg_10⟩ : ∃ gg : Nat → Int32, gg = upd fw3 ((nI c)).toNatClampNeg z := ⟨_, rfl⟩
    have hP : va_P D vwCl [(h0, .inr (7, [.ref tl, .ref wa1, .ref wa2, .ref wa3, .ref wa4, .int (nI c), .int sc])), (wa1, .inl (cI, 300, .inl g_4)), (wa2, .inl (cI, 300, .inl g_7)), (wa3, .inl (cI, 300, .inl g_10))] H_8 := by rw [eg_10]; exact hP
    have hD : va_D A [(h0, .inr (7, [.ref tl, .ref wa1, .ref wa2, .ref wa3, .ref wa4, .int (nI c), .int sc])), (wa1, .inl (cI, 300, .inl g_4)), (wa2, .inl (cI, 300, .inl g_7)), (wa3, .inl (cI, 300, .inl g_10))] := by rw [eg_10]; exact hD
    refine lv_aload_n hx hb dX7_add_40 rfl (lv_at hl 0 rfl) ?_
    refine lv_dup hx hb dX7_add_41 rfl ?_
    refine va_get (D := D) (ci := 7) (v := .int (nI c)) (C := RX7) (T := TX7) (N := 7) hx hb hts hinX7 hown hK hP 0 rfl rfl 5 (by decide) (hts (.fieldLink RX7 33 "TaleReader$Words" "count" "I") (uc3 _ (List.mem_of_getElem? (i := 18) rfl))) (fun _ h9 => h9) rfl dX7_add_42 ?_
    refine lv_iconst (v := 1) hx hb dX7_add_45 (by decide) ?_
    refine lv_iadd hx hb dX7_add_46 ?_
    refine lv_topi (fun z_11 ez_11 => ?_)
    obtain rfl : z_11 = nI (c + 1) := ez_11.trans (nI_add c 1)
    refine va_put (D := D) (ci := 7) (v := .int (nI (c + 1))) (ty := .int) (C := RX7) (T := TX7) (N := 7) hx hb hts hinX7 tyX7 tyX7_ok nmX7 hown hK hP hD hS 0 rfl rfl 5 (by decide) (hts (.fieldLink RX7 33 "TaleReader$Words" "count" "I") (uc3 _ (List.mem_of_getElem? (i := 18) rfl))) (fun _ h9 => h9) rfl (by decide +kernel) rfl rfl (Nat.le_of_ble_eq_true rfl) dX7_add_47 (fun H_12 L_13 hP hD hS => ?_)
    have hP : va_P D vwCl [(h0, .inr (7, [.ref tl, .ref wa1, .ref wa2, .ref wa3, .ref wa4, .int (nI (c + 1)), .int sc])), (wa1, .inl (cI, 300, .inl g_4)), (wa2, .inl (cI, 300, .inl g_7)), (wa3, .inl (cI, 300, .inl g_10))] H_12 := hP
    have hD : va_D A [(h0, .inr (7, [.ref tl, .ref wa1, .ref wa2, .ref wa3, .ref wa4, .int (nI (c + 1)), .int sc])), (wa1, .inl (cI, 300, .inl g_4)), (wa2, .inl (cI, 300, .inl g_7)), (wa3, .inl (cI, 300, .inl g_10))] := hD
    have hP9 := hP.sub (ws' := [(h0, .inr (7, [.ref tl, .ref wa1, .ref wa2, .ref wa3, .ref wa4, .int (nI (c + 1)), .int sc])), (wa1, .inl (cI, 300, .inl g_4)), (wa2, .inl (cI, 300, .inl g_7)), (wa3, .inl (cI, 300, .inl g_10))]) [0, 1, 2, 3] rfl
    have hD9 := hD.sub (ws' := [(h0, .inr (7, [.ref tl, .ref wa1, .ref wa2, .ref wa3, .ref wa4, .int (nI (c + 1)), .int sc])), (wa1, .inl (cI, 300, .inl g_4)), (wa2, .inl (cI, 300, .inl g_7)), (wa3, .inl (cI, 300, .inl g_10))]) [0, 1, 2, 3] (by decide) rfl
    exact W.vret hx hb hr (fun t ht hW => ⟨⟨(c + 1, g_4, g_7, g_10), rfl, (by omega), ⟨by rw [ht]; exact hP9, va_K.moved hW.alike hK, hD9⟩⟩, hS.F ht⟩) hS.2.2 dX7_add_50
set_option maxHeartbeats 4000000 in
set_option maxRecDepth 100000 in
theorem s_X7_split (l : Launch) (D : va_G) (cB cI cZ : ClassId) (E : pEt) (sz : Nat) (h0 : Nat) (tl : Nat) (wa1 : Nat) (wa2 : Nat) (wa3 : Nat) (wa4 : Nat) (c : Nat) (sc : Int32) (fw1 : Nat → Int32) (fw2 : Nat → Int32) (fw3 : Nat → Int32) (ta : Nat) (kt : Nat) (ft : Nat → Int32) (hc : c ≤ 300) (hkt : kt ≤ 600) : Met l yX7_split (.code yX7_split cX7_split 5 none :: wsL_law) ({ frames := 3, cells := 0, slots := 0, locals := 67 } : Room) (va_Pc [.ref h0] (pInE E D (pT cB cI cZ) sz [(h0, .inr (7, [.ref tl, .ref wa1, .ref wa2, .ref wa3, .ref wa4, .int (nI c), .int sc])), (wa1, .inl (cI, 300, .inl fw1)), (wa2, .inl (cI, 300, .inl fw2)), (wa3, .inl (cI, 300, .inl fw3)), (tl, .inr (5, [.ref ta, .int (nI kt)])), (ta, .inl (cB, 600, .inl ft))])) (va_Qv (fun (u : Nat × (Nat → Int32) × (Nat → Int32) × (Nat → Int32) × Int32) => u.1 ≤ 300) (fun (u : Nat × (Nat → Int32) × (Nat → Int32) × (Nat → Int32) × Int32) (t : State) => pAt D (pT cB cI cZ) (va_A [(h0, .inr (7, [.ref tl, .ref wa1, .ref wa2, .ref wa3, .ref wa4, .int (nI c), .int sc])), (wa1, .inl (cI, 300, .inl fw1)), (wa2, .inl (cI, 300, .inl fw2)), (wa3, .inl (cI, 300, .inl fw3)), (tl, .inr (5, [.ref ta, .int (nI kt)])), (ta, .inl (cB, 600, .inl ft))] sz) [(h0, .inr (7, [.ref tl, .ref wa1, .ref wa2, .ref wa3, .ref wa4, .int (nI u.1), .int u.2.2.2.2])), (wa1, .inl (cI, 300, .inl u.2.1)), (wa2, .inl (cI, 300, .inl u.2.2.1)), (wa3, .inl (cI, 300, .inl u.2.2.2.1)), (tl, .inr (5, [.ref ta, .int (nI kt)])), (ta, .inl (cB, 600, .inl ft))] t) (va_A [(h0, .inr (7, [.ref tl, .ref wa1, .ref wa2, .ref wa3, .ref wa4, .int (nI c), .int sc])), (wa1, .inl (cI, 300, .inl fw1)), (wa2, .inl (cI, 300, .inl fw2)), (wa3, .inl (cI, 300, .inl fw3)), (tl, .inr (5, [.ref ta, .int (nI kt)])), (ta, .inl (cB, 600, .inl ft))] sz)) 0 0 (va_A [(h0, .inr (7, [.ref tl, .ref wa1, .ref wa2, .ref wa3, .ref wa4, .int (nI c), .int sc])), (wa1, .inl (cI, 300, .inl fw1)), (wa2, .inl (cI, 300, .inl fw2)), (wa3, .inl (cI, 300, .inl fw3)), (tl, .inr (5, [.ref ta, .int (nI kt)])), (ta, .inl (cB, 600, .inl ft))] sz) := by
  refine Met.ofW (cc := cX7_split) (maxL := 5) (ret := none) (by decide) rfl ?_
  intro p e s m args below meth cd s₁ B hml hv
  obtain ⟨rfl, hsz, hP, hK, hD0, hE⟩ := hv
  have hx := B.exec
  have hb := B.bytes
  have hr := B.returns
  have hts0 := atoms_spec (ws := .code yX7_split cX7_split 5 none :: wsL_law) B.pre
  have hts := fun (w : Cond) (h : w ∈ wsL_law) => hts0 w (List.mem_cons_of_mem _ h)
  have hown : s.vm.findClass RX7 = some m.cls := findClass_of_methodNamed B.named
  have hlocks := B.notSynchronized
  have hinX7 := inlX7
  subst hsz
  have hD := hD0.self (sz := s.heap.size)
  generalize hAe : va_A [(h0, .inr (7, [.ref tl, .ref wa1, .ref wa2, .ref wa3, .ref wa4, .int (nI c), .int sc])), (wa1, .inl (cI, 300, .inl fw1)), (wa2, .inl (cI, 300, .inl fw2)), (wa3, .inl (cI, 300, .inl fw3)), (tl, .inr (5, [.ref ta, .int (nI kt)])), (ta, .inl (cB, 600, .inl ft))] s.heap.size = A at hD hE ⊢
  have hA : ∀ q : Nat, s.heap.size ≤ q → A q := fun q h => by rw [← hAe]; exact Or.inr h
  have hS : va_S A s.heap s.heap [] := va_S.rf
  have hP : va_P D vwCl [(h0, .inr (7, [.ref tl, .ref wa1, .ref wa2, .ref wa3, .ref wa4, .int (nI c), .int sc])), (wa1, .inl (cI, 300, .inl fw1)), (wa2, .inl (cI, 300, .inl fw2)), (wa3, .inl (cI, 300, .inl fw3)), (tl, .inr (5, [.ref ta, .int (nI kt)])), (ta, .inl (cB, 600, .inl ft))] s.heap := hP
  have hl := lv_entry ([.ref h0]) (n := 5) (Nat.le_of_ble_eq_true rfl)
  rw [lg_entry_eq]
  generalize (lg_sl ([.ref h0]) ++ List.replicate (5 - (lg_sl ([.ref h0])).length) Slot.unset).toArray = ls at hl ⊢
  have hl : lv_has ls 5 [(0, .ref h0)] := hl
  generalize hQ : MQ below _ _ _ _ _ _ = Q
  refine lv_aload_n hx hb dX7_split_0 rfl (lv_at hl 0 rfl) ?_
  refine lv_iconst (v := 0) hx hb dX7_split_1 (by decide) ?_
  refine va_put (D := D) (ci := 7) (v := .int 0) (ty := .int) (C := RX7) (T := TX7) (N := 7) hx hb hts hinX7 tyX7 tyX7_ok nmX7 hown hK hP hD hS 0 rfl rfl 5 (by decide) (hts (.fieldLink RX7 33 "TaleReader$Words" "count" "I") (uc3 _ (List.mem_of_getElem? (i := 18) rfl))) (fun _ h9 => h9) rfl (by decide +kernel) rfl rfl (Nat.le_of_ble_eq_true rfl) dX7_split_2 (fun H_1 L_2 hP hD hS => ?_)
  have hP : va_P D vwCl [(h0, .inr (7, [.ref tl, .ref wa1, .ref wa2, .ref wa3, .ref wa4, .int 0, .int sc])), (wa1, .inl (cI, 300, .inl fw1)), (wa2, .inl (cI, 300, .inl fw2)), (wa3, .inl (cI, 300, .inl fw3)), (tl, .inr (5, [.ref ta, .int (nI kt)])), (ta, .inl (cB, 600, .inl ft))] H_1 := hP
  have hD : va_D A [(h0, .inr (7, [.ref tl, .ref wa1, .ref wa2, .ref wa3, .ref wa4, .int 0, .int sc])), (wa1, .inl (cI, 300, .inl fw1)), (wa2, .inl (cI, 300, .inl fw2)), (wa3, .inl (cI, 300, .inl fw3)), (tl, .inr (5, [.ref ta, .int (nI kt)])), (ta, .inl (cB, 600, .inl ft))] := hD
  refine lv_iconst (v := 0) hx hb dX7_split_5 (by decide) ?_
  refine lv_istore_n (lv' := [(1, .int 0), (0, .ref h0)]) hx hb dX7_split_6 rfl hl (by decide) rfl (fun ls hl => ?_)
  refine lv_iconst (v := 0) hx hb dX7_split_7 (by decide) ?_
  refine lv_istore_n (lv' := [(2, .int 0), (1, .int 0), (0, .ref h0)]) hx hb dX7_split_8 rfl hl (by decide) rfl (fun ls hl => ?_)
  refine lv_iconst (v := 0) hx hb dX7_split_9 (by decide) ?_
  refine lv_istore (lv' := [(4, .int 0), (2, .int 0), (1, .int 0), (0, .ref h0)]) hx hb dX7_split_10 hl (by decide) rfl (fun ls hl => ?_)
  have loop_3 : ∀ (nn_5 : Nat) (X : Nat) (cc : Nat) (g1 : Nat → Int32) (g2 : Nat → Int32) (g3 : Nat → Int32) (v1 : Int32) (v2 : Int32), (X ≤ kt) → (cc ≤ 300) → (kt - X < nn_5) → ∀ (H : Heap) (locs : List Loc) (ls : Array Slot), va_P D vwCl [(h0, .inr (7, [.ref tl, .ref wa1, .ref wa2, .ref wa3, .ref wa4, .int (nI cc), .int sc])), (wa1, .inl (cI, 300, .inl g1)), (wa2, .inl (cI, 300, .inl g2)), (wa3, .inl (cI, 300, .inl g3)), (tl, .inr (5, [.ref ta, .int (nI kt)])), (ta, .inl (cB, 600, .inl ft))] H → va_D A [(h0, .inr (7, [.ref tl, .ref wa1, .ref wa2, .ref wa3, .ref wa4, .int (nI cc), .int sc])), (wa1, .inl (cI, 300, .inl g1)), (wa2, .inl (cI, 300, .inl g2)), (wa3, .inl (cI, 300, .inl g3)), (tl, .inr (5, [.ref ta, .int (nI kt)])), (ta, .inl (cB, 600, .inl ft))] → va_S A s.heap H locs → lv_has ls 5 [(0, .ref h0), (1, .int v1), (2, .int v2), (4, .int (nI X))] → W p l e ({ frames := 3, cells := 0, slots := 0, locals := 67 } : Room) s m ([.ref h0] : List Value).toArray below meth cd H locs 0 0 Q (F0 m 12 ls []) := by
    intro nn_5
    induction nn_5 with
    | zero => intros; exact absurd ‹_ < 0› (Nat.not_lt_zero _)
    | succ nn_5 ih_4 =>
      intro X cc g1 g2 g3 v1 v2 hX hcc hmu H locs ls hP hD hS hl
      refine lv_iload hx hb dX7_split_12 (lv_at hl 3 rfl) ?_
      refine lv_aload_n hx hb dX7_split_14 rfl (lv_at hl 0 rfl) ?_
      refine va_get (D := D) (ci := 7) (v := .ref tl) (C := RX7) (T := TX7) (N := 7) hx hb hts hinX7 hown hK hP 0 rfl rfl 0 (by decide) (hts (.fieldLink RX7 14 "TaleReader$Words" "tale" "LTaleReader$Text;") (uc3 _ (List.mem_of_getElem? (i := 12) rfl))) (fun _ h9 => h9) rfl dX7_split_15 ?_
      have hPc := hP.sub (ws' := [(tl, .inr (5, [.ref ta, .int (nI kt)]))]) [4] rfl
      have hDc := hD.sub (ws' := [(tl, .inr (5, [.ref ta, .int (nI kt)]))]) [4] (by decide) rfl
      have hFc := va_free (wc := [(tl, .inr (5, [.ref ta, .int (nI kt)]))]) hD hS hA [4] rfl
      refine va_calli (va_runV (As := []) (rest := [.int (nI X)]) ⟨hx, hb, hml, hown, hts⟩ (s_X5_size l D cB cI cZ E H.size tl ta (nI kt)) (cwV 0 hts (uV (uc10 _ (List.mem_of_getElem? (i := 10) rfl)) (uc7 _ (List.mem_of_getElem? (i := 22) rfl)) (uc7 _ (List.mem_of_getElem? (i := 23) rfl)) (uc1 _ (List.mem_of_getElem? (i := 14) rfl)) (uc8 _ (List.mem_of_getElem? (i := 0) rfl))) rfl rfl rfl (by decide +kernel) ⟨Nat.le_of_ble_eq_true rfl, Nat.le_of_ble_eq_true rfl⟩) (pVE hE hS hFc hK hPc hDc 0 rfl rfl) rfl rfl hl.1 rfl (lv_room (Nat.le_of_ble_eq_true rfl)) dX7_split_18 ⟨Nat.le_of_ble_eq_true rfl, Nat.le_of_ble_eq_true rfl⟩) hS (fun q _ h => hFc q h) hFc (fun r_6 u t H_7 L_8 ht hvm hw hB hz1 hk1 hS => ?_)
      obtain ⟨hP1, -, hD1⟩ := hB
      rw [ht] at hP1
      obtain ⟨hP, hD⟩ := va_join (wr := [(h0, .inr (7, [.ref tl, .ref wa1, .ref wa2, .ref wa3, .ref wa4, .int (nI cc), .int sc])), (wa1, .inl (cI, 300, .inl g1)), (wa2, .inl (cI, 300, .inl g2)), (wa3, .inl (cI, 300, .inl g3)), (ta, .inl (cB, 600, .inl ft))]) (w1 := [(tl, .inr (5, [.ref ta, .int (nI kt)]))]) hP hD [4] [0, 1, 2, 3, 5] rfl rfl (by decide) (by decide) hk1 hFc hP1 hD1
      have hP : va_P D vwCl [(h0, .inr (7, [.ref tl, .ref wa1, .ref wa2, .ref wa3, .ref wa4, .int (nI cc), .int sc])), (wa1, .inl (cI, 300, .inl g1)), (wa2, .inl (cI, 300, .inl g2)), (wa3, .inl (cI, 300, .inl g3)), (tl, .inr (5, [.ref ta, .int (nI kt)])), (ta, .inl (cB, 600, .inl ft))] H_7 := hP.sub [0, 1, 2, 3, 5, 4] rfl
      have hD : va_D A [(h0, .inr (7, [.ref tl, .ref wa1, .ref wa2, .ref wa3, .ref wa4, .int (nI cc), .int sc])), (wa1, .inl (cI, 300, .inl g1)), (wa2, .inl (cI, 300, .inl g2)), (wa3, .inl (cI, 300, .inl g3)), (tl, .inr (5, [.ref ta, .int (nI kt)])), (ta, .inl (cB, 600, .inl ft))] := hD.sub [0, 1, 2, 3, 5, 4] (by decide) rfl
      try dsimp only at hw
      subst hw
      refine lv_icmp_ge (tgt := 83) hx hb dX7_split_21 (by decide) (fun c_9 => ?_) (fun c_9 => ?_)
      · refine lv_aload_n hx hb dX7_split_83 rfl (lv_at hl 0 rfl) ?_
        refine lv_iload_n hx hb dX7_split_84 rfl (lv_at hl 2 rfl) ?_
        refine lv_if_eq (tgt := 94) hx hb dX7_split_85 (by decide) (fun c_10 => ?_) (fun c_10 => ?_)
        · refine lv_iload_n hx hb dX7_split_94 rfl (lv_at hl 1 rfl) ?_
          refine va_put (D := D) (ci := 7) (v := .int v1) (ty := .int) (C := RX7) (T := TX7) (N := 7) hx hb hts hinX7 tyX7 tyX7_ok nmX7 hown hK hP hD hS 0 rfl rfl 6 (by decide) (hts (.fieldLink RX7 37 "TaleReader$Words" "sentenceCount" "I") (uc3 _ (List.mem_of_getElem? (i := 19) rfl))) (fun _ h9 => h9) rfl (by decide +kernel) rfl rfl (Nat.le_of_ble_eq_true rfl) dX7_split_95 (fun H_11 L_12 hP hD hS => ?_)
          have hP : va_P D vwCl [(h0, .inr (7, [.ref tl, .ref wa1, .ref wa2, .ref wa3, .ref wa4, .int (nI cc), .int v1])), (wa1, .inl (cI, 300, .inl g1)), (wa2, .inl (cI, 300, .inl g2)), (wa3, .inl (cI, 300, .inl g3)), (tl, .inr (5, [.ref ta, .int (nI kt)])), (ta, .inl (cB, 600, .inl ft))] H_11 := hP
          have hD : va_D A [(h0, .inr (7, [.ref tl, .ref wa1, .ref wa2, .ref wa3, .ref wa4, .int (nI cc), .int v1])), (wa1, .inl (cI, 300, .inl g1)), (wa2, .inl (cI, 300, .inl g2)), (wa3, .inl (cI, 300, .inl g3)), (tl, .inr (5, [.ref ta, .int (nI kt)])), (ta, .inl (cB, 600, .inl ft))] := hD
          have hP9 := hP.sub (ws' := [(h0, .inr (7, [.ref tl, .ref wa1, .ref wa2, .ref wa3, .ref wa4, .int (nI cc), .int v1])), (wa1, .inl (cI, 300, .inl g1)), (wa2, .inl (cI, 300, .inl g2)), (wa3, .inl (cI, 300, .inl g3)), (tl, .inr (5, [.ref ta, .int (nI kt)])), (ta, .inl (cB, 600, .inl ft))]) [0, 1, 2, 3, 4, 5] rfl
          have hD9 := hD.sub (ws' := [(h0, .inr (7, [.ref tl, .ref wa1, .ref wa2, .ref wa3, .ref wa4, .int (nI cc), .int v1])), (wa1, .inl (cI, 300, .inl g1)), (wa2, .inl (cI, 300, .inl g2)), (wa3, .inl (cI, 300, .inl g3)), (tl, .inr (5, [.ref ta, .int (nI kt)])), (ta, .inl (cB, 600, .inl ft))]) [0, 1, 2, 3, 4, 5] (by decide) rfl
          rw [← hQ]
          exact W.vret hx hb hr (fun t ht hW => ⟨⟨(cc, g1, g2, g3, v1), rfl, (by omega), ⟨by rw [ht]; exact hP9, va_K.moved hW.alike hK, hD9⟩⟩, hS.F ht⟩) hS.2.2 dX7_split_98
        · refine lv_iload_n hx hb dX7_split_88 rfl (lv_at hl 1 rfl) ?_
          refine lv_iconst (v := 1) hx hb dX7_split_89 (by decide) ?_
          refine lv_iadd hx hb dX7_split_90 ?_
          refine lv_topi (fun v_13 ev_13 => ?_)
          refine lv_goto (tgt := 95) hx hb dX7_split_91 (by decide) ?_
          refine va_put (D := D) (ci := 7) (v := .int v_13) (ty := .int) (C := RX7) (T := TX7) (N := 7) hx hb hts hinX7 tyX7 tyX7_ok nmX7 hown hK hP hD hS 0 rfl rfl 6 (by decide) (hts (.fieldLink RX7 37 "TaleReader$Words" "sentenceCount" "I") (uc3 _ (List.mem_of_getElem? (i := 19) rfl))) (fun _ h9 => h9) rfl (by decide +kernel) rfl rfl (Nat.le_of_ble_eq_true rfl) dX7_split_95 (fun H_14 L_15 hP hD hS => ?_)
          have hP : va_P D vwCl [(h0, .inr (7, [.ref tl, .ref wa1, .ref wa2, .ref wa3, .ref wa4, .int (nI cc), .int v_13])), (wa1, .inl (cI, 300, .inl g1)), (wa2, .inl (cI, 300, .inl g2)), (wa3, .inl (cI, 300, .inl g3)), (tl, .inr (5, [.ref ta, .int (nI kt)])), (ta, .inl (cB, 600, .inl ft))] H_14 := hP
          have hD : va_D A [(h0, .inr (7, [.ref tl, .ref wa1, .ref wa2, .ref wa3, .ref wa4, .int (nI cc), .int v_13])), (wa1, .inl (cI, 300, .inl g1)), (wa2, .inl (cI, 300, .inl g2)), (wa3, .inl (cI, 300, .inl g3)), (tl, .inr (5, [.ref ta, .int (nI kt)])), (ta, .inl (cB, 600, .inl ft))] := hD
          have hP9 := hP.sub (ws' := [(h0, .inr (7, [.ref tl, .ref wa1, .ref wa2, .ref wa3, .ref wa4, .int (nI cc), .int v_13])), (wa1, .inl (cI, 300, .inl g1)), (wa2, .inl (cI, 300, .inl g2)), (wa3, .inl (cI, 300, .inl g3)), (tl, .inr (5, [.ref ta, .int (nI kt)])), (ta, .inl (cB, 600, .inl ft))]) [0, 1, 2, 3, 4, 5] rfl
          have hD9 := hD.sub (ws' := [(h0, .inr (7, [.ref tl, .ref wa1, .ref wa2, .ref wa3, .ref wa4, .int (nI cc), .int v_13])), (wa1, .inl (cI, 300, .inl g1)), (wa2, .inl (cI, 300, .inl g2)), (wa3, .inl (cI, 300, .inl g3)), (tl, .inr (5, [.ref ta, .int (nI kt)])), (ta, .inl (cB, 600, .inl ft))]) [0, 1, 2, 3, 4, 5] (by decide) rfl
          rw [← hQ]
          exact W.vret hx hb hr (fun t ht hW => ⟨⟨(cc, g1, g2, g3, v_13), rfl, (by omega), ⟨by rw [ht]; exact hP9, va_K.moved hW.alike hK, hD9⟩⟩, hS.F ht⟩) hS.2.2 dX7_split_98
      · have hlt_X : X < kt := Nat.lt_of_not_le (fun q => c_9 (nI_le q (by omega)))
        refine lv_aload_n hx hb dX7_split_24 rfl (lv_at hl 0 rfl) ?_
        refine va_get (D := D) (ci := 7) (v := .ref tl) (C := RX7) (T := TX7) (N := 7) hx hb hts hinX7 hown hK hP 0 rfl rfl 0 (by decide) (hts (.fieldLink RX7 14 "TaleReader$Words" "tale" "LTaleReader$Text;") (uc3 _ (List.mem_of_getElem? (i := 12) rfl))) (fun _ h9 => h9) rfl dX7_split_25 ?_
        refine lv_iload hx hb dX7_split_28 (lv_at hl 3 rfl) ?_
        have hPc := hP.sub (ws' := [(tl, .inr (5, [.ref ta, .int (nI kt)])), (ta, .inl (cB, 600, .inl ft))]) [4, 5] rfl
        have hDc := hD.sub (ws' := [(tl, .inr (5, [.ref ta, .int (nI kt)])), (ta, .inl (cB, 600, .inl ft))]) [4, 5] (by decide) rfl
        have hFc := va_free (wc := [(tl, .inr (5, [.ref ta, .int (nI kt)])), (ta, .inl (cB, 600, .inl ft))]) hD hS hA [4, 5] rfl
        refine va_calli (va_runV (As := [.int (nI X)]) (rest := []) ⟨hx, hb, hml, hown, hts⟩ (s_X5_lettersFrom l D cB cI cZ E H_7.size tl ta 600 kt ft X (by first | assumption | omega) (by first | assumption | omega) (by first | assumption | omega)) (cwV 1 hts (uV (uc10 _ (List.mem_of_getElem? (i := 11) rfl)) (uc10 _ (List.mem_of_getElem? (i := 12) rfl)) (uc10 _ (List.mem_of_getElem? (i := 13) rfl)) (uc1 _ (List.mem_of_getElem? (i := 14) rfl)) (uc10 _ (List.mem_of_getElem? (i := 14) rfl))) rfl rfl rfl (by decide +kernel) ⟨Nat.le_of_ble_eq_true rfl, Nat.le_of_ble_eq_true rfl⟩) (pVE hE hS hFc hK hPc hDc 0 rfl rfl) rfl rfl hl.1 rfl (lv_room (Nat.le_of_ble_eq_true rfl)) dX7_split_30 ⟨Nat.le_of_ble_eq_true rfl, Nat.le_of_ble_eq_true rfl⟩) hS (fun q _ h => hFc q h) hFc (fun r_16 u t H_17 L_18 ht hvm hw hB hz1 hk1 hS => ?_)
        obtain ⟨L_19, rfl⟩ : ∃ z, z = u := ⟨_, rfl⟩
        obtain ⟨hP1, -, hD1⟩ := hB
        rw [ht] at hP1
        obtain ⟨hP, hD⟩ := va_join (wr := [(h0, .inr (7, [.ref tl, .ref wa1, .ref wa2, .ref wa3, .ref wa4, .int (nI cc), .int sc])), (wa1, .inl (cI, 300, .inl g1)), (wa2, .inl (cI, 300, .inl g2)), (wa3, .inl (cI, 300, .inl g3))]) (w1 := [(tl, .inr (5, [.ref ta, .int (nI kt)])), (ta, .inl (cB, 600, .inl ft))]) hP hD [4, 5] [0, 1, 2, 3] rfl rfl (by decide) (by decide) hk1 hFc hP1 hD1
        have hP : va_P D vwCl [(h0, .inr (7, [.ref tl, .ref wa1, .ref wa2, .ref wa3, .ref wa4, .int (nI cc), .int sc])), (wa1, .inl (cI, 300, .inl g1)), (wa2, .inl (cI, 300, .inl g2)), (wa3, .inl (cI, 300, .inl g3)), (tl, .inr (5, [.ref ta, .int (nI kt)])), (ta, .inl (cB, 600, .inl ft))] H_17 := hP.sub [0, 1, 2, 3, 4, 5] rfl
        have hD : va_D A [(h0, .inr (7, [.ref tl, .ref wa1, .ref wa2, .ref wa3, .ref wa4, .int (nI cc), .int sc])), (wa1, .inl (cI, 300, .inl g1)), (wa2, .inl (cI, 300, .inl g2)), (wa3, .inl (cI, 300, .inl g3)), (tl, .inr (5, [.ref ta, .int (nI kt)])), (ta, .inl (cB, 600, .inl ft))] := hD.sub [0, 1, 2, 3, 4, 5] (by decide) rfl
        try dsimp only at hw
        obtain ⟨rfl, h_20⟩ := hw
        have hXL := h_20
        refine lv_istore_n (lv' := [(3, .int (nI L_19)), (0, .ref h0), (1, .int v1), (2, .int v2), (4, .int (nI X))]) hx hb dX7_split_33 rfl hl (by decide) rfl (fun ls hl => ?_)
        refine lv_iload_n hx hb dX7_split_34 rfl (lv_at hl 0 rfl) ?_
        refine lv_if_le (tgt := 51) hx hb dX7_split_35 (by decide) (fun c_21 => ?_) (fun c_21 => ?_)
        · refine lv_aload_n hx hb dX7_split_51 rfl (lv_at hl 1 rfl) ?_
          refine va_get (D := D) (ci := 7) (v := .ref tl) (C := RX7) (T := TX7) (N := 7) hx hb hts hinX7 hown hK hP 0 rfl rfl 0 (by decide) (hts (.fieldLink RX7 14 "TaleReader$Words" "tale" "LTaleReader$Text;") (uc3 _ (List.mem_of_getElem? (i := 12) rfl))) (fun _ h9 => h9) rfl dX7_split_52 ?_
          refine lv_iload hx hb dX7_split_55 (lv_at hl 4 rfl) ?_
          have hPc := hP.sub (ws' := [(tl, .inr (5, [.ref ta, .int (nI kt)])), (ta, .inl (cB, 600, .inl ft))]) [4, 5] rfl
          have hDc := hD.sub (ws' := [(tl, .inr (5, [.ref ta, .int (nI kt)])), (ta, .inl (cB, 600, .inl ft))]) [4, 5] (by decide) rfl
          have hFc := va_free (wc := [(tl, .inr (5, [.ref ta, .int (nI kt)])), (ta, .inl (cB, 600, .inl ft))]) hD hS hA [4, 5] rfl
          refine va_calli (va_runV (As := [.int (nI X)]) (rest := []) ⟨hx, hb, hml, hown, hts⟩ (s_X5_signAt l D cB cI cZ E H_17.size tl ta 600 kt ft (nI X) (by first | assumption | omega) (by first | assumption | omega)) (cwV 1 hts (uV (uc10 _ (List.mem_of_getElem? (i := 23) rfl)) (uc9 _ (List.mem_of_getElem? (i := 22) rfl)) (uc9 _ (List.mem_of_getElem? (i := 23) rfl)) (uc1 _ (List.mem_of_getElem? (i := 14) rfl)) (uc10 _ (List.mem_of_getElem? (i := 0) rfl))) rfl rfl rfl (by decide +kernel) ⟨Nat.le_of_ble_eq_true rfl, Nat.le_of_ble_eq_true rfl⟩) (pVE hE hS hFc hK hPc hDc 0 rfl rfl) rfl rfl hl.1 rfl (lv_room (Nat.le_of_ble_eq_true rfl)) dX7_split_57 ⟨Nat.le_of_ble_eq_true rfl, Nat.le_of_ble_eq_true rfl⟩) hS (fun q _ h => hFc q h) hFc (fun r_22 u t H_23 L_24 ht hvm hw hB hz1 hk1 hS => ?_)
          obtain ⟨hP1, -, hD1⟩ := hB
          rw [ht] at hP1
          obtain ⟨hP, hD⟩ := va_join (wr := [(h0, .inr (7, [.ref tl, .ref wa1, .ref wa2, .ref wa3, .ref wa4, .int (nI cc), .int sc])), (wa1, .inl (cI, 300, .inl g1)), (wa2, .inl (cI, 300, .inl g2)), (wa3, .inl (cI, 300, .inl g3))]) (w1 := [(tl, .inr (5, [.ref ta, .int (nI kt)])), (ta, .inl (cB, 600, .inl ft))]) hP hD [4, 5] [0, 1, 2, 3] rfl rfl (by decide) (by decide) hk1 hFc hP1 hD1
          have hP : va_P D vwCl [(h0, .inr (7, [.ref tl, .ref wa1, .ref wa2, .ref wa3, .ref wa4, .int (nI cc), .int sc])), (wa1, .inl (cI, 300, .inl g1)), (wa2, .inl (cI, 300, .inl g2)), (wa3, .inl (cI, 300, .inl g3)), (tl, .inr (5, [.ref ta, .int (nI kt)])), (ta, .inl (cB, 600, .inl ft))] H_23 := hP.sub [0, 1, 2, 3, 4, 5] rfl
          have hD : va_D A [(h0, .inr (7, [.ref tl, .ref wa1, .ref wa2, .ref wa3, .ref wa4, .int (nI cc), .int sc])), (wa1, .inl (cI, 300, .inl g1)), (wa2, .inl (cI, 300, .inl g2)), (wa3, .inl (cI, 300, .inl g3)), (tl, .inr (5, [.ref ta, .int (nI kt)])), (ta, .inl (cB, 600, .inl ft))] := hD.sub [0, 1, 2, 3, 4, 5] (by decide) rfl
          try dsimp only at hw
          refine lv_bipush (v := 46) hx hb dX7_split_60 (by decide) ?_
          refine lv_icmp_ne (tgt := 70) hx hb dX7_split_62 (by decide) (fun c_25 => ?_) (fun c_25 => ?_)
          · refine lv_iload hx hb dX7_split_70 (lv_at hl 4 rfl) ?_
            refine lv_iload_n hx hb dX7_split_72 rfl (lv_at hl 0 rfl) ?_
            refine lv_iconst (v := 1) hx hb dX7_split_73 (by decide) ?_
            refine va_mmax hx hb (by rw [hml]; exact hl.1.symm) hown (hts (.methodLink RX7 72 Lib.Math.max.name) (uc10 _ (List.mem_of_getElem? (i := 9) rfl))) (hts (.static Lib.Math.max.name) (uc3 _ (List.mem_of_getElem? (i := 1) rfl))) (hts (.initialized "java/lang/Math") (uc3 _ (List.mem_of_getElem? (i := 2) rfl))) (hts (.code Lib.Math.max.name Lib.Math.max.code 2 (some .int)) (uc3 _ (List.mem_of_getElem? (i := 3) rfl))) (Nat.le_of_ble_eq_true rfl) (Nat.le_of_ble_eq_true rfl) (Nat.le_of_ble_eq_true rfl) (Nat.le_of_ble_eq_true rfl) dX7_split_74 ?_
            obtain ⟨M, hM, hM1, hM2⟩ := pMax1 hXL (by omega) hlt_X
            refine lv_topi (fun z_26 ez_26 => ?_)
            obtain rfl : z_26 = nI M := ez_26.trans (hM)
            refine lv_iadd hx hb dX7_split_77 ?_
            refine lv_topi (fun z_27 ez_27 => ?_)
            obtain rfl : z_27 = nI (X + M) := ez_27.trans (nI_add X M)
            refine lv_istore (lv' := [(4, .int (nI (X + M))), (3, .int (nI L_19)), (0, .ref h0), (1, .int v1), (2, .int v2)]) hx hb dX7_split_78 hl (by decide) rfl (fun ls hl => ?_)
            refine lv_goto (tgt := 12) hx hb dX7_split_80 (by decide) ?_
            exact ih_4 (X + M) cc g1 g2 g3 v1 v2 (by first | assumption | exact Or.inl rfl | exact Or.inr rfl | omega) (by first | assumption | exact Or.inl rfl | exact Or.inr rfl | omega) (by omega) H_23 _ ls (hP.sub (ws' := [(h0, .inr (7, [.ref tl, .ref wa1, .ref wa2, .ref wa3, .ref wa4, .int (nI cc), .int sc])), (wa1, .inl (cI, 300, .inl g1)), (wa2, .inl (cI, 300, .inl g2)), (wa3, .inl (cI, 300, .inl g3)), (tl, .inr (5, [.ref ta, .int (nI kt)])), (ta, .inl (cB, 600, .inl ft))]) [0, 1, 2, 3, 4, 5] rfl) (hD.sub (ws' := [(h0, .inr (7, [.ref tl, .ref wa1, .ref wa2, .ref wa3, .ref wa4, .int (nI cc), .int sc])), (wa1, .inl (cI, 300, .inl g1)), (wa2, .inl (cI, 300, .inl g2)), (wa3, .inl (cI, 300, .inl g3)), (tl, .inr (5, [.ref ta, .int (nI kt)])), (ta, .inl (cB, 600, .inl ft))]) [0, 1, 2, 3, 4, 5] (by decide) rfl) hS (lv_sub hl [2, 3, 4, 0] rfl)
          · refine lv_iinc (v := v1 + 1) (lv' := [(1, .int (v1 + 1)), (3, .int (nI L_19)), (0, .ref h0), (2, .int v2), (4, .int (nI X))]) hx hb dX7_split_65 hl (k := 2) rfl (rfl) (by decide) rfl (fun ls hl => ?_)
            refine lv_iconst (v := 0) hx hb dX7_split_68 (by decide) ?_
            refine lv_istore_n (lv' := [(2, .int 0), (1, .int (v1 + 1)), (3, .int (nI L_19)), (0, .ref h0), (4, .int (nI X))]) hx hb dX7_split_69 rfl hl (by decide) rfl (fun ls hl => ?_)
            refine lv_iload hx hb dX7_split_70 (lv_at hl 4 rfl) ?_
            refine lv_iload_n hx hb dX7_split_72 rfl (lv_at hl 2 rfl) ?_
            refine lv_iconst (v := 1) hx hb dX7_split_73 (by decide) ?_
            refine va_mmax hx hb (by rw [hml]; exact hl.1.symm) hown (hts (.methodLink RX7 72 Lib.Math.max.name) (uc10 _ (List.mem_of_getElem? (i := 9) rfl))) (hts (.static Lib.Math.max.name) (uc3 _ (List.mem_of_getElem? (i := 1) rfl))) (hts (.initialized "java/lang/Math") (uc3 _ (List.mem_of_getElem? (i := 2) rfl))) (hts (.code Lib.Math.max.name Lib.Math.max.code 2 (some .int)) (uc3 _ (List.mem_of_getElem? (i := 3) rfl))) (Nat.le_of_ble_eq_true rfl) (Nat.le_of_ble_eq_true rfl) (Nat.le_of_ble_eq_true rfl) (Nat.le_of_ble_eq_true rfl) dX7_split_74 ?_
            obtain ⟨M, hM, hM1, hM2⟩ := pMax1 hXL (by omega) hlt_X
            refine lv_topi (fun z_28 ez_28 => ?_)
            obtain rfl : z_28 = nI M := ez_28.trans (hM)
            refine lv_iadd hx hb dX7_split_77 ?_
            refine lv_topi (fun z_29 ez_29 => ?_)
            obtain rfl : z_29 = nI (X + M) := ez_29.trans (nI_add X M)
            refine lv_istore (lv' := [(4, .int (nI (X + M))), (2, .int 0), (1, .int (v1 + 1)), (3, .int (nI L_19)), (0, .ref h0)]) hx hb dX7_split_78 hl (by decide) rfl (fun ls hl => ?_)
            refine lv_goto (tgt := 12) hx hb dX7_split_80 (by decide) ?_
            exact ih_4 (X + M) cc g1 g2 g3 (v1 + 1) 0 (by first | assumption | exact Or.inl rfl | exact Or.inr rfl | omega) (by first | assumption | exact Or.inl rfl | exact Or.inr rfl | omega) (by omega) H_23 _ ls (hP.sub (ws' := [(h0, .inr (7, [.ref tl, .ref wa1, .ref wa2, .ref wa3, .ref wa4, .int (nI cc), .int sc])), (wa1, .inl (cI, 300, .inl g1)), (wa2, .inl (cI, 300, .inl g2)), (wa3, .inl (cI, 300, .inl g3)), (tl, .inr (5, [.ref ta, .int (nI kt)])), (ta, .inl (cB, 600, .inl ft))]) [0, 1, 2, 3, 4, 5] rfl) (hD.sub (ws' := [(h0, .inr (7, [.ref tl, .ref wa1, .ref wa2, .ref wa3, .ref wa4, .int (nI cc), .int sc])), (wa1, .inl (cI, 300, .inl g1)), (wa2, .inl (cI, 300, .inl g2)), (wa3, .inl (cI, 300, .inl g3)), (tl, .inr (5, [.ref ta, .int (nI kt)])), (ta, .inl (cB, 600, .inl ft))]) [0, 1, 2, 3, 4, 5] (by decide) rfl) hS (lv_sub hl [4, 2, 1, 0] rfl)
        · refine lv_aload_n hx hb dX7_split_38 rfl (lv_at hl 1 rfl) ?_
          refine lv_iload hx hb dX7_split_39 (lv_at hl 4 rfl) ?_
          refine lv_iload_n hx hb dX7_split_41 rfl (lv_at hl 0 rfl) ?_
          refine lv_iload_n hx hb dX7_split_42 rfl (lv_at hl 2 rfl) ?_
          have hPc := hP.sub (ws' := [(h0, .inr (7, [.ref tl, .ref wa1, .ref wa2, .ref wa3, .ref wa4, .int (nI cc), .int sc])), (wa1, .inl (cI, 300, .inl g1)), (wa2, .inl (cI, 300, .inl g2)), (wa3, .inl (cI, 300, .inl g3))]) [0, 1, 2, 3] rfl
          have hDc := hD.sub (ws' := [(h0, .inr (7, [.ref tl, .ref wa1, .ref wa2, .ref wa3, .ref wa4, .int (nI cc), .int sc])), (wa1, .inl (cI, 300, .inl g1)), (wa2, .inl (cI, 300, .inl g2)), (wa3, .inl (cI, 300, .inl g3))]) [0, 1, 2, 3] (by decide) rfl
          have hFc := va_free (wc := [(h0, .inr (7, [.ref tl, .ref wa1, .ref wa2, .ref wa3, .ref wa4, .int (nI cc), .int sc])), (wa1, .inl (cI, 300, .inl g1)), (wa2, .inl (cI, 300, .inl g2)), (wa3, .inl (cI, 300, .inl g3))]) hD hS hA [0, 1, 2, 3] rfl
          refine va_callv (va_runV (As := [.int (nI X), .int (nI L_19), .int v1]) (rest := []) ⟨hx, hb, hml, hown, hts⟩ (s_X7_add l D cB cI cZ E H_17.size h0 (nI X) (nI L_19) v1 tl wa1 wa2 wa3 wa4 cc sc g1 g2 g3 (by first | assumption | omega)) (cwV 3 hts (uV (uc10 _ (List.mem_of_getElem? (i := 19) rfl)) (uc10 _ (List.mem_of_getElem? (i := 20) rfl)) (uc10 _ (List.mem_of_getElem? (i := 21) rfl)) (uc1 _ (List.mem_of_getElem? (i := 18) rfl)) (uc10 _ (List.mem_of_getElem? (i := 22) rfl))) rfl rfl rfl (by decide +kernel) ⟨Nat.le_of_ble_eq_true rfl, Nat.le_of_ble_eq_true rfl⟩) (pVE hE hS hFc hK hPc hDc 0 rfl rfl) rfl rfl hl.1 rfl (lv_room (Nat.le_of_ble_eq_true rfl)) dX7_split_43 ⟨Nat.le_of_ble_eq_true rfl, Nat.le_of_ble_eq_true rfl⟩) hS (fun q _ h => hFc q h) hFc (fun u t H_31 L_32 ht hvm hw hB hz1 hk1 hS => ?_)
          obtain ⟨c_33, fw1_34, fw2_35, fw3_36⟩ := u
          obtain ⟨hP1, -, hD1⟩ := hB
          rw [ht] at hP1
          obtain ⟨hP, hD⟩ := va_join (wr := [(tl, .inr (5, [.ref ta, .int (nI kt)])), (ta, .inl (cB, 600, .inl ft))]) (w1 := [(h0, .inr (7, [.ref tl, .ref wa1, .ref wa2, .ref wa3, .ref wa4, .int (nI c_33), .int sc])), (wa1, .inl (cI, 300, .inl fw1_34)), (wa2, .inl (cI, 300, .inl fw2_35)), (wa3, .inl (cI, 300, .inl fw3_36))]) hP hD [0, 1, 2, 3] [4, 5] rfl rfl (by decide) (by decide) hk1 hFc hP1 hD1
          have hP : va_P D vwCl [(h0, .inr (7, [.ref tl, .ref wa1, .ref wa2, .ref wa3, .ref wa4, .int (nI c_33), .int sc])), (wa1, .inl (cI, 300, .inl fw1_34)), (wa2, .inl (cI, 300, .inl fw2_35)), (wa3, .inl (cI, 300, .inl fw3_36)), (tl, .inr (5, [.ref ta, .int (nI kt)])), (ta, .inl (cB, 600, .inl ft))] H_31 := hP.sub [2, 3, 4, 5, 0, 1] rfl
          have hD : va_D A [(h0, .inr (7, [.ref tl, .ref wa1, .ref wa2, .ref wa3, .ref wa4, .int (nI c_33), .int sc])), (wa1, .inl (cI, 300, .inl fw1_34)), (wa2, .inl (cI, 300, .inl fw2_35)), (wa3, .inl (cI, 300, .inl fw3_36)), (tl, .inr (5, [.ref ta, .int (nI kt)])), (ta, .inl (cB, 600, .inl ft))] := hD.sub [2, 3, 4, 5, 0, 1] (by decide) rfl
          try dsimp only at hw
          have h_37 := hw
          refine lv_iconst (v := 1) hx hb dX7_split_46 (by decide) ?_
          refine lv_istore_n (lv' := [(2, .int 1), (3, .int (nI L_19)), (0, .ref h0), (1, .int v1), (4, .int (nI X))]) hx hb dX7_split_47 rfl hl (by decide) rfl (fun ls hl => ?_)
          refine lv_goto (tgt := 70) hx hb dX7_split_48 (by decide) ?_
          refine lv_iload hx hb dX7_split_70 (lv_at hl 4 rfl) ?_
          refine lv_iload_n hx hb dX7_split_72 rfl (lv_at hl 1 rfl) ?_
          refine lv_iconst (v := 1) hx hb dX7_split_73 (by decide) ?_
          refine va_mmax hx hb (by rw [hml]; exact hl.1.symm) hown (hts (.methodLink RX7 72 Lib.Math.max.name) (uc10 _ (List.mem_of_getElem? (i := 9) rfl))) (hts (.static Lib.Math.max.name) (uc3 _ (List.mem_of_getElem? (i := 1) rfl))) (hts (.initialized "java/lang/Math") (uc3 _ (List.mem_of_getElem? (i := 2) rfl))) (hts (.code Lib.Math.max.name Lib.Math.max.code 2 (some .int)) (uc3 _ (List.mem_of_getElem? (i := 3) rfl))) (Nat.le_of_ble_eq_true rfl) (Nat.le_of_ble_eq_true rfl) (Nat.le_of_ble_eq_true rfl) (Nat.le_of_ble_eq_true rfl) dX7_split_74 ?_
          obtain ⟨M, hM, hM1, hM2⟩ := pMax1 hXL (by omega) hlt_X
          refine lv_topi (fun z_38 ez_38 => ?_)
          obtain rfl : z_38 = nI M := ez_38.trans (hM)
          refine lv_iadd hx hb dX7_split_77 ?_
          refine lv_topi (fun z_39 ez_39 => ?_)
          obtain rfl : z_39 = nI (X + M) := ez_39.trans (nI_add X M)
          refine lv_istore (lv' := [(4, .int (nI (X + M))), (2, .int 1), (3, .int (nI L_19)), (0, .ref h0), (1, .int v1)]) hx hb dX7_split_78 hl (by decide) rfl (fun ls hl => ?_)
          refine lv_goto (tgt := 12) hx hb dX7_split_80 (by decide) ?_
          exact ih_4 (X + M) c_33 fw1_34 fw2_35 fw3_36 v1 1 (by first | assumption | exact Or.inl rfl | exact Or.inr rfl | omega) (by first | assumption | exact Or.inl rfl | exact Or.inr rfl | omega) (by omega) H_31 _ ls (hP.sub (ws' := [(h0, .inr (7, [.ref tl, .ref wa1, .ref wa2, .ref wa3, .ref wa4, .int (nI c_33), .int sc])), (wa1, .inl (cI, 300, .inl fw1_34)), (wa2, .inl (cI, 300, .inl fw2_35)), (wa3, .inl (cI, 300, .inl fw3_36)), (tl, .inr (5, [.ref ta, .int (nI kt)])), (ta, .inl (cB, 600, .inl ft))]) [0, 1, 2, 3, 4, 5] rfl) (hD.sub (ws' := [(h0, .inr (7, [.ref tl, .ref wa1, .ref wa2, .ref wa3, .ref wa4, .int (nI c_33), .int sc])), (wa1, .inl (cI, 300, .inl fw1_34)), (wa2, .inl (cI, 300, .inl fw2_35)), (wa3, .inl (cI, 300, .inl fw3_36)), (tl, .inr (5, [.ref ta, .int (nI kt)])), (ta, .inl (cB, 600, .inl ft))]) [0, 1, 2, 3, 4, 5] (by decide) rfl) hS (lv_sub hl [3, 4, 1, 0] rfl)
  exact loop_3 _ 0 0 fw1 fw2 fw3 0 0 (by first | assumption | exact Or.inl rfl | exact Or.inr rfl | omega) (by first | assumption | exact Or.inl rfl | exact Or.inr rfl | omega) (Nat.lt_succ_self _) H_1 _ ls (hP.sub (ws' := [(h0, .inr (7, [.ref tl, .ref wa1, .ref wa2, .ref wa3, .ref wa4, .int (nI 0), .int sc])), (wa1, .inl (cI, 300, .inl fw1)), (wa2, .inl (cI, 300, .inl fw2)), (wa3, .inl (cI, 300, .inl fw3)), (tl, .inr (5, [.ref ta, .int (nI kt)])), (ta, .inl (cB, 600, .inl ft))]) [0, 1, 2, 3, 4, 5] rfl) (hD.sub (ws' := [(h0, .inr (7, [.ref tl, .ref wa1, .ref wa2, .ref wa3, .ref wa4, .int (nI 0), .int sc])), (wa1, .inl (cI, 300, .inl fw1)), (wa2, .inl (cI, 300, .inl fw2)), (wa3, .inl (cI, 300, .inl fw3)), (tl, .inr (5, [.ref ta, .int (nI kt)])), (ta, .inl (cB, 600, .inl ft))]) [0, 1, 2, 3, 4, 5] (by decide) rfl) hS (lv_sub hl [3, 2, 1, 0] rfl)
set_option maxHeartbeats 4000000 in
set_option maxRecDepth 100000 in
theorem s_X7_take (l : Launch) (D : va_G) (cB cI cZ : ClassId) (E : pEt) (sz : Nat) (h0 : Nat) (h1 : Nat) (tl : Nat) (wa1 : Nat) (wa2 : Nat) (wa3 : Nat) (wa4 : Nat) (c : Nat) (sc : Int32) (fw1 : Nat → Int32) (fw2 : Nat → Int32) (fw3 : Nat → Int32) (fw4 : Nat → Int32) (ta : Nat) (kt : Nat) (ft : Nat → Int32) (a1 : Nat) (k1 : Nat) (n1 : Nat) (f1 : Nat → Int32) (hc : c ≤ 300) (hkt : kt ≤ 600) (hk1 : k1 ≤ n1) (hn1 : n1 ≤ 600) : Met l yX7_take (.code yX7_take cX7_take 3 none :: wsL_law) ({ frames := 8, cells := 0, slots := 0, locals := 183 } : Room) (va_Pc [.ref h0, .ref h1] (pInE E D (pT cB cI cZ) sz [(h0, .inr (7, [.ref tl, .ref wa1, .ref wa2, .ref wa3, .ref wa4, .int (nI c), .int sc])), (wa1, .inl (cI, 300, .inl fw1)), (wa2, .inl (cI, 300, .inl fw2)), (wa3, .inl (cI, 300, .inl fw3)), (wa4, .inl (cI, 300, .inl fw4)), (tl, .inr (5, [.ref ta, .int (nI kt)])), (ta, .inl (cB, 600, .inl ft)), (h1, .inr (5, [.ref a1, .int (nI k1)])), (a1, .inl (cB, n1, .inl f1))])) (va_Qv (fun (u : Nat × (Nat → Int32) × (Nat → Int32) × (Nat → Int32) × Int32 × (Nat → Int32) × Nat × (Nat → Int32)) => (u.1 ≤ 300) ∧ (u.2.2.2.2.2.2.1 ≤ 600)) (fun (u : Nat × (Nat → Int32) × (Nat → Int32) × (Nat → Int32) × Int32 × (Nat → Int32) × Nat × (Nat → Int32)) (t : State) => pAt D (pT cB cI cZ) (va_A [(h0, .inr (7, [.ref tl, .ref wa1, .ref wa2, .ref wa3, .ref wa4, .int (nI c), .int sc])), (wa1, .inl (cI, 300, .inl fw1)), (wa2, .inl (cI, 300, .inl fw2)), (wa3, .inl (cI, 300, .inl fw3)), (wa4, .inl (cI, 300, .inl fw4)), (tl, .inr (5, [.ref ta, .int (nI kt)])), (ta, .inl (cB, 600, .inl ft)), (h1, .inr (5, [.ref a1, .int (nI k1)])), (a1, .inl (cB, n1, .inl f1))] sz) [(h0, .inr (7, [.ref tl, .ref wa1, .ref wa2, .ref wa3, .ref wa4, .int (nI u.1), .int u.2.2.2.2.1])), (wa1, .inl (cI, 300, .inl u.2.1)), (wa2, .inl (cI, 300, .inl u.2.2.1)), (wa3, .inl (cI, 300, .inl u.2.2.2.1)), (wa4, .inl (cI, 300, .inl u.2.2.2.2.2.1)), (tl, .inr (5, [.ref ta, .int (nI u.2.2.2.2.2.2.1)])), (ta, .inl (cB, 600, .inl u.2.2.2.2.2.2.2)), (h1, .inr (5, [.ref a1, .int (nI k1)])), (a1, .inl (cB, n1, .inl f1))] t) (va_A [(h0, .inr (7, [.ref tl, .ref wa1, .ref wa2, .ref wa3, .ref wa4, .int (nI c), .int sc])), (wa1, .inl (cI, 300, .inl fw1)), (wa2, .inl (cI, 300, .inl fw2)), (wa3, .inl (cI, 300, .inl fw3)), (wa4, .inl (cI, 300, .inl fw4)), (tl, .inr (5, [.ref ta, .int (nI kt)])), (ta, .inl (cB, 600, .inl ft)), (h1, .inr (5, [.ref a1, .int (nI k1)])), (a1, .inl (cB, n1, .inl f1))] sz)) 0 0 (va_A [(h0, .inr (7, [.ref tl, .ref wa1, .ref wa2, .ref wa3, .ref wa4, .int (nI c), .int sc])), (wa1, .inl (cI, 300, .inl fw1)), (wa2, .inl (cI, 300, .inl fw2)), (wa3, .inl (cI, 300, .inl fw3)), (wa4, .inl (cI, 300, .inl fw4)), (tl, .inr (5, [.ref ta, .int (nI kt)])), (ta, .inl (cB, 600, .inl ft)), (h1, .inr (5, [.ref a1, .int (nI k1)])), (a1, .inl (cB, n1, .inl f1))] sz) := by
  refine Met.ofW (cc := cX7_take) (maxL := 3) (ret := none) (by decide) rfl ?_
  intro p e s m args below meth cd s₁ B hml hv
  obtain ⟨rfl, hsz, hP, hK, hD0, hE⟩ := hv
  have hx := B.exec
  have hb := B.bytes
  have hr := B.returns
  have hts0 := atoms_spec (ws := .code yX7_take cX7_take 3 none :: wsL_law) B.pre
  have hts := fun (w : Cond) (h : w ∈ wsL_law) => hts0 w (List.mem_cons_of_mem _ h)
  have hown : s.vm.findClass RX7 = some m.cls := findClass_of_methodNamed B.named
  have hlocks := B.notSynchronized
  have hinX7 := inlX7
  subst hsz
  have hD := hD0.self (sz := s.heap.size)
  generalize hAe : va_A [(h0, .inr (7, [.ref tl, .ref wa1, .ref wa2, .ref wa3, .ref wa4, .int (nI c), .int sc])), (wa1, .inl (cI, 300, .inl fw1)), (wa2, .inl (cI, 300, .inl fw2)), (wa3, .inl (cI, 300, .inl fw3)), (wa4, .inl (cI, 300, .inl fw4)), (tl, .inr (5, [.ref ta, .int (nI kt)])), (ta, .inl (cB, 600, .inl ft)), (h1, .inr (5, [.ref a1, .int (nI k1)])), (a1, .inl (cB, n1, .inl f1))] s.heap.size = A at hD hE ⊢
  have hA : ∀ q : Nat, s.heap.size ≤ q → A q := fun q h => by rw [← hAe]; exact Or.inr h
  have hS : va_S A s.heap s.heap [] := va_S.rf
  have hP : va_P D vwCl [(h0, .inr (7, [.ref tl, .ref wa1, .ref wa2, .ref wa3, .ref wa4, .int (nI c), .int sc])), (wa1, .inl (cI, 300, .inl fw1)), (wa2, .inl (cI, 300, .inl fw2)), (wa3, .inl (cI, 300, .inl fw3)), (wa4, .inl (cI, 300, .inl fw4)), (tl, .inr (5, [.ref ta, .int (nI kt)])), (ta, .inl (cB, 600, .inl ft)), (h1, .inr (5, [.ref a1, .int (nI k1)])), (a1, .inl (cB, n1, .inl f1))] s.heap := hP
  have hl := lv_entry ([.ref h0, .ref h1]) (n := 3) (Nat.le_of_ble_eq_true rfl)
  rw [lg_entry_eq]
  generalize (lg_sl ([.ref h0, .ref h1]) ++ List.replicate (3 - (lg_sl ([.ref h0, .ref h1])).length) Slot.unset).toArray = ls at hl ⊢
  have hl : lv_has ls 3 [(0, .ref h0), (1, .ref h1)] := hl
  generalize hQ : MQ below _ _ _ _ _ _ = Q
  refine lv_aload_n hx hb dX7_take_0 rfl (lv_at hl 0 rfl) ?_
  refine va_get (D := D) (ci := 7) (v := .ref tl) (C := RX7) (T := TX7) (N := 7) hx hb hts hinX7 hown hK hP 0 rfl rfl 0 (by decide) (hts (.fieldLink RX7 14 "TaleReader$Words" "tale" "LTaleReader$Text;") (uc3 _ (List.mem_of_getElem? (i := 12) rfl))) (fun _ h9 => h9) rfl dX7_take_1 ?_
  have hPc := hP.sub (ws' := [(tl, .inr (5, [.ref ta, .int (nI kt)]))]) [5] rfl
  have hDc := hD.sub (ws' := [(tl, .inr (5, [.ref ta, .int (nI kt)]))]) [5] (by decide) rfl
  have hFc := va_free (wc := [(tl, .inr (5, [.ref ta, .int (nI kt)]))]) hD hS hA [5] rfl
  refine va_callv (va_runV (As := []) (rest := []) ⟨hx, hb, hml, hown, hts⟩ (s_X5_clear l D cB cI cZ E s.heap.size tl ta (nI kt)) (cwV 0 hts (uV (uc9 _ (List.mem_of_getElem? (i := 13) rfl)) (uc9 _ (List.mem_of_getElem? (i := 14) rfl)) (uc9 _ (List.mem_of_getElem? (i := 15) rfl)) (uc1 _ (List.mem_of_getElem? (i := 14) rfl)) (uc9 _ (List.mem_of_getElem? (i := 16) rfl))) rfl rfl rfl (by decide +kernel) ⟨Nat.le_of_ble_eq_true rfl, Nat.le_of_ble_eq_true rfl⟩) (pVE hE hS hFc hK hPc hDc 0 rfl rfl) rfl rfl hl.1 rfl (lv_room (Nat.le_of_ble_eq_true rfl)) dX7_take_4 ⟨Nat.le_of_ble_eq_true rfl, Nat.le_of_ble_eq_true rfl⟩) hS (fun q _ h => hFc q h) hFc (fun u t H_2 L_3 ht hvm hw hB hz1 hk1 hS => ?_)
  obtain ⟨hP1, -, hD1⟩ := hB
  rw [ht] at hP1
  obtain ⟨hP, hD⟩ := va_join (wr := [(h0, .inr (7, [.ref tl, .ref wa1, .ref wa2, .ref wa3, .ref wa4, .int (nI c), .int sc])), (wa1, .inl (cI, 300, .inl fw1)), (wa2, .inl (cI, 300, .inl fw2)), (wa3, .inl (cI, 300, .inl fw3)), (wa4, .inl (cI, 300, .inl fw4)), (ta, .inl (cB, 600, .inl ft)), (h1, .inr (5, [.ref a1, .int (nI k1)])), (a1, .inl (cB, n1, .inl f1))]) (w1 := [(tl, .inr (5, [.ref ta, .int 0]))]) hP hD [5] [0, 1, 2, 3, 4, 6, 7, 8] rfl rfl (by decide) (by decide) hk1 hFc hP1 hD1
  have hP : va_P D vwCl [(h0, .inr (7, [.ref tl, .ref wa1, .ref wa2, .ref wa3, .ref wa4, .int (nI c), .int sc])), (wa1, .inl (cI, 300, .inl fw1)), (wa2, .inl (cI, 300, .inl fw2)), (wa3, .inl (cI, 300, .inl fw3)), (wa4, .inl (cI, 300, .inl fw4)), (tl, .inr (5, [.ref ta, .int 0])), (ta, .inl (cB, 600, .inl ft)), (h1, .inr (5, [.ref a1, .int (nI k1)])), (a1, .inl (cB, n1, .inl f1))] H_2 := hP.sub [0, 1, 2, 3, 4, 8, 5, 6, 7] rfl
  have hD : va_D A [(h0, .inr (7, [.ref tl, .ref wa1, .ref wa2, .ref wa3, .ref wa4, .int (nI c), .int sc])), (wa1, .inl (cI, 300, .inl fw1)), (wa2, .inl (cI, 300, .inl fw2)), (wa3, .inl (cI, 300, .inl fw3)), (wa4, .inl (cI, 300, .inl fw4)), (tl, .inr (5, [.ref ta, .int 0])), (ta, .inl (cB, 600, .inl ft)), (h1, .inr (5, [.ref a1, .int (nI k1)])), (a1, .inl (cB, n1, .inl f1))] := hD.sub [0, 1, 2, 3, 4, 8, 5, 6, 7] (by decide) rfl
  try dsimp only at hw
  refine lv_aload_n hx hb dX7_take_7 rfl (lv_at hl 0 rfl) ?_
  refine va_get (D := D) (ci := 7) (v := .ref tl) (C := RX7) (T := TX7) (N := 7) hx hb hts hinX7 hown hK hP 0 rfl rfl 0 (by decide) (hts (.fieldLink RX7 14 "TaleReader$Words" "tale" "LTaleReader$Text;") (uc3 _ (List.mem_of_getElem? (i := 12) rfl))) (fun _ h9 => h9) rfl dX7_take_8 ?_
  refine lv_aload_n hx hb dX7_take_11 rfl (lv_at hl 1 rfl) ?_
  have hPc := hP.sub (ws' := [(tl, .inr (5, [.ref ta, .int (nI 0)])), (ta, .inl (cB, 600, .inl ft)), (h1, .inr (5, [.ref a1, .int (nI k1)])), (a1, .inl (cB, n1, .inl f1))]) [5, 6, 7, 8] rfl
  have hDc := hD.sub (ws' := [(tl, .inr (5, [.ref ta, .int (nI 0)])), (ta, .inl (cB, 600, .inl ft)), (h1, .inr (5, [.ref a1, .int (nI k1)])), (a1, .inl (cB, n1, .inl f1))]) [5, 6, 7, 8] (by decide) rfl
  have hFc := va_free (wc := [(tl, .inr (5, [.ref ta, .int (nI 0)])), (ta, .inl (cB, 600, .inl ft)), (h1, .inr (5, [.ref a1, .int (nI k1)])), (a1, .inl (cB, n1, .inl f1))]) hD hS hA [5, 6, 7, 8] rfl
  refine va_callv (va_runV (As := [.ref h1]) (rest := []) ⟨hx, hb, hml, hown, hts⟩ (s_X5_addAll l D cB cI cZ E H_2.size tl ta 600 0 ft h1 a1 n1 k1 f1 (by first | assumption | omega) (by first | assumption | omega) (by first | assumption | omega) (by first | assumption | omega)) (cwV 1 hts (uV (uc9 _ (List.mem_of_getElem? (i := 17) rfl)) (uc9 _ (List.mem_of_getElem? (i := 18) rfl)) (uc9 _ (List.mem_of_getElem? (i := 19) rfl)) (uc1 _ (List.mem_of_getElem? (i := 14) rfl)) (uc9 _ (List.mem_of_getElem? (i := 20) rfl))) rfl rfl rfl (by decide +kernel) ⟨Nat.le_of_ble_eq_true rfl, Nat.le_of_ble_eq_true rfl⟩) (pVE hE hS hFc hK hPc hDc 0 rfl rfl) rfl rfl hl.1 rfl (lv_room (Nat.le_of_ble_eq_true rfl)) dX7_take_12 ⟨Nat.le_of_ble_eq_true rfl, Nat.le_of_ble_eq_true rfl⟩) hS (fun q _ h => hFc q h) hFc (fun u t H_5 L_6 ht hvm hw hB hz1 hk1 hS => ?_)
  obtain ⟨k_7, f_8⟩ := u
  obtain ⟨hP1, -, hD1⟩ := hB
  rw [ht] at hP1
  obtain ⟨hP, hD⟩ := va_join (wr := [(h0, .inr (7, [.ref tl, .ref wa1, .ref wa2, .ref wa3, .ref wa4, .int (nI c), .int sc])), (wa1, .inl (cI, 300, .inl fw1)), (wa2, .inl (cI, 300, .inl fw2)), (wa3, .inl (cI, 300, .inl fw3)), (wa4, .inl (cI, 300, .inl fw4))]) (w1 := [(tl, .inr (5, [.ref ta, .int (nI k_7)])), (ta, .inl (cB, 600, .inl f_8)), (h1, .inr (5, [.ref a1, .int (nI k1)])), (a1, .inl (cB, n1, .inl f1))]) hP hD [5, 6, 7, 8] [0, 1, 2, 3, 4] rfl rfl (by decide) (by decide) hk1 hFc hP1 hD1
  have hP : va_P D vwCl [(h0, .inr (7, [.ref tl, .ref wa1, .ref wa2, .ref wa3, .ref wa4, .int (nI c), .int sc])), (wa1, .inl (cI, 300, .inl fw1)), (wa2, .inl (cI, 300, .inl fw2)), (wa3, .inl (cI, 300, .inl fw3)), (wa4, .inl (cI, 300, .inl fw4)), (tl, .inr (5, [.ref ta, .int (nI k_7)])), (ta, .inl (cB, 600, .inl f_8)), (h1, .inr (5, [.ref a1, .int (nI k1)])), (a1, .inl (cB, n1, .inl f1))] H_5 := hP.sub [0, 1, 2, 3, 4, 5, 6, 7, 8] rfl
  have hD : va_D A [(h0, .inr (7, [.ref tl, .ref wa1, .ref wa2, .ref wa3, .ref wa4, .int (nI c), .int sc])), (wa1, .inl (cI, 300, .inl fw1)), (wa2, .inl (cI, 300, .inl fw2)), (wa3, .inl (cI, 300, .inl fw3)), (wa4, .inl (cI, 300, .inl fw4)), (tl, .inr (5, [.ref ta, .int (nI k_7)])), (ta, .inl (cB, 600, .inl f_8)), (h1, .inr (5, [.ref a1, .int (nI k1)])), (a1, .inl (cB, n1, .inl f1))] := hD.sub [0, 1, 2, 3, 4, 5, 6, 7, 8] (by decide) rfl
  try dsimp only at hw
  have h_9 := hw
  refine lv_aload_n hx hb dX7_take_15 rfl (lv_at hl 0 rfl) ?_
  have hPc := hP.sub (ws' := [(h0, .inr (7, [.ref tl, .ref wa1, .ref wa2, .ref wa3, .ref wa4, .int (nI c), .int sc])), (wa1, .inl (cI, 300, .inl fw1)), (wa2, .inl (cI, 300, .inl fw2)), (wa3, .inl (cI, 300, .inl fw3)), (tl, .inr (5, [.ref ta, .int (nI k_7)])), (ta, .inl (cB, 600, .inl f_8))]) [0, 1, 2, 3, 5, 6] rfl
  have hDc := hD.sub (ws' := [(h0, .inr (7, [.ref tl, .ref wa1, .ref wa2, .ref wa3, .ref wa4, .int (nI c), .int sc])), (wa1, .inl (cI, 300, .inl fw1)), (wa2, .inl (cI, 300, .inl fw2)), (wa3, .inl (cI, 300, .inl fw3)), (tl, .inr (5, [.ref ta, .int (nI k_7)])), (ta, .inl (cB, 600, .inl f_8))]) [0, 1, 2, 3, 5, 6] (by decide) rfl
  have hFc := va_free (wc := [(h0, .inr (7, [.ref tl, .ref wa1, .ref wa2, .ref wa3, .ref wa4, .int (nI c), .int sc])), (wa1, .inl (cI, 300, .inl fw1)), (wa2, .inl (cI, 300, .inl fw2)), (wa3, .inl (cI, 300, .inl fw3)), (tl, .inr (5, [.ref ta, .int (nI k_7)])), (ta, .inl (cB, 600, .inl f_8))]) hD hS hA [0, 1, 2, 3, 5, 6] rfl
  refine va_callv (va_runV (As := []) (rest := []) ⟨hx, hb, hml, hown, hts⟩ (s_X7_split l D cB cI cZ E H_5.size h0 tl wa1 wa2 wa3 wa4 c sc fw1 fw2 fw3 ta k_7 f_8 (by first | assumption | omega) (by first | assumption | omega)) (cwV 0 hts (uV (uc10 _ (List.mem_of_getElem? (i := 5) rfl)) (uc10 _ (List.mem_of_getElem? (i := 6) rfl)) (uc10 _ (List.mem_of_getElem? (i := 7) rfl)) (uc1 _ (List.mem_of_getElem? (i := 18) rfl)) (uc10 _ (List.mem_of_getElem? (i := 8) rfl))) rfl rfl rfl (by decide +kernel) ⟨Nat.le_of_ble_eq_true rfl, Nat.le_of_ble_eq_true rfl⟩) (pVE hE hS hFc hK hPc hDc 0 rfl rfl) rfl rfl hl.1 rfl (lv_room (Nat.le_of_ble_eq_true rfl)) dX7_take_16 ⟨Nat.le_of_ble_eq_true rfl, Nat.le_of_ble_eq_true rfl⟩) hS (fun q _ h => hFc q h) hFc (fun u t H_11 L_12 ht hvm hw hB hz1 hk1 hS => ?_)
  obtain ⟨c_13, fw1_14, fw2_15, fw3_16, sc_17⟩ := u
  obtain ⟨hP1, -, hD1⟩ := hB
  rw [ht] at hP1
  obtain ⟨hP, hD⟩ := va_join (wr := [(wa4, .inl (cI, 300, .inl fw4)), (h1, .inr (5, [.ref a1, .int (nI k1)])), (a1, .inl (cB, n1, .inl f1))]) (w1 := [(h0, .inr (7, [.ref tl, .ref wa1, .ref wa2, .ref wa3, .ref wa4, .int (nI c_13), .int sc_17])), (wa1, .inl (cI, 300, .inl fw1_14)), (wa2, .inl (cI, 300, .inl fw2_15)), (wa3, .inl (cI, 300, .inl fw3_16)), (tl, .inr (5, [.ref ta, .int (nI k_7)])), (ta, .inl (cB, 600, .inl f_8))]) hP hD [0, 1, 2, 3, 5, 6] [4, 7, 8] rfl rfl (by decide) (by decide) hk1 hFc hP1 hD1
  have hP : va_P D vwCl [(h0, .inr (7, [.ref tl, .ref wa1, .ref wa2, .ref wa3, .ref wa4, .int (nI c_13), .int sc_17])), (wa1, .inl (cI, 300, .inl fw1_14)), (wa2, .inl (cI, 300, .inl fw2_15)), (wa3, .inl (cI, 300, .inl fw3_16)), (wa4, .inl (cI, 300, .inl fw4)), (tl, .inr (5, [.ref ta, .int (nI k_7)])), (ta, .inl (cB, 600, .inl f_8)), (h1, .inr (5, [.ref a1, .int (nI k1)])), (a1, .inl (cB, n1, .inl f1))] H_11 := hP.sub [3, 4, 5, 6, 0, 7, 8, 1, 2] rfl
  have hD : va_D A [(h0, .inr (7, [.ref tl, .ref wa1, .ref wa2, .ref wa3, .ref wa4, .int (nI c_13), .int sc_17])), (wa1, .inl (cI, 300, .inl fw1_14)), (wa2, .inl (cI, 300, .inl fw2_15)), (wa3, .inl (cI, 300, .inl fw3_16)), (wa4, .inl (cI, 300, .inl fw4)), (tl, .inr (5, [.ref ta, .int (nI k_7)])), (ta, .inl (cB, 600, .inl f_8)), (h1, .inr (5, [.ref a1, .int (nI k1)])), (a1, .inl (cB, n1, .inl f1))] := hD.sub [3, 4, 5, 6, 0, 7, 8, 1, 2] (by decide) rfl
  try dsimp only at hw
  have h_18 := hw
  refine lv_iconst (v := 0) hx hb dX7_take_19 (by decide) ?_
  refine lv_istore_n (lv' := [(2, .int 0), (0, .ref h0), (1, .ref h1)]) hx hb dX7_take_20 rfl hl (by decide) rfl (fun ls hl => ?_)
  have loop_19 : ∀ (nn_21 : Nat) (i : Nat) (g4 : Nat → Int32), (i ≤ 600) → (c_13 - i < nn_21) → ∀ (H : Heap) (locs : List Loc) (ls : Array Slot), va_P D vwCl [(h0, .inr (7, [.ref tl, .ref wa1, .ref wa2, .ref wa3, .ref wa4, .int (nI c_13), .int sc_17])), (wa1, .inl (cI, 300, .inl fw1_14)), (wa2, .inl (cI, 300, .inl fw2_15)), (wa3, .inl (cI, 300, .inl fw3_16)), (wa4, .inl (cI, 300, .inl g4)), (tl, .inr (5, [.ref ta, .int (nI k_7)])), (ta, .inl (cB, 600, .inl f_8)), (h1, .inr (5, [.ref a1, .int (nI k1)])), (a1, .inl (cB, n1, .inl f1))] H → va_D A [(h0, .inr (7, [.ref tl, .ref wa1, .ref wa2, .ref wa3, .ref wa4, .int (nI c_13), .int sc_17])), (wa1, .inl (cI, 300, .inl fw1_14)), (wa2, .inl (cI, 300, .inl fw2_15)), (wa3, .inl (cI, 300, .inl fw3_16)), (wa4, .inl (cI, 300, .inl g4)), (tl, .inr (5, [.ref ta, .int (nI k_7)])), (ta, .inl (cB, 600, .inl f_8)), (h1, .inr (5, [.ref a1, .int (nI k1)])), (a1, .inl (cB, n1, .inl f1))] → va_S A s.heap H locs → lv_has ls 3 [(0, .ref h0), (1, .ref h1), (2, .int (nI i))] → W p l e ({ frames := 8, cells := 0, slots := 0, locals := 183 } : Room) s m ([.ref h0, .ref h1] : List Value).toArray below meth cd H locs 0 0 Q (F0 m 21 ls []) := by
    intro nn_21
    induction nn_21 with
    | zero => intros; exact absurd ‹_ < 0› (Nat.not_lt_zero _)
    | succ nn_21 ih_20 =>
      intro i g4 hi600 hmu H locs ls hP hD hS hl
      refine lv_iload_n hx hb dX7_take_21 rfl (lv_at hl 2 rfl) ?_
      refine lv_aload_n hx hb dX7_take_22 rfl (lv_at hl 0 rfl) ?_
      refine va_get (D := D) (ci := 7) (v := .int (nI c_13)) (C := RX7) (T := TX7) (N := 7) hx hb hts hinX7 hown hK hP 0 rfl rfl 5 (by decide) (hts (.fieldLink RX7 33 "TaleReader$Words" "count" "I") (uc3 _ (List.mem_of_getElem? (i := 18) rfl))) (fun _ h9 => h9) rfl dX7_take_23 ?_
      refine lv_icmp_ge (tgt := 46) hx hb dX7_take_26 (by decide) (fun c_22 => ?_) (fun c_22 => ?_)
      · refine lv_iconst (v := 0) hx hb dX7_take_46 (by decide) ?_
        refine lv_istore_n (lv' := [(2, .int 0), (0, .ref h0), (1, .ref h1)]) hx hb dX7_take_47 rfl hl (by decide) rfl (fun ls hl => ?_)
        have loop_23 : ∀ (nn_25 : Nat) (i : Nat) (g4 : Nat → Int32), (i ≤ 600) → (c_13 - i < nn_25) → ∀ (H : Heap) (locs : List Loc) (ls : Array Slot), va_P D vwCl [(h0, .inr (7, [.ref tl, .ref wa1, .ref wa2, .ref wa3, .ref wa4, .int (nI c_13), .int sc_17])), (wa1, .inl (cI, 300, .inl fw1_14)), (wa2, .inl (cI, 300, .inl fw2_15)), (wa3, .inl (cI, 300, .inl fw3_16)), (wa4, .inl (cI, 300, .inl g4)), (tl, .inr (5, [.ref ta, .int (nI k_7)])), (ta, .inl (cB, 600, .inl f_8)), (h1, .inr (5, [.ref a1, .int (nI k1)])), (a1, .inl (cB, n1, .inl f1))] H → va_D A [(h0, .inr (7, [.ref tl, .ref wa1, .ref wa2, .ref wa3, .ref wa4, .int (nI c_13), .int sc_17])), (wa1, .inl (cI, 300, .inl fw1_14)), (wa2, .inl (cI, 300, .inl fw2_15)), (wa3, .inl (cI, 300, .inl fw3_16)), (wa4, .inl (cI, 300, .inl g4)), (tl, .inr (5, [.ref ta, .int (nI k_7)])), (ta, .inl (cB, 600, .inl f_8)), (h1, .inr (5, [.ref a1, .int (nI k1)])), (a1, .inl (cB, n1, .inl f1))] → va_S A s.heap H locs → lv_has ls 3 [(0, .ref h0), (1, .ref h1), (2, .int (nI i))] → W p l e ({ frames := 8, cells := 0, slots := 0, locals := 183 } : Room) s m ([.ref h0, .ref h1] : List Value).toArray below meth cd H locs 0 0 Q (F0 m 48 ls []) := by
          intro nn_25
          induction nn_25 with
          | zero => intros; exact absurd ‹_ < 0› (Nat.not_lt_zero _)
          | succ nn_25 ih_24 =>
            intro i g4 hi600 hmu H locs ls hP hD hS hl
            refine lv_iload_n hx hb dX7_take_48 rfl (lv_at hl 2 rfl) ?_
            refine lv_aload_n hx hb dX7_take_49 rfl (lv_at hl 0 rfl) ?_
            refine va_get (D := D) (ci := 7) (v := .int (nI c_13)) (C := RX7) (T := TX7) (N := 7) hx hb hts hinX7 hown hK hP 0 rfl rfl 5 (by decide) (hts (.fieldLink RX7 33 "TaleReader$Words" "count" "I") (uc3 _ (List.mem_of_getElem? (i := 18) rfl))) (fun _ h9 => h9) rfl dX7_take_50 ?_
            refine lv_icmp_ge (tgt := 88) hx hb dX7_take_53 (by decide) (fun c_26 => ?_) (fun c_26 => ?_)
            · have hP9 := hP.sub (ws' := [(h0, .inr (7, [.ref tl, .ref wa1, .ref wa2, .ref wa3, .ref wa4, .int (nI c_13), .int sc_17])), (wa1, .inl (cI, 300, .inl fw1_14)), (wa2, .inl (cI, 300, .inl fw2_15)), (wa3, .inl (cI, 300, .inl fw3_16)), (wa4, .inl (cI, 300, .inl g4)), (tl, .inr (5, [.ref ta, .int (nI k_7)])), (ta, .inl (cB, 600, .inl f_8)), (h1, .inr (5, [.ref a1, .int (nI k1)])), (a1, .inl (cB, n1, .inl f1))]) [0, 1, 2, 3, 4, 5, 6, 7, 8] rfl
              have hD9 := hD.sub (ws' := [(h0, .inr (7, [.ref tl, .ref wa1, .ref wa2, .ref wa3, .ref wa4, .int (nI c_13), .int sc_17])), (wa1, .inl (cI, 300, .inl fw1_14)), (wa2, .inl (cI, 300, .inl fw2_15)), (wa3, .inl (cI, 300, .inl fw3_16)), (wa4, .inl (cI, 300, .inl g4)), (tl, .inr (5, [.ref ta, .int (nI k_7)])), (ta, .inl (cB, 600, .inl f_8)), (h1, .inr (5, [.ref a1, .int (nI k1)])), (a1, .inl (cB, n1, .inl f1))]) [0, 1, 2, 3, 4, 5, 6, 7, 8] (by decide) rfl
              rw [← hQ]
              exact W.vret hx hb hr (fun t ht hW => ⟨⟨(c_13, fw1_14, fw2_15, fw3_16, sc_17, g4, k_7, f_8), rfl, ⟨by omega, by omega⟩, ⟨by rw [ht]; exact hP9, va_K.moved hW.alike hK, hD9⟩⟩, hS.F ht⟩) hS.2.2 dX7_take_88
            · have hlt_i : i < c_13 := Nat.lt_of_not_le (fun q => c_26 (nI_le q (by omega)))
              refine lv_aload_n hx hb dX7_take_56 rfl (lv_at hl 0 rfl) ?_
              refine va_get (D := D) (ci := 7) (v := .ref wa4) (C := RX7) (T := TX7) (N := 7) hx hb hts hinX7 hown hK hP 0 rfl rfl 4 (by decide) (hts (.fieldLink RX7 30 "TaleReader$Words" "kinds" "[I") (uc3 _ (List.mem_of_getElem? (i := 17) rfl))) (fun _ h9 => h9) rfl dX7_take_57 ?_
              refine lv_iload_n hx hb dX7_take_60 rfl (lv_at hl 2 rfl) ?_
              refine va_iald (D := D) hx hb hK hP 4 1 rfl rfl (vp_in_nI (by omega) (by omega)) dX7_take_61 ?_
              refine lv_topi (fun v_27 ev_27 => ?_)
              refine lv_bipush (v := 8) hx hb dX7_take_62 (by decide) ?_
              refine lv_icmp_ne (tgt := 82) hx hb dX7_take_64 (by decide) (fun c_28 => ?_) (fun c_28 => ?_)
              · refine lv_iinc (v := nI (i + 1)) (lv' := [(2, .int (nI (i + 1))), (0, .ref h0), (1, .ref h1)]) hx hb dX7_take_82 hl (k := 2) rfl (nI_add i 1) (by decide) rfl (fun ls hl => ?_)
                refine lv_goto (tgt := 48) hx hb dX7_take_85 (by decide) ?_
                exact ih_24 (i + 1) g4 (by first | assumption | exact Or.inl rfl | exact Or.inr rfl | omega) (by omega) H _ ls (hP.sub (ws' := [(h0, .inr (7, [.ref tl, .ref wa1, .ref wa2, .ref wa3, .ref wa4, .int (nI c_13), .int sc_17])), (wa1, .inl (cI, 300, .inl fw1_14)), (wa2, .inl (cI, 300, .inl fw2_15)), (wa3, .inl (cI, 300, .inl fw3_16)), (wa4, .inl (cI, 300, .inl g4)), (tl, .inr (5, [.ref ta, .int (nI k_7)])), (ta, .inl (cB, 600, .inl f_8)), (h1, .inr (5, [.ref a1, .int (nI k1)])), (a1, .inl (cB, n1, .inl f1))]) [0, 1, 2, 3, 4, 5, 6, 7, 8] rfl) (hD.sub (ws' := [(h0, .inr (7, [.ref tl, .ref wa1, .ref wa2, .ref wa3, .ref wa4, .int (nI c_13), .int sc_17])), (wa1, .inl (cI, 300, .inl fw1_14)), (wa2, .inl (cI, 300, .inl fw2_15)), (wa3, .inl (cI, 300, .inl fw3_16)), (wa4, .inl (cI, 300, .inl g4)), (tl, .inr (5, [.ref ta, .int (nI k_7)])), (ta, .inl (cB, 600, .inl f_8)), (h1, .inr (5, [.ref a1, .int (nI k1)])), (a1, .inl (cB, n1, .inl f1))]) [0, 1, 2, 3, 4, 5, 6, 7, 8] (by decide) rfl) hS (lv_sub hl [1, 2, 0] rfl)
              · refine lv_aload_n hx hb dX7_take_67 rfl (lv_at hl 0 rfl) ?_
                refine lv_iload_n hx hb dX7_take_68 rfl (lv_at hl 2 rfl) ?_
                have hPc := hP.sub (ws' := [(h0, .inr (7, [.ref tl, .ref wa1, .ref wa2, .ref wa3, .ref wa4, .int (nI c_13), .int sc_17])), (wa1, .inl (cI, 300, .inl fw1_14)), (wa2, .inl (cI, 300, .inl fw2_15)), (wa3, .inl (cI, 300, .inl fw3_16)), (wa4, .inl (cI, 300, .inl g4)), (tl, .inr (5, [.ref ta, .int (nI k_7)])), (ta, .inl (cB, 600, .inl f_8))]) [0, 1, 2, 3, 4, 5, 6] rfl
                have hDc := hD.sub (ws' := [(h0, .inr (7, [.ref tl, .ref wa1, .ref wa2, .ref wa3, .ref wa4, .int (nI c_13), .int sc_17])), (wa1, .inl (cI, 300, .inl fw1_14)), (wa2, .inl (cI, 300, .inl fw2_15)), (wa3, .inl (cI, 300, .inl fw3_16)), (wa4, .inl (cI, 300, .inl g4)), (tl, .inr (5, [.ref ta, .int (nI k_7)])), (ta, .inl (cB, 600, .inl f_8))]) [0, 1, 2, 3, 4, 5, 6] (by decide) rfl
                have hFc := va_free (wc := [(h0, .inr (7, [.ref tl, .ref wa1, .ref wa2, .ref wa3, .ref wa4, .int (nI c_13), .int sc_17])), (wa1, .inl (cI, 300, .inl fw1_14)), (wa2, .inl (cI, 300, .inl fw2_15)), (wa3, .inl (cI, 300, .inl fw3_16)), (wa4, .inl (cI, 300, .inl g4)), (tl, .inr (5, [.ref ta, .int (nI k_7)])), (ta, .inl (cB, 600, .inl f_8))]) hD hS hA [0, 1, 2, 3, 4, 5, 6] rfl
                refine va_calli (va_runV (As := [.int (nI i)]) (rest := []) ⟨hx, hb, hml, hown, hts⟩ (s_X7_isNameInsideSentence l D cB cI cZ E H.size h0 (nI i) tl wa1 wa2 wa3 wa4 c_13 sc_17 fw1_14 fw2_15 fw3_16 g4 ta k_7 f_8 (by first | assumption | omega) (by first | assumption | omega)) (cwV 1 hts (uV (uc14 _ (List.mem_of_getElem? (i := 21) rfl)) (uc14 _ (List.mem_of_getElem? (i := 22) rfl)) (uc14 _ (List.mem_of_getElem? (i := 23) rfl)) (uc1 _ (List.mem_of_getElem? (i := 18) rfl)) (uc15 _ (List.mem_of_getElem? (i := 0) rfl))) rfl rfl rfl (by decide +kernel) ⟨Nat.le_of_ble_eq_true rfl, Nat.le_of_ble_eq_true rfl⟩) (pVE hE hS hFc hK hPc hDc 0 rfl rfl) rfl rfl hl.1 rfl (lv_room (Nat.le_of_ble_eq_true rfl)) dX7_take_69 ⟨Nat.le_of_ble_eq_true rfl, Nat.le_of_ble_eq_true rfl⟩) hS (fun q _ h => hFc q h) hFc (fun r_29 u t H_30 L_31 ht hvm hw hB hz1 hk1 hS => ?_)
                obtain ⟨hP1, -, hD1⟩ := hB
                rw [ht] at hP1
                obtain ⟨hP, hD⟩ := va_join (wr := [(h1, .inr (5, [.ref a1, .int (nI k1)])), (a1, .inl (cB, n1, .inl f1))]) (w1 := [(h0, .inr (7, [.ref tl, .ref wa1, .ref wa2, .ref wa3, .ref wa4, .int (nI c_13), .int sc_17])), (wa1, .inl (cI, 300, .inl fw1_14)), (wa2, .inl (cI, 300, .inl fw2_15)), (wa3, .inl (cI, 300, .inl fw3_16)), (wa4, .inl (cI, 300, .inl g4)), (tl, .inr (5, [.ref ta, .int (nI k_7)])), (ta, .inl (cB, 600, .inl f_8))]) hP hD [0, 1, 2, 3, 4, 5, 6] [7, 8] rfl rfl (by decide) (by decide) hk1 hFc hP1 hD1
                have hP : va_P D vwCl [(h0, .inr (7, [.ref tl, .ref wa1, .ref wa2, .ref wa3, .ref wa4, .int (nI c_13), .int sc_17])), (wa1, .inl (cI, 300, .inl fw1_14)), (wa2, .inl (cI, 300, .inl fw2_15)), (wa3, .inl (cI, 300, .inl fw3_16)), (wa4, .inl (cI, 300, .inl g4)), (tl, .inr (5, [.ref ta, .int (nI k_7)])), (ta, .inl (cB, 600, .inl f_8)), (h1, .inr (5, [.ref a1, .int (nI k1)])), (a1, .inl (cB, n1, .inl f1))] H_30 := hP.sub [2, 3, 4, 5, 6, 7, 8, 0, 1] rfl
                have hD : va_D A [(h0, .inr (7, [.ref tl, .ref wa1, .ref wa2, .ref wa3, .ref wa4, .int (nI c_13), .int sc_17])), (wa1, .inl (cI, 300, .inl fw1_14)), (wa2, .inl (cI, 300, .inl fw2_15)), (wa3, .inl (cI, 300, .inl fw3_16)), (wa4, .inl (cI, 300, .inl g4)), (tl, .inr (5, [.ref ta, .int (nI k_7)])), (ta, .inl (cB, 600, .inl f_8)), (h1, .inr (5, [.ref a1, .int (nI k1)])), (a1, .inl (cB, n1, .inl f1))] := hD.sub [2, 3, 4, 5, 6, 7, 8, 0, 1] (by decide) rfl
                try dsimp only at hw
                refine lv_if_eq (tgt := 82) hx hb dX7_take_72 (by decide) (fun c_32 => ?_) (fun c_32 => ?_)
                · refine lv_iinc (v := nI (i + 1)) (lv' := [(2, .int (nI (i + 1))), (0, .ref h0), (1, .ref h1)]) hx hb dX7_take_82 hl (k := 2) rfl (nI_add i 1) (by decide) rfl (fun ls hl => ?_)
                  refine lv_goto (tgt := 48) hx hb dX7_take_85 (by decide) ?_
                  exact ih_24 (i + 1) g4 (by first | assumption | exact Or.inl rfl | exact Or.inr rfl | omega) (by omega) H_30 _ ls (hP.sub (ws' := [(h0, .inr (7, [.ref tl, .ref wa1, .ref wa2, .ref wa3, .ref wa4, .int (nI c_13), .int sc_17])), (wa1, .inl (cI, 300, .inl fw1_14)), (wa2, .inl (cI, 300, .inl fw2_15)), (wa3, .inl (cI, 300, .inl fw3_16)), (wa4, .inl (cI, 300, .inl g4)), (tl, .inr (5, [.ref ta, .int (nI k_7)])), (ta, .inl (cB, 600, .inl f_8)), (h1, .inr (5, [.ref a1, .int (nI k1)])), (a1, .inl (cB, n1, .inl f1))]) [0, 1, 2, 3, 4, 5, 6, 7, 8] rfl) (hD.sub (ws' := [(h0, .inr (7, [.ref tl, .ref wa1, .ref wa2, .ref wa3, .ref wa4, .int (nI c_13), .int sc_17])), (wa1, .inl (cI, 300, .inl fw1_14)), (wa2, .inl (cI, 300, .inl fw2_15)), (wa3, .inl (cI, 300, .inl fw3_16)), (wa4, .inl (cI, 300, .inl g4)), (tl, .inr (5, [.ref ta, .int (nI k_7)])), (ta, .inl (cB, 600, .inl f_8)), (h1, .inr (5, [.ref a1, .int (nI k1)])), (a1, .inl (cB, n1, .inl f1))]) [0, 1, 2, 3, 4, 5, 6, 7, 8] (by decide) rfl) hS (lv_sub hl [1, 2, 0] rfl)
                · refine lv_aload_n hx hb dX7_take_75 rfl (lv_at hl 0 rfl) ?_
                  refine va_get (D := D) (ci := 7) (v := .ref wa4) (C := RX7) (T := TX7) (N := 7) hx hb hts hinX7 hown hK hP 0 rfl rfl 4 (by decide) (hts (.fieldLink RX7 30 "TaleReader$Words" "kinds" "[I") (uc3 _ (List.mem_of_getElem? (i := 17) rfl))) (fun _ h9 => h9) rfl dX7_take_76 ?_
                  refine lv_iload_n hx hb dX7_take_79 rfl (lv_at hl 2 rfl) ?_
                  refine lv_iconst (v := 0) hx hb dX7_take_80 (by decide) ?_
                  refine va_iast (D := D) hx hb hK hP hD hS 4 1 rfl rfl (vp_in_nI (by omega) (by omega)) dX7_take_81 (fun H_33 L_34 hP hD hS => ?_)
                  obtain ⟨g_35, eg_35⟩ : ∃ gg : Nat → Int32, gg = upd g4 ((nI i)).toNatClampNeg 0 := ⟨_, rfl⟩
                  have hP : va_P D vwCl [(h0, .inr (7, [.ref tl, .ref wa1, .ref wa2, .ref wa3, .ref wa4, .int (nI c_13), .int sc_17])), (wa1, .inl (cI, 300, .inl fw1_14)), (wa2, .inl (cI, 300, .inl fw2_15)), (wa3, .inl (cI, 300, .inl fw3_16)), (wa4, .inl (cI, 300, .inl g_35)), (tl, .inr (5, [.ref ta, .int (nI k_7)])), (ta, .inl (cB, 600, .inl f_8)), (h1, .inr (5, [.ref a1, .int (nI k1)])), (a1, .inl (cB, n1, .inl f1))] H_33 := by rw [eg_35]; exact hP
                  have hD : va_D A [(h0, .inr (7, [.ref tl, .ref wa1, .ref wa2, .ref wa3, .ref wa4, .int (nI c_13), .int sc_17])), (wa1, .inl (cI, 300, .inl fw1_14)), (wa2, .inl (cI, 300, .inl fw2_15)), (wa3, .inl (cI, 300, .inl fw3_16)), (wa4, .inl (cI, 300, .inl g_35)), (tl, .inr (5, [.ref ta, .int (nI k_7)])), (ta, .inl (cB, 600, .inl f_8)), (h1, .inr (5, [.ref a1, .int (nI k1)])), (a1, .inl (cB, n1, .inl f1))] := by rw [eg_35]; exact hD
                  refine lv_iinc (v := nI (i + 1)) (lv' := [(2, .int (nI (i + 1))), (0, .ref h0), (1, .ref h1)]) hx hb dX7_take_82 hl (k := 2) rfl (nI_add i 1) (by decide) rfl (fun ls hl => ?_)
                  refine lv_goto (tgt := 48) hx hb dX7_take_85 (by decide) ?_
                  exact ih_24 (i + 1) g_35 (by first | assumption | exact Or.inl rfl | exact Or.inr rfl | omega) (by omega) H_33 _ ls (hP.sub (ws' := [(h0, .inr (7, [.ref tl, .ref wa1, .ref wa2, .ref wa3, .ref wa4, .int (nI c_13), .int sc_17])), (wa1, .inl (cI, 300, .inl fw1_14)), (wa2, .inl (cI, 300, .inl fw2_15)), (wa3, .inl (cI, 300, .inl fw3_16)), (wa4, .inl (cI, 300, .inl g_35)), (tl, .inr (5, [.ref ta, .int (nI k_7)])), (ta, .inl (cB, 600, .inl f_8)), (h1, .inr (5, [.ref a1, .int (nI k1)])), (a1, .inl (cB, n1, .inl f1))]) [0, 1, 2, 3, 4, 5, 6, 7, 8] rfl) (hD.sub (ws' := [(h0, .inr (7, [.ref tl, .ref wa1, .ref wa2, .ref wa3, .ref wa4, .int (nI c_13), .int sc_17])), (wa1, .inl (cI, 300, .inl fw1_14)), (wa2, .inl (cI, 300, .inl fw2_15)), (wa3, .inl (cI, 300, .inl fw3_16)), (wa4, .inl (cI, 300, .inl g_35)), (tl, .inr (5, [.ref ta, .int (nI k_7)])), (ta, .inl (cB, 600, .inl f_8)), (h1, .inr (5, [.ref a1, .int (nI k1)])), (a1, .inl (cB, n1, .inl f1))]) [0, 1, 2, 3, 4, 5, 6, 7, 8] (by decide) rfl) hS (lv_sub hl [1, 2, 0] rfl)
        exact loop_23 _ 0 g4 (by first | assumption | exact Or.inl rfl | exact Or.inr rfl | omega) (Nat.lt_succ_self _) H _ ls (hP.sub (ws' := [(h0, .inr (7, [.ref tl, .ref wa1, .ref wa2, .ref wa3, .ref wa4, .int (nI c_13), .int sc_17])), (wa1, .inl (cI, 300, .inl fw1_14)), (wa2, .inl (cI, 300, .inl fw2_15)), (wa3, .inl (cI, 300, .inl fw3_16)), (wa4, .inl (cI, 300, .inl g4)), (tl, .inr (5, [.ref ta, .int (nI k_7)])), (ta, .inl (cB, 600, .inl f_8)), (h1, .inr (5, [.ref a1, .int (nI k1)])), (a1, .inl (cB, n1, .inl f1))]) [0, 1, 2, 3, 4, 5, 6, 7, 8] rfl) (hD.sub (ws' := [(h0, .inr (7, [.ref tl, .ref wa1, .ref wa2, .ref wa3, .ref wa4, .int (nI c_13), .int sc_17])), (wa1, .inl (cI, 300, .inl fw1_14)), (wa2, .inl (cI, 300, .inl fw2_15)), (wa3, .inl (cI, 300, .inl fw3_16)), (wa4, .inl (cI, 300, .inl g4)), (tl, .inr (5, [.ref ta, .int (nI k_7)])), (ta, .inl (cB, 600, .inl f_8)), (h1, .inr (5, [.ref a1, .int (nI k1)])), (a1, .inl (cB, n1, .inl f1))]) [0, 1, 2, 3, 4, 5, 6, 7, 8] (by decide) rfl) hS (lv_sub hl [1, 2, 0] rfl)
      · have hlt_i : i < c_13 := Nat.lt_of_not_le (fun q => c_22 (nI_le q (by omega)))
        refine lv_aload_n hx hb dX7_take_29 rfl (lv_at hl 0 rfl) ?_
        refine va_get (D := D) (ci := 7) (v := .ref wa4) (C := RX7) (T := TX7) (N := 7) hx hb hts hinX7 hown hK hP 0 rfl rfl 4 (by decide) (hts (.fieldLink RX7 30 "TaleReader$Words" "kinds" "[I") (uc3 _ (List.mem_of_getElem? (i := 17) rfl))) (fun _ h9 => h9) rfl dX7_take_30 ?_
        refine lv_iload_n hx hb dX7_take_33 rfl (lv_at hl 2 rfl) ?_
        refine lv_aload_n hx hb dX7_take_34 rfl (lv_at hl 0 rfl) ?_
        refine lv_iload_n hx hb dX7_take_35 rfl (lv_at hl 2 rfl) ?_
        have hPc := hP.sub (ws' := [(h0, .inr (7, [.ref tl, .ref wa1, .ref wa2, .ref wa3, .ref wa4, .int (nI c_13), .int sc_17])), (wa1, .inl (cI, 300, .inl fw1_14)), (wa2, .inl (cI, 300, .inl fw2_15)), (wa3, .inl (cI, 300, .inl fw3_16)), (tl, .inr (5, [.ref ta, .int (nI k_7)])), (ta, .inl (cB, 600, .inl f_8))]) [0, 1, 2, 3, 5, 6] rfl
        have hDc := hD.sub (ws' := [(h0, .inr (7, [.ref tl, .ref wa1, .ref wa2, .ref wa3, .ref wa4, .int (nI c_13), .int sc_17])), (wa1, .inl (cI, 300, .inl fw1_14)), (wa2, .inl (cI, 300, .inl fw2_15)), (wa3, .inl (cI, 300, .inl fw3_16)), (tl, .inr (5, [.ref ta, .int (nI k_7)])), (ta, .inl (cB, 600, .inl f_8))]) [0, 1, 2, 3, 5, 6] (by decide) rfl
        have hFc := va_free (wc := [(h0, .inr (7, [.ref tl, .ref wa1, .ref wa2, .ref wa3, .ref wa4, .int (nI c_13), .int sc_17])), (wa1, .inl (cI, 300, .inl fw1_14)), (wa2, .inl (cI, 300, .inl fw2_15)), (wa3, .inl (cI, 300, .inl fw3_16)), (tl, .inr (5, [.ref ta, .int (nI k_7)])), (ta, .inl (cB, 600, .inl f_8))]) hD hS hA [0, 1, 2, 3, 5, 6] rfl
        refine va_calli (va_runV (As := [.int (nI i)]) (rest := [.int (nI i), .ref wa4]) ⟨hx, hb, hml, hown, hts⟩ (s_X7_kindBySpelling l D cB cI cZ E H.size h0 (nI i) tl wa1 wa2 wa3 wa4 c_13 sc_17 fw1_14 fw2_15 fw3_16 ta k_7 f_8 (by first | assumption | omega) (by first | assumption | omega)) (cwV 1 hts (uV (uc11 _ (List.mem_of_getElem? (i := 0) rfl)) (uc11 _ (List.mem_of_getElem? (i := 1) rfl)) (uc11 _ (List.mem_of_getElem? (i := 2) rfl)) (uc1 _ (List.mem_of_getElem? (i := 18) rfl)) (uc11 _ (List.mem_of_getElem? (i := 3) rfl))) rfl rfl rfl (by decide +kernel) ⟨Nat.le_of_ble_eq_true rfl, Nat.le_of_ble_eq_true rfl⟩) (pVE hE hS hFc hK hPc hDc 0 rfl rfl) rfl rfl hl.1 rfl (lv_room (Nat.le_of_ble_eq_true rfl)) dX7_take_36 ⟨Nat.le_of_ble_eq_true rfl, Nat.le_of_ble_eq_true rfl⟩) hS (fun q _ h => hFc q h) hFc (fun r_36 u t H_37 L_38 ht hvm hw hB hz1 hk1 hS => ?_)
        obtain ⟨hP1, -, hD1⟩ := hB
        rw [ht] at hP1
        obtain ⟨hP, hD⟩ := va_join (wr := [(wa4, .inl (cI, 300, .inl g4)), (h1, .inr (5, [.ref a1, .int (nI k1)])), (a1, .inl (cB, n1, .inl f1))]) (w1 := [(h0, .inr (7, [.ref tl, .ref wa1, .ref wa2, .ref wa3, .ref wa4, .int (nI c_13), .int sc_17])), (wa1, .inl (cI, 300, .inl fw1_14)), (wa2, .inl (cI, 300, .inl fw2_15)), (wa3, .inl (cI, 300, .inl fw3_16)), (tl, .inr (5, [.ref ta, .int (nI k_7)])), (ta, .inl (cB, 600, .inl f_8))]) hP hD [0, 1, 2, 3, 5, 6] [4, 7, 8] rfl rfl (by decide) (by decide) hk1 hFc hP1 hD1
        have hP : va_P D vwCl [(h0, .inr (7, [.ref tl, .ref wa1, .ref wa2, .ref wa3, .ref wa4, .int (nI c_13), .int sc_17])), (wa1, .inl (cI, 300, .inl fw1_14)), (wa2, .inl (cI, 300, .inl fw2_15)), (wa3, .inl (cI, 300, .inl fw3_16)), (wa4, .inl (cI, 300, .inl g4)), (tl, .inr (5, [.ref ta, .int (nI k_7)])), (ta, .inl (cB, 600, .inl f_8)), (h1, .inr (5, [.ref a1, .int (nI k1)])), (a1, .inl (cB, n1, .inl f1))] H_37 := hP.sub [3, 4, 5, 6, 0, 7, 8, 1, 2] rfl
        have hD : va_D A [(h0, .inr (7, [.ref tl, .ref wa1, .ref wa2, .ref wa3, .ref wa4, .int (nI c_13), .int sc_17])), (wa1, .inl (cI, 300, .inl fw1_14)), (wa2, .inl (cI, 300, .inl fw2_15)), (wa3, .inl (cI, 300, .inl fw3_16)), (wa4, .inl (cI, 300, .inl g4)), (tl, .inr (5, [.ref ta, .int (nI k_7)])), (ta, .inl (cB, 600, .inl f_8)), (h1, .inr (5, [.ref a1, .int (nI k1)])), (a1, .inl (cB, n1, .inl f1))] := hD.sub [3, 4, 5, 6, 0, 7, 8, 1, 2] (by decide) rfl
        try dsimp only at hw
        refine va_iast (D := D) hx hb hK hP hD hS 4 1 rfl rfl (vp_in_nI (by omega) (by omega)) dX7_take_39 (fun H_39 L_40 hP hD hS => ?_)
        obtain ⟨g_41, eg_41⟩ : ∃ gg : Nat → Int32, gg = upd g4 ((nI i)).toNatClampNeg r_36 := ⟨_, rfl⟩
        have hP : va_P D vwCl [(h0, .inr (7, [.ref tl, .ref wa1, .ref wa2, .ref wa3, .ref wa4, .int (nI c_13), .int sc_17])), (wa1, .inl (cI, 300, .inl fw1_14)), (wa2, .inl (cI, 300, .inl fw2_15)), (wa3, .inl (cI, 300, .inl fw3_16)), (wa4, .inl (cI, 300, .inl g_41)), (tl, .inr (5, [.ref ta, .int (nI k_7)])), (ta, .inl (cB, 600, .inl f_8)), (h1, .inr (5, [.ref a1, .int (nI k1)])), (a1, .inl (cB, n1, .inl f1))] H_39 := by rw [eg_41]; exact hP
        have hD : va_D A [(h0, .inr (7, [.ref tl, .ref wa1, .ref wa2, .ref wa3, .ref wa4, .int (nI c_13), .int sc_17])), (wa1, .inl (cI, 300, .inl fw1_14)), (wa2, .inl (cI, 300, .inl fw2_15)), (wa3, .inl (cI, 300, .inl fw3_16)), (wa4, .inl (cI, 300, .inl g_41)), (tl, .inr (5, [.ref ta, .int (nI k_7)])), (ta, .inl (cB, 600, .inl f_8)), (h1, .inr (5, [.ref a1, .int (nI k1)])), (a1, .inl (cB, n1, .inl f1))] := by rw [eg_41]; exact hD
        refine lv_iinc (v := nI (i + 1)) (lv' := [(2, .int (nI (i + 1))), (0, .ref h0), (1, .ref h1)]) hx hb dX7_take_40 hl (k := 2) rfl (nI_add i 1) (by decide) rfl (fun ls hl => ?_)
        refine lv_goto (tgt := 21) hx hb dX7_take_43 (by decide) ?_
        exact ih_20 (i + 1) g_41 (by first | assumption | exact Or.inl rfl | exact Or.inr rfl | omega) (by omega) H_39 _ ls (hP.sub (ws' := [(h0, .inr (7, [.ref tl, .ref wa1, .ref wa2, .ref wa3, .ref wa4, .int (nI c_13), .int sc_17])), (wa1, .inl (cI, 300, .inl fw1_14)), (wa2, .inl (cI, 300, .inl fw2_15)), (wa3, .inl (cI, 300, .inl fw3_16)), (wa4, .inl (cI, 300, .inl g_41)), (tl, .inr (5, [.ref ta, .int (nI k_7)])), (ta, .inl (cB, 600, .inl f_8)), (h1, .inr (5, [.ref a1, .int (nI k1)])), (a1, .inl (cB, n1, .inl f1))]) [0, 1, 2, 3, 4, 5, 6, 7, 8] rfl) (hD.sub (ws' := [(h0, .inr (7, [.ref tl, .ref wa1, .ref wa2, .ref wa3, .ref wa4, .int (nI c_13), .int sc_17])), (wa1, .inl (cI, 300, .inl fw1_14)), (wa2, .inl (cI, 300, .inl fw2_15)), (wa3, .inl (cI, 300, .inl fw3_16)), (wa4, .inl (cI, 300, .inl g_41)), (tl, .inr (5, [.ref ta, .int (nI k_7)])), (ta, .inl (cB, 600, .inl f_8)), (h1, .inr (5, [.ref a1, .int (nI k1)])), (a1, .inl (cB, n1, .inl f1))]) [0, 1, 2, 3, 4, 5, 6, 7, 8] (by decide) rfl) hS (lv_sub hl [1, 2, 0] rfl)
  exact loop_19 _ 0 fw4 (by first | assumption | exact Or.inl rfl | exact Or.inr rfl | omega) (Nat.lt_succ_self _) H_11 _ ls (hP.sub (ws' := [(h0, .inr (7, [.ref tl, .ref wa1, .ref wa2, .ref wa3, .ref wa4, .int (nI c_13), .int sc_17])), (wa1, .inl (cI, 300, .inl fw1_14)), (wa2, .inl (cI, 300, .inl fw2_15)), (wa3, .inl (cI, 300, .inl fw3_16)), (wa4, .inl (cI, 300, .inl fw4)), (tl, .inr (5, [.ref ta, .int (nI k_7)])), (ta, .inl (cB, 600, .inl f_8)), (h1, .inr (5, [.ref a1, .int (nI k1)])), (a1, .inl (cB, n1, .inl f1))]) [0, 1, 2, 3, 4, 5, 6, 7, 8] rfl) (hD.sub (ws' := [(h0, .inr (7, [.ref tl, .ref wa1, .ref wa2, .ref wa3, .ref wa4, .int (nI c_13), .int sc_17])), (wa1, .inl (cI, 300, .inl fw1_14)), (wa2, .inl (cI, 300, .inl fw2_15)), (wa3, .inl (cI, 300, .inl fw3_16)), (wa4, .inl (cI, 300, .inl fw4)), (tl, .inr (5, [.ref ta, .int (nI k_7)])), (ta, .inl (cB, 600, .inl f_8)), (h1, .inr (5, [.ref a1, .int (nI k1)])), (a1, .inl (cB, n1, .inl f1))]) [0, 1, 2, 3, 4, 5, 6, 7, 8] (by decide) rfl) hS (lv_sub hl [1, 2, 0] rfl)
