set_option maxHeartbeats 4000000 in
set_option maxRecDepth 100000 in
theorem c_X1_init (l : Launch) (D : va_G) (cB cI cZ : ClassId) (sz : Nat) (h0 : Nat) (w : Nat) : Met l yX1_init (.code yX1_init cX1_init 2 none :: wsL_law) ({ frames := 1, cells := 7, slots := 560, locals := 12 } : Room) (va_Pc [.ref h0, .ref w] (pIn D (pT cB cI cZ) sz [(h0, .inr (1, [.null, .null, .null, .null, .null, .null, .null, .null, .int 0, .int 0]))])) (va_Qv (fun (u : Nat × Nat × Nat × Nat × Nat × Nat × Nat) => True) (fun (u : Nat × Nat × Nat × Nat × Nat × Nat × Nat) (t : State) => pAt D (pT cB cI cZ) (va_A [(h0, .inr (1, [.null, .null, .null, .null, .null, .null, .null, .null, .int 0, .int 0]))] sz) [(h0, .inr (1, [.ref w, .ref u.1, .ref u.2.1, .ref u.2.2.1, .ref u.2.2.2.1, .ref u.2.2.2.2.1, .ref u.2.2.2.2.2.1, .ref u.2.2.2.2.2.2, .int 0, .int 0])), (u.1, .inl (cI, 80, .inl (fun _ => 0))), (u.2.1, .inl (cI, 80, .inl (fun _ => 0))), (u.2.2.1, .inl (cI, 80, .inl (fun _ => 0))), (u.2.2.2.1, .inl (cI, 80, .inl (fun _ => 0))), (u.2.2.2.2.1, .inl (cI, 80, .inl (fun _ => 0))), (u.2.2.2.2.2.1, .inl (cI, 80, .inl (fun _ => 0))), (u.2.2.2.2.2.2, .inl (cI, 80, .inl (fun _ => 0)))] t) (va_A [(h0, .inr (1, [.null, .null, .null, .null, .null, .null, .null, .null, .int 0, .int 0]))] sz)) 7 560 (va_A [(h0, .inr (1, [.null, .null, .null, .null, .null, .null, .null, .null, .int 0, .int 0]))] sz) := by
  refine Met.ofW (cc := cX1_init) (maxL := 2) (ret := none) (by decide) rfl ?_
  intro p e s m args below meth c s₁ B hml hv
  obtain ⟨rfl, hsz, hP, hK, hD0⟩ := hv
  have hx := B.exec
  have hb := B.bytes
  have hr := B.returns
  have hts0 := atoms_spec (ws := .code yX1_init cX1_init 2 none :: wsL_law) B.pre
  have hts := fun (w : Cond) (h : w ∈ wsL_law) => hts0 w (List.mem_cons_of_mem _ h)
  have hown : s.vm.findClass RX1 = some m.cls := findClass_of_methodNamed B.named
  have hlocks := B.notSynchronized
  have hin : meth.name = "<init>" := (name_of_methodNamed B.named B.method).1
  have hinX1 := inlX1
  subst hsz
  have hD := hD0.self (sz := s.heap.size)
  generalize hAe : va_A [(h0, .inr (1, [.null, .null, .null, .null, .null, .null, .null, .null, .int 0, .int 0]))] s.heap.size = A at hD ⊢
  have hA : ∀ q : Nat, s.heap.size ≤ q → A q := fun q h => by rw [← hAe]; exact Or.inr h
  have hS : va_S A s.heap s.heap [] := va_S.rf
  have hP : va_P D vwCl [(h0, .inr (1, [.null, .null, .null, .null, .null, .null, .null, .null, .int 0, .int 0]))] s.heap := hP
  have hl := lv_entry ([.ref h0, .ref w]) (n := 2) (Nat.le_of_ble_eq_true rfl)
  rw [lg_entry_eq]
  generalize (lg_sl ([.ref h0, .ref w]) ++ List.replicate (2 - (lg_sl ([.ref h0, .ref w])).length) Slot.unset).toArray = ls at hl ⊢
  have hl : lv_has ls 2 [(0, .ref h0), (1, .ref w)] := hl
  refine lv_aload_n hx hb dX1_init_0 rfl (lv_at hl 0 rfl) ?_
  refine W.objInit hx hb hown (hts (.methodLink RX1 3 objectInit) (uc4 _ (List.mem_of_getElem? (i := 21) rfl))) (hts (.instanceMethod objectInit) (uc1 _ (List.mem_of_getElem? (i := 10) rfl))) (hts (.code objectInit ⟨#[0xb1]⟩ 1 none) (uc1 _ (List.mem_of_getElem? (i := 11) rfl))) rfl (by rw [hml]; exact hl.1) rfl dX1_init_1 (Nat.le_of_ble_eq_true rfl) (Nat.le_of_ble_eq_true rfl) ?_
  refine W.eq (g2 := F0 m 4 ls []) rfl ?_
  refine lv_aload_n hx hb dX1_init_4 rfl (lv_at hl 0 rfl) ?_
  refine lv_aload_n hx hb dX1_init_5 rfl (lv_at hl 1 rfl) ?_
  refine va_putF (D := D) (ci := 1) (v := .ref w) (ty := (.object "TaleReader$Words")) (C := RX1) (T := TX1) (N := 10) hx hb hts hinX1 tyX1 tyX1_ok nmX1 hown hK hP hD hS 0 rfl rfl 0 (by decide) (hts (.fieldLink RX1 9 "TaleReader$Mentions" "words" "LTaleReader$Words;") (uc4 _ (List.mem_of_getElem? (i := 22) rfl))) (fun _ h9 => h9) rfl hin rfl (by decide +kernel) rfl rfl (Nat.le_of_ble_eq_true rfl) dX1_init_6 (fun H_1 L_2 hP hD hS => ?_)
  have hP : va_P D vwCl [(h0, .inr (1, [.ref w, .null, .null, .null, .null, .null, .null, .null, .int 0, .int 0]))] H_1 := hP
  have hD : va_D A [(h0, .inr (1, [.ref w, .null, .null, .null, .null, .null, .null, .null, .int 0, .int 0]))] := hD
  refine lv_aload_n hx hb dX1_init_9 rfl (lv_at hl 0 rfl) ?_
  refine lv_bipush (v := 80) hx hb dX1_init_10 (by decide) ?_
  refine pNewa (D := D) (cl := vwCl) (ty := .int) (N' := 80) (a0 := (80, .inl (fun _ => 0))) (cA := cI) hx hb (hts (.arrayClass .int) (uc3 _ (List.mem_of_getElem? (i := 13) rfl))) rfl hK hP hD hS hA (fun _ => rfl) (by decide) (by decide) (by decide) (Nat.le_of_ble_eq_true rfl) (Nat.le_of_ble_eq_true rfl) dX1_init_12 1 rfl (fun q_3 H_4 hP hD hS => ?_)
  have hP : va_P D vwCl [(h0, .inr (1, [.ref w, .null, .null, .null, .null, .null, .null, .null, .int 0, .int 0])), (q_3, .inl (cI, 80, .inl (fun _ => 0)))] H_4 := hP
  have hD : va_D A [(h0, .inr (1, [.ref w, .null, .null, .null, .null, .null, .null, .null, .int 0, .int 0])), (q_3, .inl (cI, 80, .inl (fun _ => 0)))] := hD
  refine W.widen (k := 1) (n := 80) (by decide) (by decide) ?_
  refine va_putF (D := D) (ci := 1) (v := .ref q_3) (ty := (.array .int)) (C := RX1) (T := TX1) (N := 10) hx hb hts hinX1 tyX1 tyX1_ok nmX1 hown hK hP hD hS 0 rfl rfl 1 (by decide) (hts (.fieldLink RX1 15 "TaleReader$Mentions" "wordNumbers" "[I") (uc4 _ (List.mem_of_getElem? (i := 23) rfl))) (fun _ h9 => h9) rfl hin rfl (by decide +kernel) rfl rfl (Nat.le_of_ble_eq_true rfl) dX1_init_14 (fun H_5 L_6 hP hD hS => ?_)
  have hP : va_P D vwCl [(h0, .inr (1, [.ref w, .ref q_3, .null, .null, .null, .null, .null, .null, .int 0, .int 0])), (q_3, .inl (cI, 80, .inl (fun _ => 0)))] H_5 := hP
  have hD : va_D A [(h0, .inr (1, [.ref w, .ref q_3, .null, .null, .null, .null, .null, .null, .int 0, .int 0])), (q_3, .inl (cI, 80, .inl (fun _ => 0)))] := hD
  refine lv_aload_n hx hb dX1_init_17 rfl (lv_at hl 0 rfl) ?_
  refine lv_bipush (v := 80) hx hb dX1_init_18 (by decide) ?_
  refine pNewa (D := D) (cl := vwCl) (ty := .int) (N' := 80) (a0 := (80, .inl (fun _ => 0))) (cA := cI) hx hb (hts (.arrayClass .int) (uc3 _ (List.mem_of_getElem? (i := 13) rfl))) rfl hK hP hD hS hA (fun _ => rfl) (by decide) (by decide) (by decide) (Nat.le_of_ble_eq_true rfl) (Nat.le_of_ble_eq_true rfl) dX1_init_20 1 rfl (fun q_7 H_8 hP hD hS => ?_)
  have hP : va_P D vwCl [(h0, .inr (1, [.ref w, .ref q_3, .null, .null, .null, .null, .null, .null, .int 0, .int 0])), (q_3, .inl (cI, 80, .inl (fun _ => 0))), (q_7, .inl (cI, 80, .inl (fun _ => 0)))] H_8 := hP
  have hD : va_D A [(h0, .inr (1, [.ref w, .ref q_3, .null, .null, .null, .null, .null, .null, .int 0, .int 0])), (q_3, .inl (cI, 80, .inl (fun _ => 0))), (q_7, .inl (cI, 80, .inl (fun _ => 0)))] := hD
  refine W.widen (k := 2) (n := 160) (by decide) (by decide) ?_
  refine va_putF (D := D) (ci := 1) (v := .ref q_7) (ty := (.array .int)) (C := RX1) (T := TX1) (N := 10) hx hb hts hinX1 tyX1 tyX1_ok nmX1 hown hK hP hD hS 0 rfl rfl 2 (by decide) (hts (.fieldLink RX1 19 "TaleReader$Mentions" "places" "[I") (uc5 _ (List.mem_of_getElem? (i := 0) rfl))) (fun _ h9 => h9) rfl hin rfl (by decide +kernel) rfl rfl (Nat.le_of_ble_eq_true rfl) dX1_init_22 (fun H_9 L_10 hP hD hS => ?_)
  have hP : va_P D vwCl [(h0, .inr (1, [.ref w, .ref q_3, .ref q_7, .null, .null, .null, .null, .null, .int 0, .int 0])), (q_3, .inl (cI, 80, .inl (fun _ => 0))), (q_7, .inl (cI, 80, .inl (fun _ => 0)))] H_9 := hP
  have hD : va_D A [(h0, .inr (1, [.ref w, .ref q_3, .ref q_7, .null, .null, .null, .null, .null, .int 0, .int 0])), (q_3, .inl (cI, 80, .inl (fun _ => 0))), (q_7, .inl (cI, 80, .inl (fun _ => 0)))] := hD
  refine lv_aload_n hx hb dX1_init_25 rfl (lv_at hl 0 rfl) ?_
  refine lv_bipush (v := 80) hx hb dX1_init_26 (by decide) ?_
  refine pNewa (D := D) (cl := vwCl) (ty := .int) (N' := 80) (a0 := (80, .inl (fun _ => 0))) (cA := cI) hx hb (hts (.arrayClass .int) (uc3 _ (List.mem_of_getElem? (i := 13) rfl))) rfl hK hP hD hS hA (fun _ => rfl) (by decide) (by decide) (by decide) (Nat.le_of_ble_eq_true rfl) (Nat.le_of_ble_eq_true rfl) dX1_init_28 1 rfl (fun q_11 H_12 hP hD hS => ?_)
  have hP : va_P D vwCl [(h0, .inr (1, [.ref w, .ref q_3, .ref q_7, .null, .null, .null, .null, .null, .int 0, .int 0])), (q_3, .inl (cI, 80, .inl (fun _ => 0))), (q_7, .inl (cI, 80, .inl (fun _ => 0))), (q_11, .inl (cI, 80, .inl (fun _ => 0)))] H_12 := hP
  have hD : va_D A [(h0, .inr (1, [.ref w, .ref q_3, .ref q_7, .null, .null, .null, .null, .null, .int 0, .int 0])), (q_3, .inl (cI, 80, .inl (fun _ => 0))), (q_7, .inl (cI, 80, .inl (fun _ => 0))), (q_11, .inl (cI, 80, .inl (fun _ => 0)))] := hD
  refine W.widen (k := 3) (n := 240) (by decide) (by decide) ?_
  refine va_putF (D := D) (ci := 1) (v := .ref q_11) (ty := (.array .int)) (C := RX1) (T := TX1) (N := 10) hx hb hts hinX1 tyX1 tyX1_ok nmX1 hown hK hP hD hS 0 rfl rfl 3 (by decide) (hts (.fieldLink RX1 22 "TaleReader$Mentions" "lengths" "[I") (uc5 _ (List.mem_of_getElem? (i := 1) rfl))) (fun _ h9 => h9) rfl hin rfl (by decide +kernel) rfl rfl (Nat.le_of_ble_eq_true rfl) dX1_init_30 (fun H_13 L_14 hP hD hS => ?_)
  have hP : va_P D vwCl [(h0, .inr (1, [.ref w, .ref q_3, .ref q_7, .ref q_11, .null, .null, .null, .null, .int 0, .int 0])), (q_3, .inl (cI, 80, .inl (fun _ => 0))), (q_7, .inl (cI, 80, .inl (fun _ => 0))), (q_11, .inl (cI, 80, .inl (fun _ => 0)))] H_13 := hP
  have hD : va_D A [(h0, .inr (1, [.ref w, .ref q_3, .ref q_7, .ref q_11, .null, .null, .null, .null, .int 0, .int 0])), (q_3, .inl (cI, 80, .inl (fun _ => 0))), (q_7, .inl (cI, 80, .inl (fun _ => 0))), (q_11, .inl (cI, 80, .inl (fun _ => 0)))] := hD
  refine lv_aload_n hx hb dX1_init_33 rfl (lv_at hl 0 rfl) ?_
  refine lv_bipush (v := 80) hx hb dX1_init_34 (by decide) ?_
  refine pNewa (D := D) (cl := vwCl) (ty := .int) (N' := 80) (a0 := (80, .inl (fun _ => 0))) (cA := cI) hx hb (hts (.arrayClass .int) (uc3 _ (List.mem_of_getElem? (i := 13) rfl))) rfl hK hP hD hS hA (fun _ => rfl) (by decide) (by decide) (by decide) (Nat.le_of_ble_eq_true rfl) (Nat.le_of_ble_eq_true rfl) dX1_init_36 1 rfl (fun q_15 H_16 hP hD hS => ?_)
  have hP : va_P D vwCl [(h0, .inr (1, [.ref w, .ref q_3, .ref q_7, .ref q_11, .null, .null, .null, .null, .int 0, .int 0])), (q_3, .inl (cI, 80, .inl (fun _ => 0))), (q_7, .inl (cI, 80, .inl (fun _ => 0))), (q_11, .inl (cI, 80, .inl (fun _ => 0))), (q_15, .inl (cI, 80, .inl (fun _ => 0)))] H_16 := hP
  have hD : va_D A [(h0, .inr (1, [.ref w, .ref q_3, .ref q_7, .ref q_11, .null, .null, .null, .null, .int 0, .int 0])), (q_3, .inl (cI, 80, .inl (fun _ => 0))), (q_7, .inl (cI, 80, .inl (fun _ => 0))), (q_11, .inl (cI, 80, .inl (fun _ => 0))), (q_15, .inl (cI, 80, .inl (fun _ => 0)))] := hD
  refine W.widen (k := 4) (n := 320) (by decide) (by decide) ?_
  refine va_putF (D := D) (ci := 1) (v := .ref q_15) (ty := (.array .int)) (C := RX1) (T := TX1) (N := 10) hx hb hts hinX1 tyX1 tyX1_ok nmX1 hown hK hP hD hS 0 rfl rfl 4 (by decide) (hts (.fieldLink RX1 25 "TaleReader$Mentions" "sentences" "[I") (uc5 _ (List.mem_of_getElem? (i := 2) rfl))) (fun _ h9 => h9) rfl hin rfl (by decide +kernel) rfl rfl (Nat.le_of_ble_eq_true rfl) dX1_init_38 (fun H_17 L_18 hP hD hS => ?_)
  have hP : va_P D vwCl [(h0, .inr (1, [.ref w, .ref q_3, .ref q_7, .ref q_11, .ref q_15, .null, .null, .null, .int 0, .int 0])), (q_3, .inl (cI, 80, .inl (fun _ => 0))), (q_7, .inl (cI, 80, .inl (fun _ => 0))), (q_11, .inl (cI, 80, .inl (fun _ => 0))), (q_15, .inl (cI, 80, .inl (fun _ => 0)))] H_17 := hP
  have hD : va_D A [(h0, .inr (1, [.ref w, .ref q_3, .ref q_7, .ref q_11, .ref q_15, .null, .null, .null, .int 0, .int 0])), (q_3, .inl (cI, 80, .inl (fun _ => 0))), (q_7, .inl (cI, 80, .inl (fun _ => 0))), (q_11, .inl (cI, 80, .inl (fun _ => 0))), (q_15, .inl (cI, 80, .inl (fun _ => 0)))] := hD
  refine lv_aload_n hx hb dX1_init_41 rfl (lv_at hl 0 rfl) ?_
  refine lv_bipush (v := 80) hx hb dX1_init_42 (by decide) ?_
  refine pNewa (D := D) (cl := vwCl) (ty := .int) (N' := 80) (a0 := (80, .inl (fun _ => 0))) (cA := cI) hx hb (hts (.arrayClass .int) (uc3 _ (List.mem_of_getElem? (i := 13) rfl))) rfl hK hP hD hS hA (fun _ => rfl) (by decide) (by decide) (by decide) (Nat.le_of_ble_eq_true rfl) (Nat.le_of_ble_eq_true rfl) dX1_init_44 1 rfl (fun q_19 H_20 hP hD hS => ?_)
  have hP : va_P D vwCl [(h0, .inr (1, [.ref w, .ref q_3, .ref q_7, .ref q_11, .ref q_15, .null, .null, .null, .int 0, .int 0])), (q_3, .inl (cI, 80, .inl (fun _ => 0))), (q_7, .inl (cI, 80, .inl (fun _ => 0))), (q_11, .inl (cI, 80, .inl (fun _ => 0))), (q_15, .inl (cI, 80, .inl (fun _ => 0))), (q_19, .inl (cI, 80, .inl (fun _ => 0)))] H_20 := hP
  have hD : va_D A [(h0, .inr (1, [.ref w, .ref q_3, .ref q_7, .ref q_11, .ref q_15, .null, .null, .null, .int 0, .int 0])), (q_3, .inl (cI, 80, .inl (fun _ => 0))), (q_7, .inl (cI, 80, .inl (fun _ => 0))), (q_11, .inl (cI, 80, .inl (fun _ => 0))), (q_15, .inl (cI, 80, .inl (fun _ => 0))), (q_19, .inl (cI, 80, .inl (fun _ => 0)))] := hD
  refine W.widen (k := 5) (n := 400) (by decide) (by decide) ?_
  refine va_putF (D := D) (ci := 1) (v := .ref q_19) (ty := (.array .int)) (C := RX1) (T := TX1) (N := 10) hx hb hts hinX1 tyX1 tyX1_ok nmX1 hown hK hP hD hS 0 rfl rfl 5 (by decide) (hts (.fieldLink RX1 28 "TaleReader$Mentions" "kinds" "[I") (uc5 _ (List.mem_of_getElem? (i := 3) rfl))) (fun _ h9 => h9) rfl hin rfl (by decide +kernel) rfl rfl (Nat.le_of_ble_eq_true rfl) dX1_init_46 (fun H_21 L_22 hP hD hS => ?_)
  have hP : va_P D vwCl [(h0, .inr (1, [.ref w, .ref q_3, .ref q_7, .ref q_11, .ref q_15, .ref q_19, .null, .null, .int 0, .int 0])), (q_3, .inl (cI, 80, .inl (fun _ => 0))), (q_7, .inl (cI, 80, .inl (fun _ => 0))), (q_11, .inl (cI, 80, .inl (fun _ => 0))), (q_15, .inl (cI, 80, .inl (fun _ => 0))), (q_19, .inl (cI, 80, .inl (fun _ => 0)))] H_21 := hP
  have hD : va_D A [(h0, .inr (1, [.ref w, .ref q_3, .ref q_7, .ref q_11, .ref q_15, .ref q_19, .null, .null, .int 0, .int 0])), (q_3, .inl (cI, 80, .inl (fun _ => 0))), (q_7, .inl (cI, 80, .inl (fun _ => 0))), (q_11, .inl (cI, 80, .inl (fun _ => 0))), (q_15, .inl (cI, 80, .inl (fun _ => 0))), (q_19, .inl (cI, 80, .inl (fun _ => 0)))] := hD
  refine lv_aload_n hx hb dX1_init_49 rfl (lv_at hl 0 rfl) ?_
  refine lv_bipush (v := 80) hx hb dX1_init_50 (by decide) ?_
  refine pNewa (D := D) (cl := vwCl) (ty := .int) (N' := 80) (a0 := (80, .inl (fun _ => 0))) (cA := cI) hx hb (hts (.arrayClass .int) (uc3 _ (List.mem_of_getElem? (i := 13) rfl))) rfl hK hP hD hS hA (fun _ => rfl) (by decide) (by decide) (by decide) (Nat.le_of_ble_eq_true rfl) (Nat.le_of_ble_eq_true rfl) dX1_init_52 1 rfl (fun q_23 H_24 hP hD hS => ?_)
  have hP : va_P D vwCl [(h0, .inr (1, [.ref w, .ref q_3, .ref q_7, .ref q_11, .ref q_15, .ref q_19, .null, .null, .int 0, .int 0])), (q_3, .inl (cI, 80, .inl (fun _ => 0))), (q_7, .inl (cI, 80, .inl (fun _ => 0))), (q_11, .inl (cI, 80, .inl (fun _ => 0))), (q_15, .inl (cI, 80, .inl (fun _ => 0))), (q_19, .inl (cI, 80, .inl (fun _ => 0))), (q_23, .inl (cI, 80, .inl (fun _ => 0)))] H_24 := hP
  have hD : va_D A [(h0, .inr (1, [.ref w, .ref q_3, .ref q_7, .ref q_11, .ref q_15, .ref q_19, .null, .null, .int 0, .int 0])), (q_3, .inl (cI, 80, .inl (fun _ => 0))), (q_7, .inl (cI, 80, .inl (fun _ => 0))), (q_11, .inl (cI, 80, .inl (fun _ => 0))), (q_15, .inl (cI, 80, .inl (fun _ => 0))), (q_19, .inl (cI, 80, .inl (fun _ => 0))), (q_23, .inl (cI, 80, .inl (fun _ => 0)))] := hD
  refine W.widen (k := 6) (n := 480) (by decide) (by decide) ?_
  refine va_putF (D := D) (ci := 1) (v := .ref q_23) (ty := (.array .int)) (C := RX1) (T := TX1) (N := 10) hx hb hts hinX1 tyX1 tyX1_ok nmX1 hown hK hP hD hS 0 rfl rfl 6 (by decide) (hts (.fieldLink RX1 31 "TaleReader$Mentions" "links" "[I") (uc5 _ (List.mem_of_getElem? (i := 4) rfl))) (fun _ h9 => h9) rfl hin rfl (by decide +kernel) rfl rfl (Nat.le_of_ble_eq_true rfl) dX1_init_54 (fun H_25 L_26 hP hD hS => ?_)
  have hP : va_P D vwCl [(h0, .inr (1, [.ref w, .ref q_3, .ref q_7, .ref q_11, .ref q_15, .ref q_19, .ref q_23, .null, .int 0, .int 0])), (q_3, .inl (cI, 80, .inl (fun _ => 0))), (q_7, .inl (cI, 80, .inl (fun _ => 0))), (q_11, .inl (cI, 80, .inl (fun _ => 0))), (q_15, .inl (cI, 80, .inl (fun _ => 0))), (q_19, .inl (cI, 80, .inl (fun _ => 0))), (q_23, .inl (cI, 80, .inl (fun _ => 0)))] H_25 := hP
  have hD : va_D A [(h0, .inr (1, [.ref w, .ref q_3, .ref q_7, .ref q_11, .ref q_15, .ref q_19, .ref q_23, .null, .int 0, .int 0])), (q_3, .inl (cI, 80, .inl (fun _ => 0))), (q_7, .inl (cI, 80, .inl (fun _ => 0))), (q_11, .inl (cI, 80, .inl (fun _ => 0))), (q_15, .inl (cI, 80, .inl (fun _ => 0))), (q_19, .inl (cI, 80, .inl (fun _ => 0))), (q_23, .inl (cI, 80, .inl (fun _ => 0)))] := hD
  refine lv_aload_n hx hb dX1_init_57 rfl (lv_at hl 0 rfl) ?_
  refine lv_bipush (v := 80) hx hb dX1_init_58 (by decide) ?_
  refine pNewa (D := D) (cl := vwCl) (ty := .int) (N' := 80) (a0 := (80, .inl (fun _ => 0))) (cA := cI) hx hb (hts (.arrayClass .int) (uc3 _ (List.mem_of_getElem? (i := 13) rfl))) rfl hK hP hD hS hA (fun _ => rfl) (by decide) (by decide) (by decide) (Nat.le_of_ble_eq_true rfl) (Nat.le_of_ble_eq_true rfl) dX1_init_60 1 rfl (fun q_27 H_28 hP hD hS => ?_)
  have hP : va_P D vwCl [(h0, .inr (1, [.ref w, .ref q_3, .ref q_7, .ref q_11, .ref q_15, .ref q_19, .ref q_23, .null, .int 0, .int 0])), (q_3, .inl (cI, 80, .inl (fun _ => 0))), (q_7, .inl (cI, 80, .inl (fun _ => 0))), (q_11, .inl (cI, 80, .inl (fun _ => 0))), (q_15, .inl (cI, 80, .inl (fun _ => 0))), (q_19, .inl (cI, 80, .inl (fun _ => 0))), (q_23, .inl (cI, 80, .inl (fun _ => 0))), (q_27, .inl (cI, 80, .inl (fun _ => 0)))] H_28 := hP
  have hD : va_D A [(h0, .inr (1, [.ref w, .ref q_3, .ref q_7, .ref q_11, .ref q_15, .ref q_19, .ref q_23, .null, .int 0, .int 0])), (q_3, .inl (cI, 80, .inl (fun _ => 0))), (q_7, .inl (cI, 80, .inl (fun _ => 0))), (q_11, .inl (cI, 80, .inl (fun _ => 0))), (q_15, .inl (cI, 80, .inl (fun _ => 0))), (q_19, .inl (cI, 80, .inl (fun _ => 0))), (q_23, .inl (cI, 80, .inl (fun _ => 0))), (q_27, .inl (cI, 80, .inl (fun _ => 0)))] := hD
  refine W.widen (k := 7) (n := 560) (by decide) (by decide) ?_
  refine va_putF (D := D) (ci := 1) (v := .ref q_27) (ty := (.array .int)) (C := RX1) (T := TX1) (N := 10) hx hb hts hinX1 tyX1 tyX1_ok nmX1 hown hK hP hD hS 0 rfl rfl 7 (by decide) (hts (.fieldLink RX1 34 "TaleReader$Mentions" "toldSexes" "[I") (uc5 _ (List.mem_of_getElem? (i := 5) rfl))) (fun _ h9 => h9) rfl hin rfl (by decide +kernel) rfl rfl (Nat.le_of_ble_eq_true rfl) dX1_init_62 (fun H_29 L_30 hP hD hS => ?_)
  have hP : va_P D vwCl [(h0, .inr (1, [.ref w, .ref q_3, .ref q_7, .ref q_11, .ref q_15, .ref q_19, .ref q_23, .ref q_27, .int 0, .int 0])), (q_3, .inl (cI, 80, .inl (fun _ => 0))), (q_7, .inl (cI, 80, .inl (fun _ => 0))), (q_11, .inl (cI, 80, .inl (fun _ => 0))), (q_15, .inl (cI, 80, .inl (fun _ => 0))), (q_19, .inl (cI, 80, .inl (fun _ => 0))), (q_23, .inl (cI, 80, .inl (fun _ => 0))), (q_27, .inl (cI, 80, .inl (fun _ => 0)))] H_29 := hP
  have hD : va_D A [(h0, .inr (1, [.ref w, .ref q_3, .ref q_7, .ref q_11, .ref q_15, .ref q_19, .ref q_23, .ref q_27, .int 0, .int 0])), (q_3, .inl (cI, 80, .inl (fun _ => 0))), (q_7, .inl (cI, 80, .inl (fun _ => 0))), (q_11, .inl (cI, 80, .inl (fun _ => 0))), (q_15, .inl (cI, 80, .inl (fun _ => 0))), (q_19, .inl (cI, 80, .inl (fun _ => 0))), (q_23, .inl (cI, 80, .inl (fun _ => 0))), (q_27, .inl (cI, 80, .inl (fun _ => 0)))] := hD
  refine lv_aload_n hx hb dX1_init_65 rfl (lv_at hl 0 rfl) ?_
  refine lv_iconst (v := 0) hx hb dX1_init_66 (by decide) ?_
  refine va_put (D := D) (ci := 1) (v := .int 0) (ty := .int) (C := RX1) (T := TX1) (N := 10) hx hb hts hinX1 tyX1 tyX1_ok nmX1 hown hK hP hD hS 0 rfl rfl 8 (by decide) (hts (.fieldLink RX1 37 "TaleReader$Mentions" "count" "I") (uc5 _ (List.mem_of_getElem? (i := 6) rfl))) (fun _ h9 => h9) rfl (by decide +kernel) rfl rfl (Nat.le_of_ble_eq_true rfl) dX1_init_67 (fun H_31 L_32 hP hD hS => ?_)
  have hP : va_P D vwCl [(h0, .inr (1, [.ref w, .ref q_3, .ref q_7, .ref q_11, .ref q_15, .ref q_19, .ref q_23, .ref q_27, .int 0, .int 0])), (q_3, .inl (cI, 80, .inl (fun _ => 0))), (q_7, .inl (cI, 80, .inl (fun _ => 0))), (q_11, .inl (cI, 80, .inl (fun _ => 0))), (q_15, .inl (cI, 80, .inl (fun _ => 0))), (q_19, .inl (cI, 80, .inl (fun _ => 0))), (q_23, .inl (cI, 80, .inl (fun _ => 0))), (q_27, .inl (cI, 80, .inl (fun _ => 0)))] H_31 := hP
  have hD : va_D A [(h0, .inr (1, [.ref w, .ref q_3, .ref q_7, .ref q_11, .ref q_15, .ref q_19, .ref q_23, .ref q_27, .int 0, .int 0])), (q_3, .inl (cI, 80, .inl (fun _ => 0))), (q_7, .inl (cI, 80, .inl (fun _ => 0))), (q_11, .inl (cI, 80, .inl (fun _ => 0))), (q_15, .inl (cI, 80, .inl (fun _ => 0))), (q_19, .inl (cI, 80, .inl (fun _ => 0))), (q_23, .inl (cI, 80, .inl (fun _ => 0))), (q_27, .inl (cI, 80, .inl (fun _ => 0)))] := hD
  refine lv_aload_n hx hb dX1_init_70 rfl (lv_at hl 0 rfl) ?_
  refine lv_iconst (v := 0) hx hb dX1_init_71 (by decide) ?_
  refine va_put (D := D) (ci := 1) (v := .int 0) (ty := .boolean) (C := RX1) (T := TX1) (N := 10) hx hb hts hinX1 tyX1 tyX1_ok nmX1 hown hK hP hD hS 0 rfl rfl 9 (by decide) (hts (.fieldLink RX1 41 "TaleReader$Mentions" "cut" "Z") (uc5 _ (List.mem_of_getElem? (i := 7) rfl))) (fun _ h9 => h9) rfl (by decide +kernel) rfl rfl (Nat.le_of_ble_eq_true rfl) dX1_init_72 (fun H_33 L_34 hP hD hS => ?_)
  have hP : va_P D vwCl [(h0, .inr (1, [.ref w, .ref q_3, .ref q_7, .ref q_11, .ref q_15, .ref q_19, .ref q_23, .ref q_27, .int 0, .int 0])), (q_3, .inl (cI, 80, .inl (fun _ => 0))), (q_7, .inl (cI, 80, .inl (fun _ => 0))), (q_11, .inl (cI, 80, .inl (fun _ => 0))), (q_15, .inl (cI, 80, .inl (fun _ => 0))), (q_19, .inl (cI, 80, .inl (fun _ => 0))), (q_23, .inl (cI, 80, .inl (fun _ => 0))), (q_27, .inl (cI, 80, .inl (fun _ => 0)))] H_33 := hP
  have hD : va_D A [(h0, .inr (1, [.ref w, .ref q_3, .ref q_7, .ref q_11, .ref q_15, .ref q_19, .ref q_23, .ref q_27, .int 0, .int 0])), (q_3, .inl (cI, 80, .inl (fun _ => 0))), (q_7, .inl (cI, 80, .inl (fun _ => 0))), (q_11, .inl (cI, 80, .inl (fun _ => 0))), (q_15, .inl (cI, 80, .inl (fun _ => 0))), (q_19, .inl (cI, 80, .inl (fun _ => 0))), (q_23, .inl (cI, 80, .inl (fun _ => 0))), (q_27, .inl (cI, 80, .inl (fun _ => 0)))] := hD
  have hP9 := hP.sub (ws' := [(h0, .inr (1, [.ref w, .ref q_3, .ref q_7, .ref q_11, .ref q_15, .ref q_19, .ref q_23, .ref q_27, .int 0, .int 0])), (q_3, .inl (cI, 80, .inl (fun _ => 0))), (q_7, .inl (cI, 80, .inl (fun _ => 0))), (q_11, .inl (cI, 80, .inl (fun _ => 0))), (q_15, .inl (cI, 80, .inl (fun _ => 0))), (q_19, .inl (cI, 80, .inl (fun _ => 0))), (q_23, .inl (cI, 80, .inl (fun _ => 0))), (q_27, .inl (cI, 80, .inl (fun _ => 0)))]) [0, 1, 2, 3, 4, 5, 6, 7] rfl
  have hD9 := hD.sub (ws' := [(h0, .inr (1, [.ref w, .ref q_3, .ref q_7, .ref q_11, .ref q_15, .ref q_19, .ref q_23, .ref q_27, .int 0, .int 0])), (q_3, .inl (cI, 80, .inl (fun _ => 0))), (q_7, .inl (cI, 80, .inl (fun _ => 0))), (q_11, .inl (cI, 80, .inl (fun _ => 0))), (q_15, .inl (cI, 80, .inl (fun _ => 0))), (q_19, .inl (cI, 80, .inl (fun _ => 0))), (q_23, .inl (cI, 80, .inl (fun _ => 0))), (q_27, .inl (cI, 80, .inl (fun _ => 0)))]) [0, 1, 2, 3, 4, 5, 6, 7] (by decide) rfl
  exact W.vret hx hb hr (fun t ht hW => ⟨⟨(q_3, q_7, q_11, q_15, q_19, q_23, q_27), rfl, trivial, ⟨by rw [ht]; exact hP9, va_K.moved hW.alike hK, hD9⟩⟩, hS.F ht⟩) hS.2.2 dX1_init_75
set_option maxHeartbeats 4000000 in
set_option maxRecDepth 100000 in
theorem c_X1_size (l : Launch) (D : va_G) (cB cI cZ : ClassId) (sz : Nat) (h0 : Nat) (w : Nat) (ma1 : Nat) (ma2 : Nat) (ma3 : Nat) (ma4 : Nat) (ma5 : Nat) (ma6 : Nat) (ma7 : Nat) (cnt : Int32) (cut : Int32) : Met l yX1_size (.code yX1_size cX1_size 1 (some .int) :: wsL_law) ({ frames := 0, cells := 0, slots := 0, locals := 0 } : Room) (va_Pc [.ref h0] (pIn D (pT cB cI cZ) sz [(h0, .inr (1, [.ref w, .ref ma1, .ref ma2, .ref ma3, .ref ma4, .ref ma5, .ref ma6, .ref ma7, .int cnt, .int cut]))])) (va_Qi (fun (r : Int32) (u : Unit) => r = cnt) (fun (u : Unit) (t : State) => pAt D (pT cB cI cZ) (va_A [(h0, .inr (1, [.ref w, .ref ma1, .ref ma2, .ref ma3, .ref ma4, .ref ma5, .ref ma6, .ref ma7, .int cnt, .int cut]))] sz) [(h0, .inr (1, [.ref w, .ref ma1, .ref ma2, .ref ma3, .ref ma4, .ref ma5, .ref ma6, .ref ma7, .int cnt, .int cut]))] t) (va_A [(h0, .inr (1, [.ref w, .ref ma1, .ref ma2, .ref ma3, .ref ma4, .ref ma5, .ref ma6, .ref ma7, .int cnt, .int cut]))] sz)) 0 0 (va_A [(h0, .inr (1, [.ref w, .ref ma1, .ref ma2, .ref ma3, .ref ma4, .ref ma5, .ref ma6, .ref ma7, .int cnt, .int cut]))] sz) := by
  refine Met.ofW (cc := cX1_size) (maxL := 1) (ret := (some .int)) (by decide) rfl ?_
  intro p e s m args below meth c s₁ B hml hv
  obtain ⟨rfl, hsz, hP, hK, hD0⟩ := hv
  have hx := B.exec
  have hb := B.bytes
  have hr := B.returns
  have hts0 := atoms_spec (ws := .code yX1_size cX1_size 1 (some .int) :: wsL_law) B.pre
  have hts := fun (w : Cond) (h : w ∈ wsL_law) => hts0 w (List.mem_cons_of_mem _ h)
  have hown : s.vm.findClass RX1 = some m.cls := findClass_of_methodNamed B.named
  have hlocks := B.notSynchronized
  have hinX1 := inlX1
  subst hsz
  have hD := hD0.self (sz := s.heap.size)
  generalize hAe : va_A [(h0, .inr (1, [.ref w, .ref ma1, .ref ma2, .ref ma3, .ref ma4, .ref ma5, .ref ma6, .ref ma7, .int cnt, .int cut]))] s.heap.size = A at hD ⊢
  have hA : ∀ q : Nat, s.heap.size ≤ q → A q := fun q h => by rw [← hAe]; exact Or.inr h
  have hS : va_S A s.heap s.heap [] := va_S.rf
  have hP : va_P D vwCl [(h0, .inr (1, [.ref w, .ref ma1, .ref ma2, .ref ma3, .ref ma4, .ref ma5, .ref ma6, .ref ma7, .int cnt, .int cut]))] s.heap := hP
  have hl := lv_entry ([.ref h0]) (n := 1) (Nat.le_of_ble_eq_true rfl)
  rw [lg_entry_eq]
  generalize (lg_sl ([.ref h0]) ++ List.replicate (1 - (lg_sl ([.ref h0])).length) Slot.unset).toArray = ls at hl ⊢
  have hl : lv_has ls 1 [(0, .ref h0)] := hl
  refine lv_aload_n hx hb dX1_size_0 rfl (lv_at hl 0 rfl) ?_
  refine va_get (D := D) (ci := 1) (v := .int cnt) (C := RX1) (T := TX1) (N := 10) hx hb hts hinX1 hown hK hP 0 rfl rfl 8 (by decide) (hts (.fieldLink RX1 37 "TaleReader$Mentions" "count" "I") (uc5 _ (List.mem_of_getElem? (i := 6) rfl))) (fun _ h9 => h9) rfl dX1_size_1 ?_
  have hP9 := hP.sub (ws' := [(h0, .inr (1, [.ref w, .ref ma1, .ref ma2, .ref ma3, .ref ma4, .ref ma5, .ref ma6, .ref ma7, .int cnt, .int cut]))]) [0] rfl
  have hD9 := hD.sub (ws' := [(h0, .inr (1, [.ref w, .ref ma1, .ref ma2, .ref ma3, .ref ma4, .ref ma5, .ref ma6, .ref ma7, .int cnt, .int cut]))]) [0] (by decide) rfl
  exact W.iret (v := cnt) hx hb hr (fun t ht hW => ⟨⟨cnt, (), rfl, rfl, ⟨by rw [ht]; exact hP9, va_K.moved hW.alike hK, hD9⟩⟩, hS.F ht⟩) hS.2.2 dX1_size_4
set_option maxHeartbeats 4000000 in
set_option maxRecDepth 100000 in
theorem c_X1_isCut (l : Launch) (D : va_G) (cB cI cZ : ClassId) (sz : Nat) (h0 : Nat) (w : Nat) (ma1 : Nat) (ma2 : Nat) (ma3 : Nat) (ma4 : Nat) (ma5 : Nat) (ma6 : Nat) (ma7 : Nat) (cnt : Int32) (cut : Int32) (hz : cut = 0 ∨ cut = 1) : Met l yX1_isCut (.code yX1_isCut cX1_isCut 1 (some .boolean) :: wsL_law) ({ frames := 0, cells := 0, slots := 0, locals := 0 } : Room) (va_Pc [.ref h0] (pIn D (pT cB cI cZ) sz [(h0, .inr (1, [.ref w, .ref ma1, .ref ma2, .ref ma3, .ref ma4, .ref ma5, .ref ma6, .ref ma7, .int cnt, .int cut]))])) (va_Qi (fun (r : Int32) (u : Unit) => r = cut) (fun (u : Unit) (t : State) => pAt D (pT cB cI cZ) (va_A [(h0, .inr (1, [.ref w, .ref ma1, .ref ma2, .ref ma3, .ref ma4, .ref ma5, .ref ma6, .ref ma7, .int cnt, .int cut]))] sz) [(h0, .inr (1, [.ref w, .ref ma1, .ref ma2, .ref ma3, .ref ma4, .ref ma5, .ref ma6, .ref ma7, .int cnt, .int cut]))] t) (va_A [(h0, .inr (1, [.ref w, .ref ma1, .ref ma2, .ref ma3, .ref ma4, .ref ma5, .ref ma6, .ref ma7, .int cnt, .int cut]))] sz)) 0 0 (va_A [(h0, .inr (1, [.ref w, .ref ma1, .ref ma2, .ref ma3, .ref ma4, .ref ma5, .ref ma6, .ref ma7, .int cnt, .int cut]))] sz) := by
  refine Met.ofW (cc := cX1_isCut) (maxL := 1) (ret := (some .boolean)) (by decide) rfl ?_
  intro p e s m args below meth c s₁ B hml hv
  obtain ⟨rfl, hsz, hP, hK, hD0⟩ := hv
  have hx := B.exec
  have hb := B.bytes
  have hr := B.returns
  have hts0 := atoms_spec (ws := .code yX1_isCut cX1_isCut 1 (some .boolean) :: wsL_law) B.pre
  have hts := fun (w : Cond) (h : w ∈ wsL_law) => hts0 w (List.mem_cons_of_mem _ h)
  have hown : s.vm.findClass RX1 = some m.cls := findClass_of_methodNamed B.named
  have hlocks := B.notSynchronized
  have hinX1 := inlX1
  subst hsz
  have hD := hD0.self (sz := s.heap.size)
  generalize hAe : va_A [(h0, .inr (1, [.ref w, .ref ma1, .ref ma2, .ref ma3, .ref ma4, .ref ma5, .ref ma6, .ref ma7, .int cnt, .int cut]))] s.heap.size = A at hD ⊢
  have hA : ∀ q : Nat, s.heap.size ≤ q → A q := fun q h => by rw [← hAe]; exact Or.inr h
  have hS : va_S A s.heap s.heap [] := va_S.rf
  have hP : va_P D vwCl [(h0, .inr (1, [.ref w, .ref ma1, .ref ma2, .ref ma3, .ref ma4, .ref ma5, .ref ma6, .ref ma7, .int cnt, .int cut]))] s.heap := hP
  have hl := lv_entry ([.ref h0]) (n := 1) (Nat.le_of_ble_eq_true rfl)
  rw [lg_entry_eq]
  generalize (lg_sl ([.ref h0]) ++ List.replicate (1 - (lg_sl ([.ref h0])).length) Slot.unset).toArray = ls at hl ⊢
  have hl : lv_has ls 1 [(0, .ref h0)] := hl
  refine lv_aload_n hx hb dX1_isCut_0 rfl (lv_at hl 0 rfl) ?_
  refine va_get (D := D) (ci := 1) (v := .int cut) (C := RX1) (T := TX1) (N := 10) hx hb hts hinX1 hown hK hP 0 rfl rfl 9 (by decide) (hts (.fieldLink RX1 41 "TaleReader$Mentions" "cut" "Z") (uc5 _ (List.mem_of_getElem? (i := 7) rfl))) (fun _ h9 => h9) rfl dX1_isCut_1 ?_
  have hP9 := hP.sub (ws' := [(h0, .inr (1, [.ref w, .ref ma1, .ref ma2, .ref ma3, .ref ma4, .ref ma5, .ref ma6, .ref ma7, .int cnt, .int cut]))]) [0] rfl
  have hD9 := hD.sub (ws' := [(h0, .inr (1, [.ref w, .ref ma1, .ref ma2, .ref ma3, .ref ma4, .ref ma5, .ref ma6, .ref ma7, .int cnt, .int cut]))]) [0] (by decide) rfl
  exact W.zret (v := cut) hx hb hr (by rcases hz with rfl | rfl <;> rfl) (fun t ht hW => ⟨⟨cut, (), rfl, rfl, ⟨by rw [ht]; exact hP9, va_K.moved hW.alike hK, hD9⟩⟩, hS.F ht⟩) hS.2.2 dX1_isCut_4
set_option maxHeartbeats 4000000 in
set_option maxRecDepth 100000 in
theorem c_X1_has (l : Launch) (D : va_G) (cB cI cZ : ClassId) (sz : Nat) (h0 : Nat) (w : Nat) (ma1 : Nat) (ma2 : Nat) (ma3 : Nat) (ma4 : Nat) (ma5 : Nat) (ma6 : Nat) (ma7 : Nat) (cnt : Int32) (cut : Int32) (k : Int32) : Met l yX1_has (.code yX1_has cX1_has 2 (some .boolean) :: wsL_law) ({ frames := 0, cells := 0, slots := 0, locals := 0 } : Room) (va_Pc [.ref h0, .int k] (pIn D (pT cB cI cZ) sz [(h0, .inr (1, [.ref w, .ref ma1, .ref ma2, .ref ma3, .ref ma4, .ref ma5, .ref ma6, .ref ma7, .int cnt, .int cut]))])) (va_Qi (fun (r : Int32) (u : Unit) => ((r = 0) ∧ (k < 0 ∨ cnt ≤ k)) ∨ ((r = 1) ∧ (¬ k < 0) ∧ (¬ cnt ≤ k))) (fun (u : Unit) (t : State) => pAt D (pT cB cI cZ) (va_A [(h0, .inr (1, [.ref w, .ref ma1, .ref ma2, .ref ma3, .ref ma4, .ref ma5, .ref ma6, .ref ma7, .int cnt, .int cut]))] sz) [(h0, .inr (1, [.ref w, .ref ma1, .ref ma2, .ref ma3, .ref ma4, .ref ma5, .ref ma6, .ref ma7, .int cnt, .int cut]))] t) (va_A [(h0, .inr (1, [.ref w, .ref ma1, .ref ma2, .ref ma3, .ref ma4, .ref ma5, .ref ma6, .ref ma7, .int cnt, .int cut]))] sz)) 0 0 (va_A [(h0, .inr (1, [.ref w, .ref ma1, .ref ma2, .ref ma3, .ref ma4, .ref ma5, .ref ma6, .ref ma7, .int cnt, .int cut]))] sz) := by
  refine Met.ofW (cc := cX1_has) (maxL := 2) (ret := (some .boolean)) (by decide) rfl ?_
  intro p e s m args below meth c s₁ B hml hv
  obtain ⟨rfl, hsz, hP, hK, hD0⟩ := hv
  have hx := B.exec
  have hb := B.bytes
  have hr := B.returns
  have hts0 := atoms_spec (ws := .code yX1_has cX1_has 2 (some .boolean) :: wsL_law) B.pre
  have hts := fun (w : Cond) (h : w ∈ wsL_law) => hts0 w (List.mem_cons_of_mem _ h)
  have hown : s.vm.findClass RX1 = some m.cls := findClass_of_methodNamed B.named
  have hlocks := B.notSynchronized
  have hinX1 := inlX1
  subst hsz
  have hD := hD0.self (sz := s.heap.size)
  generalize hAe : va_A [(h0, .inr (1, [.ref w, .ref ma1, .ref ma2, .ref ma3, .ref ma4, .ref ma5, .ref ma6, .ref ma7, .int cnt, .int cut]))] s.heap.size = A at hD ⊢
  have hA : ∀ q : Nat, s.heap.size ≤ q → A q := fun q h => by rw [← hAe]; exact Or.inr h
  have hS : va_S A s.heap s.heap [] := va_S.rf
  have hP : va_P D vwCl [(h0, .inr (1, [.ref w, .ref ma1, .ref ma2, .ref ma3, .ref ma4, .ref ma5, .ref ma6, .ref ma7, .int cnt, .int cut]))] s.heap := hP
  have hl := lv_entry ([.ref h0, .int k]) (n := 2) (Nat.le_of_ble_eq_true rfl)
  rw [lg_entry_eq]
  generalize (lg_sl ([.ref h0, .int k]) ++ List.replicate (2 - (lg_sl ([.ref h0, .int k])).length) Slot.unset).toArray = ls at hl ⊢
  have hl : lv_has ls 2 [(0, .ref h0), (1, .int k)] := hl
  refine lv_iload_n hx hb dX1_has_0 rfl (lv_at hl 1 rfl) ?_
  refine lv_if_lt (tgt := 16) hx hb dX1_has_1 (by decide) (fun c_1 => ?_) (fun c_1 => ?_)
  · refine lv_iconst (v := 0) hx hb dX1_has_16 (by decide) ?_
    have hP9 := hP.sub (ws' := [(h0, .inr (1, [.ref w, .ref ma1, .ref ma2, .ref ma3, .ref ma4, .ref ma5, .ref ma6, .ref ma7, .int cnt, .int cut]))]) [0] rfl
    have hD9 := hD.sub (ws' := [(h0, .inr (1, [.ref w, .ref ma1, .ref ma2, .ref ma3, .ref ma4, .ref ma5, .ref ma6, .ref ma7, .int cnt, .int cut]))]) [0] (by decide) rfl
    exact W.zret (v := 0) hx hb hr (rfl) (fun t ht hW => ⟨⟨0, (), rfl, Or.inl (⟨rfl, Or.inl c_1⟩), ⟨by rw [ht]; exact hP9, va_K.moved hW.alike hK, hD9⟩⟩, hS.F ht⟩) hS.2.2 dX1_has_17
  · refine lv_iload_n hx hb dX1_has_4 rfl (lv_at hl 1 rfl) ?_
    refine lv_aload_n hx hb dX1_has_5 rfl (lv_at hl 0 rfl) ?_
    refine va_get (D := D) (ci := 1) (v := .int cnt) (C := RX1) (T := TX1) (N := 10) hx hb hts hinX1 hown hK hP 0 rfl rfl 8 (by decide) (hts (.fieldLink RX1 37 "TaleReader$Mentions" "count" "I") (uc5 _ (List.mem_of_getElem? (i := 6) rfl))) (fun _ h9 => h9) rfl dX1_has_6 ?_
    refine lv_icmp_ge (tgt := 16) hx hb dX1_has_9 (by decide) (fun c_2 => ?_) (fun c_2 => ?_)
    · refine lv_iconst (v := 0) hx hb dX1_has_16 (by decide) ?_
      have hP9 := hP.sub (ws' := [(h0, .inr (1, [.ref w, .ref ma1, .ref ma2, .ref ma3, .ref ma4, .ref ma5, .ref ma6, .ref ma7, .int cnt, .int cut]))]) [0] rfl
      have hD9 := hD.sub (ws' := [(h0, .inr (1, [.ref w, .ref ma1, .ref ma2, .ref ma3, .ref ma4, .ref ma5, .ref ma6, .ref ma7, .int cnt, .int cut]))]) [0] (by decide) rfl
      exact W.zret (v := 0) hx hb hr (rfl) (fun t ht hW => ⟨⟨0, (), rfl, Or.inl (⟨rfl, Or.inr c_2⟩), ⟨by rw [ht]; exact hP9, va_K.moved hW.alike hK, hD9⟩⟩, hS.F ht⟩) hS.2.2 dX1_has_17
    · refine lv_iconst (v := 1) hx hb dX1_has_12 (by decide) ?_
      refine lv_goto (tgt := 17) hx hb dX1_has_13 (by decide) ?_
      have hP9 := hP.sub (ws' := [(h0, .inr (1, [.ref w, .ref ma1, .ref ma2, .ref ma3, .ref ma4, .ref ma5, .ref ma6, .ref ma7, .int cnt, .int cut]))]) [0] rfl
      have hD9 := hD.sub (ws' := [(h0, .inr (1, [.ref w, .ref ma1, .ref ma2, .ref ma3, .ref ma4, .ref ma5, .ref ma6, .ref ma7, .int cnt, .int cut]))]) [0] (by decide) rfl
      exact W.zret (v := 1) hx hb hr (rfl) (fun t ht hW => ⟨⟨1, (), rfl, Or.inr ((⟨rfl, by first | assumption | rfl | omega, by first | assumption | rfl | omega⟩)), ⟨by rw [ht]; exact hP9, va_K.moved hW.alike hK, hD9⟩⟩, hS.F ht⟩) hS.2.2 dX1_has_17
set_option maxHeartbeats 4000000 in
set_option maxRecDepth 100000 in
theorem c_X1_isName_0 (l : Launch) (D : va_G) (cB cI cZ : ClassId) (sz : Nat) (h0 : Nat) (w : Nat) (ma1 : Nat) (ma2 : Nat) (ma3 : Nat) (ma4 : Nat) (ma5 : Nat) (ma6 : Nat) (ma7 : Nat) (cut : Int32) (k : Int32) : Met l yX1_isName (.code yX1_isName cX1_isName 2 (some .boolean) :: wsL_law) ({ frames := 1, cells := 0, slots := 0, locals := 21 } : Room) (va_Pc [.ref h0, .int k] (pIn D (pT cB cI cZ) sz [(h0, .inr (1, [.ref w, .ref ma1, .ref ma2, .ref ma3, .ref ma4, .ref ma5, .ref ma6, .ref ma7, .int 0, .int cut]))])) (va_Qi (fun (r : Int32) (u : Unit) => r = 0) (fun (u : Unit) (t : State) => pAt D (pT cB cI cZ) (va_A [(h0, .inr (1, [.ref w, .ref ma1, .ref ma2, .ref ma3, .ref ma4, .ref ma5, .ref ma6, .ref ma7, .int 0, .int cut]))] sz) [(h0, .inr (1, [.ref w, .ref ma1, .ref ma2, .ref ma3, .ref ma4, .ref ma5, .ref ma6, .ref ma7, .int 0, .int cut]))] t) (va_A [(h0, .inr (1, [.ref w, .ref ma1, .ref ma2, .ref ma3, .ref ma4, .ref ma5, .ref ma6, .ref ma7, .int 0, .int cut]))] sz)) 0 0 (va_A [(h0, .inr (1, [.ref w, .ref ma1, .ref ma2, .ref ma3, .ref ma4, .ref ma5, .ref ma6, .ref ma7, .int 0, .int cut]))] sz) := by
  refine Met.ofW (cc := cX1_isName) (maxL := 2) (ret := (some .boolean)) (by decide) rfl ?_
  intro p e s m args below meth c s₁ B hml hv
  obtain ⟨rfl, hsz, hP, hK, hD0⟩ := hv
  have hx := B.exec
  have hb := B.bytes
  have hr := B.returns
  have hts0 := atoms_spec (ws := .code yX1_isName cX1_isName 2 (some .boolean) :: wsL_law) B.pre
  have hts := fun (w : Cond) (h : w ∈ wsL_law) => hts0 w (List.mem_cons_of_mem _ h)
  have hown : s.vm.findClass RX1 = some m.cls := findClass_of_methodNamed B.named
  have hlocks := B.notSynchronized
  subst hsz
  have hD := hD0.self (sz := s.heap.size)
  generalize hAe : va_A [(h0, .inr (1, [.ref w, .ref ma1, .ref ma2, .ref ma3, .ref ma4, .ref ma5, .ref ma6, .ref ma7, .int 0, .int cut]))] s.heap.size = A at hD ⊢
  have hA : ∀ q : Nat, s.heap.size ≤ q → A q := fun q h => by rw [← hAe]; exact Or.inr h
  have hS : va_S A s.heap s.heap [] := va_S.rf
  have hP : va_P D vwCl [(h0, .inr (1, [.ref w, .ref ma1, .ref ma2, .ref ma3, .ref ma4, .ref ma5, .ref ma6, .ref ma7, .int 0, .int cut]))] s.heap := hP
  have hl := lv_entry ([.ref h0, .int k]) (n := 2) (Nat.le_of_ble_eq_true rfl)
  rw [lg_entry_eq]
  generalize (lg_sl ([.ref h0, .int k]) ++ List.replicate (2 - (lg_sl ([.ref h0, .int k])).length) Slot.unset).toArray = ls at hl ⊢
  have hl : lv_has ls 2 [(0, .ref h0), (1, .int k)] := hl
  refine lv_aload_n hx hb dX1_isName_0 rfl (lv_at hl 0 rfl) ?_
  refine lv_iload_n hx hb dX1_isName_1 rfl (lv_at hl 1 rfl) ?_
  have hPc := hP.sub (ws' := [(h0, .inr (1, [.ref w, .ref ma1, .ref ma2, .ref ma3, .ref ma4, .ref ma5, .ref ma6, .ref ma7, .int 0, .int cut]))]) [0] rfl
  have hDc := hD.sub (ws' := [(h0, .inr (1, [.ref w, .ref ma1, .ref ma2, .ref ma3, .ref ma4, .ref ma5, .ref ma6, .ref ma7, .int 0, .int cut]))]) [0] (by decide) rfl
  have hFc := va_free (wc := [(h0, .inr (1, [.ref w, .ref ma1, .ref ma2, .ref ma3, .ref ma4, .ref ma5, .ref ma6, .ref ma7, .int 0, .int cut]))]) hD hS hA [0] rfl
  refine va_calli (va_runV (As := [.int k]) (rest := []) ⟨hx, hb, hml, hown, hts⟩ (c_X1_has l D cB cI cZ s.heap.size h0 w ma1 ma2 ma3 ma4 ma5 ma6 ma7 0 cut k) (cwV 1 hts (uV (uc17 _ (List.mem_of_getElem? (i := 10) rfl)) (uc17 _ (List.mem_of_getElem? (i := 11) rfl)) (uc17 _ (List.mem_of_getElem? (i := 12) rfl)) (uc2 _ (List.mem_of_getElem? (i := 6) rfl)) (uc17 _ (List.mem_of_getElem? (i := 13) rfl))) rfl rfl rfl (by decide +kernel) ⟨Nat.le_of_ble_eq_true rfl, Nat.le_of_ble_eq_true rfl⟩) (pV hK hPc hDc 0 rfl rfl) rfl rfl hl.1 rfl (lv_room (Nat.le_of_ble_eq_true rfl)) dX1_isName_2 ⟨Nat.le_of_ble_eq_true rfl, Nat.le_of_ble_eq_true rfl⟩) hS (fun q _ h => hFc q h) hFc (fun r_1 u t H_2 L_3 ht hvm hw hB hz1 hk1 hS => ?_)
  obtain ⟨hP1, -, hD1⟩ := hB
  rw [ht] at hP1
  obtain ⟨hP, hD⟩ := va_join (wr := []) (w1 := [(h0, .inr (1, [.ref w, .ref ma1, .ref ma2, .ref ma3, .ref ma4, .ref ma5, .ref ma6, .ref ma7, .int 0, .int cut]))]) hP hD [0] [] rfl rfl (by decide) (by decide) hk1 hFc hP1 hD1
  have hP : va_P D vwCl [(h0, .inr (1, [.ref w, .ref ma1, .ref ma2, .ref ma3, .ref ma4, .ref ma5, .ref ma6, .ref ma7, .int 0, .int cut]))] H_2 := hP.sub [0] rfl
  have hD : va_D A [(h0, .inr (1, [.ref w, .ref ma1, .ref ma2, .ref ma3, .ref ma4, .ref ma5, .ref ma6, .ref ma7, .int 0, .int cut]))] := hD.sub [0] (by decide) rfl
  try dsimp only at hw
  rcases hw with ⟨rfl, h_4⟩ | ⟨rfl, h_5, h_6⟩
  · refine lv_if_eq (tgt := 21) hx hb dX1_isName_5 (by decide) (fun c_7 => ?_) (fun c_7 => ?_)
    · refine lv_iconst (v := 0) hx hb dX1_isName_21 (by decide) ?_
      have hP9 := hP.sub (ws' := [(h0, .inr (1, [.ref w, .ref ma1, .ref ma2, .ref ma3, .ref ma4, .ref ma5, .ref ma6, .ref ma7, .int 0, .int cut]))]) [0] rfl
      have hD9 := hD.sub (ws' := [(h0, .inr (1, [.ref w, .ref ma1, .ref ma2, .ref ma3, .ref ma4, .ref ma5, .ref ma6, .ref ma7, .int 0, .int cut]))]) [0] (by decide) rfl
      exact W.zret (v := 0) hx hb hr (rfl) (fun t ht hW => ⟨⟨0, (), rfl, rfl, ⟨by rw [ht]; exact hP9, va_K.moved hW.alike hK, hD9⟩⟩, hS.F ht⟩) hS.2.2 dX1_isName_22
    · exact False.elim (by revert c_7; decide)
  · exact False.elim (by exact pE1 h_5 h_6)
set_option maxHeartbeats 4000000 in
set_option maxRecDepth 100000 in
theorem c_X1_gather_0 (l : Launch) (D : va_G) (cB cI cZ : ClassId) (sz : Nat) (h0 : Nat) (w : Nat) (ma1 : Nat) (ma2 : Nat) (ma3 : Nat) (ma4 : Nat) (ma5 : Nat) (ma6 : Nat) (ma7 : Nat) (cnt : Int32) (cut : Int32) (tl : Nat) (td : Nat) (wa1 : Nat) (wa2 : Nat) (wa3 : Nat) (wa4 : Nat) (sc : Int32) : Met l yX1_gather (.code yX1_gather cX1_gather 5 none :: wsL_law) ({ frames := 1, cells := 0, slots := 0, locals := 20 } : Room) (va_Pc [.ref h0, .ref td] (pIn D (pT cB cI cZ) sz [(h0, .inr (1, [.ref w, .ref ma1, .ref ma2, .ref ma3, .ref ma4, .ref ma5, .ref ma6, .ref ma7, .int cnt, .int cut])), (w, .inr (7, [.ref tl, .ref wa1, .ref wa2, .ref wa3, .ref wa4, .int 0, .int sc]))])) (va_Qv (fun (u : Unit) => True) (fun (u : Unit) (t : State) => pAt D (pT cB cI cZ) (va_A [(h0, .inr (1, [.ref w, .ref ma1, .ref ma2, .ref ma3, .ref ma4, .ref ma5, .ref ma6, .ref ma7, .int cnt, .int cut])), (w, .inr (7, [.ref tl, .ref wa1, .ref wa2, .ref wa3, .ref wa4, .int 0, .int sc]))] sz) [(h0, .inr (1, [.ref w, .ref ma1, .ref ma2, .ref ma3, .ref ma4, .ref ma5, .ref ma6, .ref ma7, .int 0, .int 0])), (w, .inr (7, [.ref tl, .ref wa1, .ref wa2, .ref wa3, .ref wa4, .int 0, .int sc]))] t) (va_A [(h0, .inr (1, [.ref w, .ref ma1, .ref ma2, .ref ma3, .ref ma4, .ref ma5, .ref ma6, .ref ma7, .int cnt, .int cut])), (w, .inr (7, [.ref tl, .ref wa1, .ref wa2, .ref wa3, .ref wa4, .int 0, .int sc]))] sz)) 0 0 (va_A [(h0, .inr (1, [.ref w, .ref ma1, .ref ma2, .ref ma3, .ref ma4, .ref ma5, .ref ma6, .ref ma7, .int cnt, .int cut])), (w, .inr (7, [.ref tl, .ref wa1, .ref wa2, .ref wa3, .ref wa4, .int 0, .int sc]))] sz) := by
  refine Met.ofW (cc := cX1_gather) (maxL := 5) (ret := none) (by decide) rfl ?_
  intro p e s m args below meth c s₁ B hml hv
  obtain ⟨rfl, hsz, hP, hK, hD0⟩ := hv
  have hx := B.exec
  have hb := B.bytes
  have hr := B.returns
  have hts0 := atoms_spec (ws := .code yX1_gather cX1_gather 5 none :: wsL_law) B.pre
  have hts := fun (w : Cond) (h : w ∈ wsL_law) => hts0 w (List.mem_cons_of_mem _ h)
  have hown : s.vm.findClass RX1 = some m.cls := findClass_of_methodNamed B.named
  have hlocks := B.notSynchronized
  have hinX1 := inlX1
  subst hsz
  have hD := hD0.self (sz := s.heap.size)
  generalize hAe : va_A [(h0, .inr (1, [.ref w, .ref ma1, .ref ma2, .ref ma3, .ref ma4, .ref ma5, .ref ma6, .ref ma7, .int cnt, .int cut])), (w, .inr (7, [.ref tl, .ref wa1, .ref wa2, .ref wa3, .ref wa4, .int 0, .int sc]))] s.heap.size = A at hD ⊢
  have hA : ∀ q : Nat, s.heap.size ≤ q → A q := fun q h => by rw [← hAe]; exact Or.inr h
  have hS : va_S A s.heap s.heap [] := va_S.rf
  have hP : va_P D vwCl [(h0, .inr (1, [.ref w, .ref ma1, .ref ma2, .ref ma3, .ref ma4, .ref ma5, .ref ma6, .ref ma7, .int cnt, .int cut])), (w, .inr (7, [.ref tl, .ref wa1, .ref wa2, .ref wa3, .ref wa4, .int 0, .int sc]))] s.heap := hP
  have hl := lv_entry ([.ref h0, .ref td]) (n := 5) (Nat.le_of_ble_eq_true rfl)
  rw [lg_entry_eq]
  generalize (lg_sl ([.ref h0, .ref td]) ++ List.replicate (5 - (lg_sl ([.ref h0, .ref td])).length) Slot.unset).toArray = ls at hl ⊢
  have hl : lv_has ls 5 [(0, .ref h0), (1, .ref td)] := hl
  refine lv_aload_n hx hb dX1_gather_0 rfl (lv_at hl 0 rfl) ?_
  refine lv_iconst (v := 0) hx hb dX1_gather_1 (by decide) ?_
  refine va_put (D := D) (ci := 1) (v := .int 0) (ty := .int) (C := RX1) (T := TX1) (N := 10) hx hb hts hinX1 tyX1 tyX1_ok nmX1 hown hK hP hD hS 0 rfl rfl 8 (by decide) (hts (.fieldLink RX1 37 "TaleReader$Mentions" "count" "I") (uc5 _ (List.mem_of_getElem? (i := 6) rfl))) (fun _ h9 => h9) rfl (by decide +kernel) rfl rfl (Nat.le_of_ble_eq_true rfl) dX1_gather_2 (fun H_1 L_2 hP hD hS => ?_)
  have hP : va_P D vwCl [(h0, .inr (1, [.ref w, .ref ma1, .ref ma2, .ref ma3, .ref ma4, .ref ma5, .ref ma6, .ref ma7, .int 0, .int cut])), (w, .inr (7, [.ref tl, .ref wa1, .ref wa2, .ref wa3, .ref wa4, .int 0, .int sc]))] H_1 := hP
  have hD : va_D A [(h0, .inr (1, [.ref w, .ref ma1, .ref ma2, .ref ma3, .ref ma4, .ref ma5, .ref ma6, .ref ma7, .int 0, .int cut])), (w, .inr (7, [.ref tl, .ref wa1, .ref wa2, .ref wa3, .ref wa4, .int 0, .int sc]))] := hD
  refine lv_aload_n hx hb dX1_gather_5 rfl (lv_at hl 0 rfl) ?_
  refine lv_iconst (v := 0) hx hb dX1_gather_6 (by decide) ?_
  refine va_put (D := D) (ci := 1) (v := .int 0) (ty := .boolean) (C := RX1) (T := TX1) (N := 10) hx hb hts hinX1 tyX1 tyX1_ok nmX1 hown hK hP hD hS 0 rfl rfl 9 (by decide) (hts (.fieldLink RX1 41 "TaleReader$Mentions" "cut" "Z") (uc5 _ (List.mem_of_getElem? (i := 7) rfl))) (fun _ h9 => h9) rfl (by decide +kernel) rfl rfl (Nat.le_of_ble_eq_true rfl) dX1_gather_7 (fun H_3 L_4 hP hD hS => ?_)
  have hP : va_P D vwCl [(h0, .inr (1, [.ref w, .ref ma1, .ref ma2, .ref ma3, .ref ma4, .ref ma5, .ref ma6, .ref ma7, .int 0, .int 0])), (w, .inr (7, [.ref tl, .ref wa1, .ref wa2, .ref wa3, .ref wa4, .int 0, .int sc]))] H_3 := hP
  have hD : va_D A [(h0, .inr (1, [.ref w, .ref ma1, .ref ma2, .ref ma3, .ref ma4, .ref ma5, .ref ma6, .ref ma7, .int 0, .int 0])), (w, .inr (7, [.ref tl, .ref wa1, .ref wa2, .ref wa3, .ref wa4, .int 0, .int sc]))] := hD
  refine lv_iconst (v := 0) hx hb dX1_gather_10 (by decide) ?_
  refine lv_istore_n (lv' := [(2, .int 0), (0, .ref h0), (1, .ref td)]) hx hb dX1_gather_11 rfl hl (by decide) rfl (fun ls hl => ?_)
  refine lv_iload_n hx hb dX1_gather_12 rfl (lv_at hl 0 rfl) ?_
  refine lv_aload_n hx hb dX1_gather_13 rfl (lv_at hl 1 rfl) ?_
  refine va_get (D := D) (ci := 1) (v := .ref w) (C := RX1) (T := TX1) (N := 10) hx hb hts hinX1 hown hK hP 0 rfl rfl 0 (by decide) (hts (.fieldLink RX1 9 "TaleReader$Mentions" "words" "LTaleReader$Words;") (uc4 _ (List.mem_of_getElem? (i := 22) rfl))) (fun _ h9 => h9) rfl dX1_gather_14 ?_
  have hPc := hP.sub (ws' := [(w, .inr (7, [.ref tl, .ref wa1, .ref wa2, .ref wa3, .ref wa4, .int 0, .int sc]))]) [1] rfl
  have hDc := hD.sub (ws' := [(w, .inr (7, [.ref tl, .ref wa1, .ref wa2, .ref wa3, .ref wa4, .int 0, .int sc]))]) [1] (by decide) rfl
  have hFc := va_free (wc := [(w, .inr (7, [.ref tl, .ref wa1, .ref wa2, .ref wa3, .ref wa4, .int 0, .int sc]))]) hD hS hA [1] rfl
  refine va_calli (va_runV (As := []) (rest := [.int 0]) ⟨hx, hb, hml, hown, hts⟩ (c_X7_size l D cB cI cZ H_3.size w tl wa1 wa2 wa3 wa4 0 sc) (cwV 0 hts (uV (uc15 _ (List.mem_of_getElem? (i := 22) rfl)) (uc15 _ (List.mem_of_getElem? (i := 23) rfl)) (uc16 _ (List.mem_of_getElem? (i := 0) rfl)) (uc1 _ (List.mem_of_getElem? (i := 18) rfl)) (uc16 _ (List.mem_of_getElem? (i := 1) rfl))) rfl rfl rfl (by decide +kernel) ⟨Nat.le_of_ble_eq_true rfl, Nat.le_of_ble_eq_true rfl⟩) (pV hK hPc hDc 0 rfl rfl) rfl rfl hl.1 rfl (lv_room (Nat.le_of_ble_eq_true rfl)) dX1_gather_17 ⟨Nat.le_of_ble_eq_true rfl, Nat.le_of_ble_eq_true rfl⟩) hS (fun q _ h => hFc q h) hFc (fun r_5 u t H_6 L_7 ht hvm hw hB hz1 hk1 hS => ?_)
  obtain ⟨hP1, -, hD1⟩ := hB
  rw [ht] at hP1
  obtain ⟨hP, hD⟩ := va_join (wr := [(h0, .inr (1, [.ref w, .ref ma1, .ref ma2, .ref ma3, .ref ma4, .ref ma5, .ref ma6, .ref ma7, .int 0, .int 0]))]) (w1 := [(w, .inr (7, [.ref tl, .ref wa1, .ref wa2, .ref wa3, .ref wa4, .int 0, .int sc]))]) hP hD [1] [0] rfl rfl (by decide) (by decide) hk1 hFc hP1 hD1
  have hP : va_P D vwCl [(h0, .inr (1, [.ref w, .ref ma1, .ref ma2, .ref ma3, .ref ma4, .ref ma5, .ref ma6, .ref ma7, .int 0, .int 0])), (w, .inr (7, [.ref tl, .ref wa1, .ref wa2, .ref wa3, .ref wa4, .int 0, .int sc]))] H_6 := hP.sub [0, 1] rfl
  have hD : va_D A [(h0, .inr (1, [.ref w, .ref ma1, .ref ma2, .ref ma3, .ref ma4, .ref ma5, .ref ma6, .ref ma7, .int 0, .int 0])), (w, .inr (7, [.ref tl, .ref wa1, .ref wa2, .ref wa3, .ref wa4, .int 0, .int sc]))] := hD.sub [0, 1] (by decide) rfl
  try dsimp only at hw
  subst hw
  refine lv_icmp_ge (tgt := 115) hx hb dX1_gather_20 (by decide) (fun c_8 => ?_) (fun c_8 => ?_)
  · have hP9 := hP.sub (ws' := [(h0, .inr (1, [.ref w, .ref ma1, .ref ma2, .ref ma3, .ref ma4, .ref ma5, .ref ma6, .ref ma7, .int 0, .int 0])), (w, .inr (7, [.ref tl, .ref wa1, .ref wa2, .ref wa3, .ref wa4, .int 0, .int sc]))]) [0, 1] rfl
    have hD9 := hD.sub (ws' := [(h0, .inr (1, [.ref w, .ref ma1, .ref ma2, .ref ma3, .ref ma4, .ref ma5, .ref ma6, .ref ma7, .int 0, .int 0])), (w, .inr (7, [.ref tl, .ref wa1, .ref wa2, .ref wa3, .ref wa4, .int 0, .int sc]))]) [0, 1] (by decide) rfl
    exact W.vret hx hb hr (fun t ht hW => ⟨⟨(), rfl, trivial, ⟨by rw [ht]; exact hP9, va_K.moved hW.alike hK, hD9⟩⟩, hS.F ht⟩) hS.2.2 dX1_gather_115
  · exact False.elim (by revert c_8; decide)
