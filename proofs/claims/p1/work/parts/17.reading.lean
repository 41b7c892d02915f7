set_option maxHeartbeats 4000000 in
set_option maxRecDepth 100000 in
theorem c_X4_init (l : Launch) (D : va_G) (cB cI cZ : ClassId) (sz : Nat) (h0 : Nat) (mn : Nat) (pn : Nat) (cs : Nat) (nm : Nat) : Met l yX4_init (.code yX4_init cX4_init 5 none :: wsL_law) ({ frames := 1, cells := 3, slots := 240, locals := 12 } : Room) (va_Pc [.ref h0, .ref mn, .ref pn, .ref cs, .ref nm] (pIn D (pT cB cI cZ) sz [(h0, .inr (4, [.null, .null, .null, .null, .null, .null, .null]))])) (va_Qv (fun (u : Nat × Nat × Nat) => True) (fun (u : Nat × Nat × Nat) (t : State) => pAt D (pT cB cI cZ) (va_A [(h0, .inr (4, [.null, .null, .null, .null, .null, .null, .null]))] sz) [(h0, .inr (4, [.ref mn, .ref pn, .ref cs, .ref nm, .ref u.1, .ref u.2.1, .ref u.2.2])), (u.1, .inl (cI, 80, .inl (fun _ => 0))), (u.2.1, .inl (cI, 80, .inl (fun _ => 0))), (u.2.2, .inl (cZ, 80, .inl (fun _ => 0)))] t) (va_A [(h0, .inr (4, [.null, .null, .null, .null, .null, .null, .null]))] sz)) 3 240 (va_A [(h0, .inr (4, [.null, .null, .null, .null, .null, .null, .null]))] sz) := by
  refine Met.ofW (cc := cX4_init) (maxL := 5) (ret := none) (by decide) rfl ?_
  intro p e s m args below meth c s₁ B hml hv
  obtain ⟨rfl, hsz, hP, hK, hD0⟩ := hv
  have hx := B.exec
  have hb := B.bytes
  have hr := B.returns
  have hts0 := atoms_spec (ws := .code yX4_init cX4_init 5 none :: wsL_law) B.pre
  have hts := fun (w : Cond) (h : w ∈ wsL_law) => hts0 w (List.mem_cons_of_mem _ h)
  have hown : s.vm.findClass RX4 = some m.cls := findClass_of_methodNamed B.named
  have hlocks := B.notSynchronized
  have hin : meth.name = "<init>" := (name_of_methodNamed B.named B.method).1
  have hinX4 := inlX4
  subst hsz
  have hD := hD0.self (sz := s.heap.size)
  generalize hAe : va_A [(h0, .inr (4, [.null, .null, .null, .null, .null, .null, .null]))] s.heap.size = A at hD ⊢
  have hA : ∀ q : Nat, s.heap.size ≤ q → A q := fun q h => by rw [← hAe]; exact Or.inr h
  have hS : va_S A s.heap s.heap [] := va_S.rf
  have hP : va_P D vwCl [(h0, .inr (4, [.null, .null, .null, .null, .null, .null, .null]))] s.heap := hP
  have hl := lv_entry ([.ref h0, .ref mn, .ref pn, .ref cs, .ref nm]) (n := 5) (Nat.le_of_ble_eq_true rfl)
  rw [lg_entry_eq]
  generalize (lg_sl ([.ref h0, .ref mn, .ref pn, .ref cs, .ref nm]) ++ List.replicate (5 - (lg_sl ([.ref h0, .ref mn, .ref pn, .ref cs, .ref nm])).length) Slot.unset).toArray = ls at hl ⊢
  have hl : lv_has ls 5 [(0, .ref h0), (1, .ref mn), (2, .ref pn), (3, .ref cs), (4, .ref nm)] := hl
  refine lv_aload_n hx hb dX4_init_0 rfl (lv_at hl 0 rfl) ?_
  refine W.objInit hx hb hown (hts (.methodLink RX4 3 objectInit) (uc6 _ (List.mem_of_getElem? (i := 4) rfl))) (hts (.instanceMethod objectInit) (uc1 _ (List.mem_of_getElem? (i := 10) rfl))) (hts (.code objectInit ⟨#[0xb1]⟩ 1 none) (uc1 _ (List.mem_of_getElem? (i := 11) rfl))) rfl (by rw [hml]; exact hl.1) rfl dX4_init_1 (Nat.le_of_ble_eq_true rfl) (Nat.le_of_ble_eq_true rfl) ?_
  refine W.eq (g2 := F0 m 4 ls []) rfl ?_
  refine lv_aload_n hx hb dX4_init_4 rfl (lv_at hl 0 rfl) ?_
  refine lv_aload_n hx hb dX4_init_5 rfl (lv_at hl 1 rfl) ?_
  refine va_putF (D := D) (ci := 4) (v := .ref mn) (ty := (.object "TaleReader$Mentions")) (C := RX4) (T := TX4) (N := 7) hx hb hts hinX4 tyX4 tyX4_ok nmX4 hown hK hP hD hS 0 rfl rfl 0 (by decide) (hts (.fieldLink RX4 9 "TaleReader$Reading" "mentions" "LTaleReader$Mentions;") (uc6 _ (List.mem_of_getElem? (i := 5) rfl))) (fun _ h9 => h9) rfl hin rfl (by decide +kernel) rfl rfl (Nat.le_of_ble_eq_true rfl) dX4_init_6 (fun H_1 L_2 hP hD hS => ?_)
  have hP : va_P D vwCl [(h0, .inr (4, [.ref mn, .null, .null, .null, .null, .null, .null]))] H_1 := hP
  have hD : va_D A [(h0, .inr (4, [.ref mn, .null, .null, .null, .null, .null, .null]))] := hD
  refine lv_aload_n hx hb dX4_init_9 rfl (lv_at hl 0 rfl) ?_
  refine lv_aload_n hx hb dX4_init_10 rfl (lv_at hl 2 rfl) ?_
  refine va_putF (D := D) (ci := 4) (v := .ref pn) (ty := (.object "TaleReader$Pins")) (C := RX4) (T := TX4) (N := 7) hx hb hts hinX4 tyX4 tyX4_ok nmX4 hown hK hP hD hS 0 rfl rfl 1 (by decide) (hts (.fieldLink RX4 15 "TaleReader$Reading" "pins" "LTaleReader$Pins;") (uc6 _ (List.mem_of_getElem? (i := 6) rfl))) (fun _ h9 => h9) rfl hin rfl (by decide +kernel) rfl rfl (Nat.le_of_ble_eq_true rfl) dX4_init_11 (fun H_3 L_4 hP hD hS => ?_)
  have hP : va_P D vwCl [(h0, .inr (4, [.ref mn, .ref pn, .null, .null, .null, .null, .null]))] H_3 := hP
  have hD : va_D A [(h0, .inr (4, [.ref mn, .ref pn, .null, .null, .null, .null, .null]))] := hD
  refine lv_aload_n hx hb dX4_init_14 rfl (lv_at hl 0 rfl) ?_
  refine lv_aload_n hx hb dX4_init_15 rfl (lv_at hl 3 rfl) ?_
  refine va_putF (D := D) (ci := 4) (v := .ref cs) (ty := (.object "TaleReader$Cast")) (C := RX4) (T := TX4) (N := 7) hx hb hts hinX4 tyX4 tyX4_ok nmX4 hown hK hP hD hS 0 rfl rfl 2 (by decide) (hts (.fieldLink RX4 19 "TaleReader$Reading" "cast" "LTaleReader$Cast;") (uc6 _ (List.mem_of_getElem? (i := 7) rfl))) (fun _ h9 => h9) rfl hin rfl (by decide +kernel) rfl rfl (Nat.le_of_ble_eq_true rfl) dX4_init_16 (fun H_5 L_6 hP hD hS => ?_)
  have hP : va_P D vwCl [(h0, .inr (4, [.ref mn, .ref pn, .ref cs, .null, .null, .null, .null]))] H_5 := hP
  have hD : va_D A [(h0, .inr (4, [.ref mn, .ref pn, .ref cs, .null, .null, .null, .null]))] := hD
  refine lv_aload_n hx hb dX4_init_19 rfl (lv_at hl 0 rfl) ?_
  refine lv_aload hx hb dX4_init_20 (lv_at hl 4 rfl) ?_
  refine va_putF (D := D) (ci := 4) (v := .ref nm) (ty := (.object "TaleReader$Names")) (C := RX4) (T := TX4) (N := 7) hx hb hts hinX4 tyX4 tyX4_ok nmX4 hown hK hP hD hS 0 rfl rfl 3 (by decide) (hts (.fieldLink RX4 23 "TaleReader$Reading" "names" "LTaleReader$Names;") (uc6 _ (List.mem_of_getElem? (i := 8) rfl))) (fun _ h9 => h9) rfl hin rfl (by decide +kernel) rfl rfl (Nat.le_of_ble_eq_true rfl) dX4_init_22 (fun H_7 L_8 hP hD hS => ?_)
  have hP : va_P D vwCl [(h0, .inr (4, [.ref mn, .ref pn, .ref cs, .ref nm, .null, .null, .null]))] H_7 := hP
  have hD : va_D A [(h0, .inr (4, [.ref mn, .ref pn, .ref cs, .ref nm, .null, .null, .null]))] := hD
  refine lv_aload_n hx hb dX4_init_25 rfl (lv_at hl 0 rfl) ?_
  refine lv_bipush (v := 80) hx hb dX4_init_26 (by decide) ?_
  refine pNewa (D := D) (cl := vwCl) (ty := .int) (N' := 80) (a0 := (80, .inl (fun _ => 0))) (cA := cI) hx hb (hts (.arrayClass .int) (uc3 _ (List.mem_of_getElem? (i := 13) rfl))) rfl hK hP hD hS hA (fun _ => rfl) (by decide) (by decide) (by decide) (Nat.le_of_ble_eq_true rfl) (Nat.le_of_ble_eq_true rfl) dX4_init_28 1 rfl (fun q_9 H_10 hP hD hS => ?_)
  have hP : va_P D vwCl [(h0, .inr (4, [.ref mn, .ref pn, .ref cs, .ref nm, .null, .null, .null])), (q_9, .inl (cI, 80, .inl (fun _ => 0)))] H_10 := hP
  have hD : va_D A [(h0, .inr (4, [.ref mn, .ref pn, .ref cs, .ref nm, .null, .null, .null])), (q_9, .inl (cI, 80, .inl (fun _ => 0)))] := hD
  refine W.widen (k := 1) (n := 80) (by decide) (by decide) ?_
  refine va_putF (D := D) (ci := 4) (v := .ref q_9) (ty := (.array .int)) (C := RX4) (T := TX4) (N := 7) hx hb hts hinX4 tyX4 tyX4_ok nmX4 hown hK hP hD hS 0 rfl rfl 4 (by decide) (hts (.fieldLink RX4 27 "TaleReader$Reading" "persons" "[I") (uc6 _ (List.mem_of_getElem? (i := 9) rfl))) (fun _ h9 => h9) rfl hin rfl (by decide +kernel) rfl rfl (Nat.le_of_ble_eq_true rfl) dX4_init_30 (fun H_11 L_12 hP hD hS => ?_)
  have hP : va_P D vwCl [(h0, .inr (4, [.ref mn, .ref pn, .ref cs, .ref nm, .ref q_9, .null, .null])), (q_9, .inl (cI, 80, .inl (fun _ => 0)))] H_11 := hP
  have hD : va_D A [(h0, .inr (4, [.ref mn, .ref pn, .ref cs, .ref nm, .ref q_9, .null, .null])), (q_9, .inl (cI, 80, .inl (fun _ => 0)))] := hD
  refine lv_aload_n hx hb dX4_init_33 rfl (lv_at hl 0 rfl) ?_
  refine lv_bipush (v := 80) hx hb dX4_init_34 (by decide) ?_
  refine pNewa (D := D) (cl := vwCl) (ty := .int) (N' := 80) (a0 := (80, .inl (fun _ => 0))) (cA := cI) hx hb (hts (.arrayClass .int) (uc3 _ (List.mem_of_getElem? (i := 13) rfl))) rfl hK hP hD hS hA (fun _ => rfl) (by decide) (by decide) (by decide) (Nat.le_of_ble_eq_true rfl) (Nat.le_of_ble_eq_true rfl) dX4_init_36 1 rfl (fun q_13 H_14 hP hD hS => ?_)
  have hP : va_P D vwCl [(h0, .inr (4, [.ref mn, .ref pn, .ref cs, .ref nm, .ref q_9, .null, .null])), (q_9, .inl (cI, 80, .inl (fun _ => 0))), (q_13, .inl (cI, 80, .inl (fun _ => 0)))] H_14 := hP
  have hD : va_D A [(h0, .inr (4, [.ref mn, .ref pn, .ref cs, .ref nm, .ref q_9, .null, .null])), (q_9, .inl (cI, 80, .inl (fun _ => 0))), (q_13, .inl (cI, 80, .inl (fun _ => 0)))] := hD
  refine W.widen (k := 2) (n := 160) (by decide) (by decide) ?_
  refine va_putF (D := D) (ci := 4) (v := .ref q_13) (ty := (.array .int)) (C := RX4) (T := TX4) (N := 7) hx hb hts hinX4 tyX4 tyX4_ok nmX4 hown hK hP hD hS 0 rfl rfl 5 (by decide) (hts (.fieldLink RX4 31 "TaleReader$Reading" "fits" "[I") (uc6 _ (List.mem_of_getElem? (i := 10) rfl))) (fun _ h9 => h9) rfl hin rfl (by decide +kernel) rfl rfl (Nat.le_of_ble_eq_true rfl) dX4_init_38 (fun H_15 L_16 hP hD hS => ?_)
  have hP : va_P D vwCl [(h0, .inr (4, [.ref mn, .ref pn, .ref cs, .ref nm, .ref q_9, .ref q_13, .null])), (q_9, .inl (cI, 80, .inl (fun _ => 0))), (q_13, .inl (cI, 80, .inl (fun _ => 0)))] H_15 := hP
  have hD : va_D A [(h0, .inr (4, [.ref mn, .ref pn, .ref cs, .ref nm, .ref q_9, .ref q_13, .null])), (q_9, .inl (cI, 80, .inl (fun _ => 0))), (q_13, .inl (cI, 80, .inl (fun _ => 0)))] := hD
  refine lv_aload_n hx hb dX4_init_41 rfl (lv_at hl 0 rfl) ?_
  refine lv_bipush (v := 80) hx hb dX4_init_42 (by decide) ?_
  refine pNewa (D := D) (cl := vwCl) (ty := .boolean) (N' := 80) (a0 := (80, .inl (fun _ => 0))) (cA := cZ) hx hb (hts (.arrayClass .boolean) (uc6 _ (List.mem_of_getElem? (i := 11) rfl))) rfl hK hP hD hS hA (fun _ => rfl) (by decide) (by decide) (by decide) (Nat.le_of_ble_eq_true rfl) (Nat.le_of_ble_eq_true rfl) dX4_init_44 2 rfl (fun q_17 H_18 hP hD hS => ?_)
  have hP : va_P D vwCl [(h0, .inr (4, [.ref mn, .ref pn, .ref cs, .ref nm, .ref q_9, .ref q_13, .null])), (q_9, .inl (cI, 80, .inl (fun _ => 0))), (q_13, .inl (cI, 80, .inl (fun _ => 0))), (q_17, .inl (cZ, 80, .inl (fun _ => 0)))] H_18 := hP
  have hD : va_D A [(h0, .inr (4, [.ref mn, .ref pn, .ref cs, .ref nm, .ref q_9, .ref q_13, .null])), (q_9, .inl (cI, 80, .inl (fun _ => 0))), (q_13, .inl (cI, 80, .inl (fun _ => 0))), (q_17, .inl (cZ, 80, .inl (fun _ => 0)))] := hD
  refine W.widen (k := 3) (n := 240) (by decide) (by decide) ?_
  refine va_putF (D := D) (ci := 4) (v := .ref q_17) (ty := (.array .boolean)) (C := RX4) (T := TX4) (N := 7) hx hb hts hinX4 tyX4 tyX4_ok nmX4 hown hK hP hD hS 0 rfl rfl 6 (by decide) (hts (.fieldLink RX4 34 "TaleReader$Reading" "doubts" "[Z") (uc6 _ (List.mem_of_getElem? (i := 12) rfl))) (fun _ h9 => h9) rfl hin rfl (by decide +kernel) rfl rfl (Nat.le_of_ble_eq_true rfl) dX4_init_46 (fun H_19 L_20 hP hD hS => ?_)
  have hP : va_P D vwCl [(h0, .inr (4, [.ref mn, .ref pn, .ref cs, .ref nm, .ref q_9, .ref q_13, .ref q_17])), (q_9, .inl (cI, 80, .inl (fun _ => 0))), (q_13, .inl (cI, 80, .inl (fun _ => 0))), (q_17, .inl (cZ, 80, .inl (fun _ => 0)))] H_19 := hP
  have hD : va_D A [(h0, .inr (4, [.ref mn, .ref pn, .ref cs, .ref nm, .ref q_9, .ref q_13, .ref q_17])), (q_9, .inl (cI, 80, .inl (fun _ => 0))), (q_13, .inl (cI, 80, .inl (fun _ => 0))), (q_17, .inl (cZ, 80, .inl (fun _ => 0)))] := hD
  have hP9 := hP.sub (ws' := [(h0, .inr (4, [.ref mn, .ref pn, .ref cs, .ref nm, .ref q_9, .ref q_13, .ref q_17])), (q_9, .inl (cI, 80, .inl (fun _ => 0))), (q_13, .inl (cI, 80, .inl (fun _ => 0))), (q_17, .inl (cZ, 80, .inl (fun _ => 0)))]) [0, 1, 2, 3] rfl
  have hD9 := hD.sub (ws' := [(h0, .inr (4, [.ref mn, .ref pn, .ref cs, .ref nm, .ref q_9, .ref q_13, .ref q_17])), (q_9, .inl (cI, 80, .inl (fun _ => 0))), (q_13, .inl (cI, 80, .inl (fun _ => 0))), (q_17, .inl (cZ, 80, .inl (fun _ => 0)))]) [0, 1, 2, 3] (by decide) rfl
  exact W.vret hx hb hr (fun t ht hW => ⟨⟨(q_9, q_13, q_17), rfl, trivial, ⟨by rw [ht]; exact hP9, va_K.moved hW.alike hK, hD9⟩⟩, hS.F ht⟩) hS.2.2 dX4_init_49
set_option maxHeartbeats 4000000 in
set_option maxRecDepth 100000 in
theorem c_X4_doubtCount_0 (l : Launch) (D : va_G) (cB cI cZ : ClassId) (sz : Nat) (h0 : Nat) (mn : Nat) (pn : Nat) (cs : Nat) (nm : Nat) (ra1 : Nat) (ra2 : Nat) (ra3 : Nat) (w : Nat) (ma1 : Nat) (ma2 : Nat) (ma3 : Nat) (ma4 : Nat) (ma5 : Nat) (ma6 : Nat) (ma7 : Nat) (cut : Int32) : Met l yX4_doubtCount (.code yX4_doubtCount cX4_doubtCount 3 (some .int) :: wsL_law) ({ frames := 1, cells := 0, slots := 0, locals := 20 } : Room) (va_Pc [.ref h0] (pIn D (pT cB cI cZ) sz [(h0, .inr (4, [.ref mn, .ref pn, .ref cs, .ref nm, .ref ra1, .ref ra2, .ref ra3])), (mn, .inr (1, [.ref w, .ref ma1, .ref ma2, .ref ma3, .ref ma4, .ref ma5, .ref ma6, .ref ma7, .int 0, .int cut]))])) (va_Qi (fun (r : Int32) (u : Unit) => r = 0) (fun (u : Unit) (t : State) => pAt D (pT cB cI cZ) (va_A [(h0, .inr (4, [.ref mn, .ref pn, .ref cs, .ref nm, .ref ra1, .ref ra2, .ref ra3])), (mn, .inr (1, [.ref w, .ref ma1, .ref ma2, .ref ma3, .ref ma4, .ref ma5, .ref ma6, .ref ma7, .int 0, .int cut]))] sz) [(h0, .inr (4, [.ref mn, .ref pn, .ref cs, .ref nm, .ref ra1, .ref ra2, .ref ra3])), (mn, .inr (1, [.ref w, .ref ma1, .ref ma2, .ref ma3, .ref ma4, .ref ma5, .ref ma6, .ref ma7, .int 0, .int cut]))] t) (va_A [(h0, .inr (4, [.ref mn, .ref pn, .ref cs, .ref nm, .ref ra1, .ref ra2, .ref ra3])), (mn, .inr (1, [.ref w, .ref ma1, .ref ma2, .ref ma3, .ref ma4, .ref ma5, .ref ma6, .ref ma7, .int 0, .int cut]))] sz)) 0 0 (va_A [(h0, .inr (4, [.ref mn, .ref pn, .ref cs, .ref nm, .ref ra1, .ref ra2, .ref ra3])), (mn, .inr (1, [.ref w, .ref ma1, .ref ma2, .ref ma3, .ref ma4, .ref ma5, .ref ma6, .ref ma7, .int 0, .int cut]))] sz) := by
  refine Met.ofW (cc := cX4_doubtCount) (maxL := 3) (ret := (some .int)) (by decide) rfl ?_
  intro p e s m args below meth c s₁ B hml hv
  obtain ⟨rfl, hsz, hP, hK, hD0⟩ := hv
  have hx := B.exec
  have hb := B.bytes
  have hr := B.returns
  have hts0 := atoms_spec (ws := .code yX4_doubtCount cX4_doubtCount 3 (some .int) :: wsL_law) B.pre
  have hts := fun (w : Cond) (h : w ∈ wsL_law) => hts0 w (List.mem_cons_of_mem _ h)
  have hown : s.vm.findClass RX4 = some m.cls := findClass_of_methodNamed B.named
  have hlocks := B.notSynchronized
  have hinX4 := inlX4
  subst hsz
  have hD := hD0.self (sz := s.heap.size)
  generalize hAe : va_A [(h0, .inr (4, [.ref mn, .ref pn, .ref cs, .ref nm, .ref ra1, .ref ra2, .ref ra3])), (mn, .inr (1, [.ref w, .ref ma1, .ref ma2, .ref ma3, .ref ma4, .ref ma5, .ref ma6, .ref ma7, .int 0, .int cut]))] s.heap.size = A at hD ⊢
  have hA : ∀ q : Nat, s.heap.size ≤ q → A q := fun q h => by rw [← hAe]; exact Or.inr h
  have hS : va_S A s.heap s.heap [] := va_S.rf
  have hP : va_P D vwCl [(h0, .inr (4, [.ref mn, .ref pn, .ref cs, .ref nm, .ref ra1, .ref ra2, .ref ra3])), (mn, .inr (1, [.ref w, .ref ma1, .ref ma2, .ref ma3, .ref ma4, .ref ma5, .ref ma6, .ref ma7, .int 0, .int cut]))] s.heap := hP
  have hl := lv_entry ([.ref h0]) (n := 3) (Nat.le_of_ble_eq_true rfl)
  rw [lg_entry_eq]
  generalize (lg_sl ([.ref h0]) ++ List.replicate (3 - (lg_sl ([.ref h0])).length) Slot.unset).toArray = ls at hl ⊢
  have hl : lv_has ls 3 [(0, .ref h0)] := hl
  refine lv_iconst (v := 0) hx hb dX4_doubtCount_0 (by decide) ?_
  refine lv_istore_n (lv' := [(1, .int 0), (0, .ref h0)]) hx hb dX4_doubtCount_1 rfl hl (by decide) rfl (fun ls hl => ?_)
  refine lv_iconst (v := 0) hx hb dX4_doubtCount_2 (by decide) ?_
  refine lv_istore_n (lv' := [(2, .int 0), (1, .int 0), (0, .ref h0)]) hx hb dX4_doubtCount_3 rfl hl (by decide) rfl (fun ls hl => ?_)
  refine lv_iload_n hx hb dX4_doubtCount_4 rfl (lv_at hl 0 rfl) ?_
  refine lv_aload_n hx hb dX4_doubtCount_5 rfl (lv_at hl 2 rfl) ?_
  refine va_get (D := D) (ci := 4) (v := .ref mn) (C := RX4) (T := TX4) (N := 7) hx hb hts hinX4 hown hK hP 0 rfl rfl 0 (by decide) (hts (.fieldLink RX4 9 "TaleReader$Reading" "mentions" "LTaleReader$Mentions;") (uc6 _ (List.mem_of_getElem? (i := 5) rfl))) (fun _ h9 => h9) rfl dX4_doubtCount_6 ?_
  have hPc := hP.sub (ws' := [(mn, .inr (1, [.ref w, .ref ma1, .ref ma2, .ref ma3, .ref ma4, .ref ma5, .ref ma6, .ref ma7, .int 0, .int cut]))]) [1] rfl
  have hDc := hD.sub (ws' := [(mn, .inr (1, [.ref w, .ref ma1, .ref ma2, .ref ma3, .ref ma4, .ref ma5, .ref ma6, .ref ma7, .int 0, .int cut]))]) [1] (by decide) rfl
  have hFc := va_free (wc := [(mn, .inr (1, [.ref w, .ref ma1, .ref ma2, .ref ma3, .ref ma4, .ref ma5, .ref ma6, .ref ma7, .int 0, .int cut]))]) hD hS hA [1] rfl
  refine va_calli (va_runV (As := []) (rest := [.int 0]) ⟨hx, hb, hml, hown, hts⟩ (c_X1_size l D cB cI cZ s.heap.size mn w ma1 ma2 ma3 ma4 ma5 ma6 ma7 0 cut) (cwV 0 hts (uV (uc34 _ (List.mem_of_getElem? (i := 16) rfl)) (uc17 _ (List.mem_of_getElem? (i := 23) rfl)) (uc18 _ (List.mem_of_getElem? (i := 0) rfl)) (uc2 _ (List.mem_of_getElem? (i := 6) rfl)) (uc18 _ (List.mem_of_getElem? (i := 1) rfl))) rfl rfl rfl (by decide +kernel) ⟨Nat.le_of_ble_eq_true rfl, Nat.le_of_ble_eq_true rfl⟩) (pV hK hPc hDc 0 rfl rfl) rfl rfl hl.1 rfl (lv_room (Nat.le_of_ble_eq_true rfl)) dX4_doubtCount_9 ⟨Nat.le_of_ble_eq_true rfl, Nat.le_of_ble_eq_true rfl⟩) hS (fun q _ h => hFc q h) hFc (fun r_1 u t H_2 L_3 ht hvm hw hB hz1 hk1 hS => ?_)
  obtain ⟨hP1, -, hD1⟩ := hB
  rw [ht] at hP1
  obtain ⟨hP, hD⟩ := va_join (wr := [(h0, .inr (4, [.ref mn, .ref pn, .ref cs, .ref nm, .ref ra1, .ref ra2, .ref ra3]))]) (w1 := [(mn, .inr (1, [.ref w, .ref ma1, .ref ma2, .ref ma3, .ref ma4, .ref ma5, .ref ma6, .ref ma7, .int 0, .int cut]))]) hP hD [1] [0] rfl rfl (by decide) (by decide) hk1 hFc hP1 hD1
  have hP : va_P D vwCl [(h0, .inr (4, [.ref mn, .ref pn, .ref cs, .ref nm, .ref ra1, .ref ra2, .ref ra3])), (mn, .inr (1, [.ref w, .ref ma1, .ref ma2, .ref ma3, .ref ma4, .ref ma5, .ref ma6, .ref ma7, .int 0, .int cut]))] H_2 := hP.sub [0, 1] rfl
  have hD : va_D A [(h0, .inr (4, [.ref mn, .ref pn, .ref cs, .ref nm, .ref ra1, .ref ra2, .ref ra3])), (mn, .inr (1, [.ref w, .ref ma1, .ref ma2, .ref ma3, .ref ma4, .ref ma5, .ref ma6, .ref ma7, .int 0, .int cut]))] := hD.sub [0, 1] (by decide) rfl
  try dsimp only at hw
  subst hw
  refine lv_icmp_ge (tgt := 32) hx hb dX4_doubtCount_12 (by decide) (fun c_4 => ?_) (fun c_4 => ?_)
  · refine lv_iload_n hx hb dX4_doubtCount_32 rfl (lv_at hl 1 rfl) ?_
    have hP9 := hP.sub (ws' := [(h0, .inr (4, [.ref mn, .ref pn, .ref cs, .ref nm, .ref ra1, .ref ra2, .ref ra3])), (mn, .inr (1, [.ref w, .ref ma1, .ref ma2, .ref ma3, .ref ma4, .ref ma5, .ref ma6, .ref ma7, .int 0, .int cut]))]) [0, 1] rfl
    have hD9 := hD.sub (ws' := [(h0, .inr (4, [.ref mn, .ref pn, .ref cs, .ref nm, .ref ra1, .ref ra2, .ref ra3])), (mn, .inr (1, [.ref w, .ref ma1, .ref ma2, .ref ma3, .ref ma4, .ref ma5, .ref ma6, .ref ma7, .int 0, .int cut]))]) [0, 1] (by decide) rfl
    exact W.iret (v := 0) hx hb hr (fun t ht hW => ⟨⟨0, (), rfl, rfl, ⟨by rw [ht]; exact hP9, va_K.moved hW.alike hK, hD9⟩⟩, hS.F ht⟩) hS.2.2 dX4_doubtCount_33
  · exact False.elim (by revert c_4; decide)
set_option maxHeartbeats 4000000 in
set_option maxRecDepth 100000 in
theorem c_X4_countOf_0 (l : Launch) (D : va_G) (cB cI cZ : ClassId) (sz : Nat) (h0 : Nat) (mn : Nat) (pn : Nat) (cs : Nat) (nm : Nat) (ra1 : Nat) (ra2 : Nat) (ra3 : Nat) (w : Nat) (ma1 : Nat) (ma2 : Nat) (ma3 : Nat) (ma4 : Nat) (ma5 : Nat) (ma6 : Nat) (ma7 : Nat) (cut : Int32) (k : Int32) : Met l yX4_countOf (.code yX4_countOf cX4_countOf 4 (some .int) :: wsL_law) ({ frames := 1, cells := 0, slots := 0, locals := 20 } : Room) (va_Pc [.ref h0, .int k] (pIn D (pT cB cI cZ) sz [(h0, .inr (4, [.ref mn, .ref pn, .ref cs, .ref nm, .ref ra1, .ref ra2, .ref ra3])), (mn, .inr (1, [.ref w, .ref ma1, .ref ma2, .ref ma3, .ref ma4, .ref ma5, .ref ma6, .ref ma7, .int 0, .int cut]))])) (va_Qi (fun (r : Int32) (u : Unit) => r = 0) (fun (u : Unit) (t : State) => pAt D (pT cB cI cZ) (va_A [(h0, .inr (4, [.ref mn, .ref pn, .ref cs, .ref nm, .ref ra1, .ref ra2, .ref ra3])), (mn, .inr (1, [.ref w, .ref ma1, .ref ma2, .ref ma3, .ref ma4, .ref ma5, .ref ma6, .ref ma7, .int 0, .int cut]))] sz) [(h0, .inr (4, [.ref mn, .ref pn, .ref cs, .ref nm, .ref ra1, .ref ra2, .ref ra3])), (mn, .inr (1, [.ref w, .ref ma1, .ref ma2, .ref ma3, .ref ma4, .ref ma5, .ref ma6, .ref ma7, .int 0, .int cut]))] t) (va_A [(h0, .inr (4, [.ref mn, .ref pn, .ref cs, .ref nm, .ref ra1, .ref ra2, .ref ra3])), (mn, .inr (1, [.ref w, .ref ma1, .ref ma2, .ref ma3, .ref ma4, .ref ma5, .ref ma6, .ref ma7, .int 0, .int cut]))] sz)) 0 0 (va_A [(h0, .inr (4, [.ref mn, .ref pn, .ref cs, .ref nm, .ref ra1, .ref ra2, .ref ra3])), (mn, .inr (1, [.ref w, .ref ma1, .ref ma2, .ref ma3, .ref ma4, .ref ma5, .ref ma6, .ref ma7, .int 0, .int cut]))] sz) := by
  refine Met.ofW (cc := cX4_countOf) (maxL := 4) (ret := (some .int)) (by decide) rfl ?_
  intro p e s m args below meth c s₁ B hml hv
  obtain ⟨rfl, hsz, hP, hK, hD0⟩ := hv
  have hx := B.exec
  have hb := B.bytes
  have hr := B.returns
  have hts0 := atoms_spec (ws := .code yX4_countOf cX4_countOf 4 (some .int) :: wsL_law) B.pre
  have hts := fun (w : Cond) (h : w ∈ wsL_law) => hts0 w (List.mem_cons_of_mem _ h)
  have hown : s.vm.findClass RX4 = some m.cls := findClass_of_methodNamed B.named
  have hlocks := B.notSynchronized
  have hinX4 := inlX4
  subst hsz
  have hD := hD0.self (sz := s.heap.size)
  generalize hAe : va_A [(h0, .inr (4, [.ref mn, .ref pn, .ref cs, .ref nm, .ref ra1, .ref ra2, .ref ra3])), (mn, .inr (1, [.ref w, .ref ma1, .ref ma2, .ref ma3, .ref ma4, .ref ma5, .ref ma6, .ref ma7, .int 0, .int cut]))] s.heap.size = A at hD ⊢
  have hA : ∀ q : Nat, s.heap.size ≤ q → A q := fun q h => by rw [← hAe]; exact Or.inr h
  have hS : va_S A s.heap s.heap [] := va_S.rf
  have hP : va_P D vwCl [(h0, .inr (4, [.ref mn, .ref pn, .ref cs, .ref nm, .ref ra1, .ref ra2, .ref ra3])), (mn, .inr (1, [.ref w, .ref ma1, .ref ma2, .ref ma3, .ref ma4, .ref ma5, .ref ma6, .ref ma7, .int 0, .int cut]))] s.heap := hP
  have hl := lv_entry ([.ref h0, .int k]) (n := 4) (Nat.le_of_ble_eq_true rfl)
  rw [lg_entry_eq]
  generalize (lg_sl ([.ref h0, .int k]) ++ List.replicate (4 - (lg_sl ([.ref h0, .int k])).length) Slot.unset).toArray = ls at hl ⊢
  have hl : lv_has ls 4 [(0, .ref h0), (1, .int k)] := hl
  refine lv_iconst (v := 0) hx hb dX4_countOf_0 (by decide) ?_
  refine lv_istore_n (lv' := [(2, .int 0), (0, .ref h0), (1, .int k)]) hx hb dX4_countOf_1 rfl hl (by decide) rfl (fun ls hl => ?_)
  refine lv_iconst (v := 0) hx hb dX4_countOf_2 (by decide) ?_
  refine lv_istore_n (lv' := [(3, .int 0), (2, .int 0), (0, .ref h0), (1, .int k)]) hx hb dX4_countOf_3 rfl hl (by decide) rfl (fun ls hl => ?_)
  refine lv_iload_n hx hb dX4_countOf_4 rfl (lv_at hl 0 rfl) ?_
  refine lv_aload_n hx hb dX4_countOf_5 rfl (lv_at hl 2 rfl) ?_
  refine va_get (D := D) (ci := 4) (v := .ref mn) (C := RX4) (T := TX4) (N := 7) hx hb hts hinX4 hown hK hP 0 rfl rfl 0 (by decide) (hts (.fieldLink RX4 9 "TaleReader$Reading" "mentions" "LTaleReader$Mentions;") (uc6 _ (List.mem_of_getElem? (i := 5) rfl))) (fun _ h9 => h9) rfl dX4_countOf_6 ?_
  have hPc := hP.sub (ws' := [(mn, .inr (1, [.ref w, .ref ma1, .ref ma2, .ref ma3, .ref ma4, .ref ma5, .ref ma6, .ref ma7, .int 0, .int cut]))]) [1] rfl
  have hDc := hD.sub (ws' := [(mn, .inr (1, [.ref w, .ref ma1, .ref ma2, .ref ma3, .ref ma4, .ref ma5, .ref ma6, .ref ma7, .int 0, .int cut]))]) [1] (by decide) rfl
  have hFc := va_free (wc := [(mn, .inr (1, [.ref w, .ref ma1, .ref ma2, .ref ma3, .ref ma4, .ref ma5, .ref ma6, .ref ma7, .int 0, .int cut]))]) hD hS hA [1] rfl
  refine va_calli (va_runV (As := []) (rest := [.int 0]) ⟨hx, hb, hml, hown, hts⟩ (c_X1_size l D cB cI cZ s.heap.size mn w ma1 ma2 ma3 ma4 ma5 ma6 ma7 0 cut) (cwV 0 hts (uV (uc34 _ (List.mem_of_getElem? (i := 16) rfl)) (uc17 _ (List.mem_of_getElem? (i := 23) rfl)) (uc18 _ (List.mem_of_getElem? (i := 0) rfl)) (uc2 _ (List.mem_of_getElem? (i := 6) rfl)) (uc18 _ (List.mem_of_getElem? (i := 1) rfl))) rfl rfl rfl (by decide +kernel) ⟨Nat.le_of_ble_eq_true rfl, Nat.le_of_ble_eq_true rfl⟩) (pV hK hPc hDc 0 rfl rfl) rfl rfl hl.1 rfl (lv_room (Nat.le_of_ble_eq_true rfl)) dX4_countOf_9 ⟨Nat.le_of_ble_eq_true rfl, Nat.le_of_ble_eq_true rfl⟩) hS (fun q _ h => hFc q h) hFc (fun r_1 u t H_2 L_3 ht hvm hw hB hz1 hk1 hS => ?_)
  obtain ⟨hP1, -, hD1⟩ := hB
  rw [ht] at hP1
  obtain ⟨hP, hD⟩ := va_join (wr := [(h0, .inr (4, [.ref mn, .ref pn, .ref cs, .ref nm, .ref ra1, .ref ra2, .ref ra3]))]) (w1 := [(mn, .inr (1, [.ref w, .ref ma1, .ref ma2, .ref ma3, .ref ma4, .ref ma5, .ref ma6, .ref ma7, .int 0, .int cut]))]) hP hD [1] [0] rfl rfl (by decide) (by decide) hk1 hFc hP1 hD1
  have hP : va_P D vwCl [(h0, .inr (4, [.ref mn, .ref pn, .ref cs, .ref nm, .ref ra1, .ref ra2, .ref ra3])), (mn, .inr (1, [.ref w, .ref ma1, .ref ma2, .ref ma3, .ref ma4, .ref ma5, .ref ma6, .ref ma7, .int 0, .int cut]))] H_2 := hP.sub [0, 1] rfl
  have hD : va_D A [(h0, .inr (4, [.ref mn, .ref pn, .ref cs, .ref nm, .ref ra1, .ref ra2, .ref ra3])), (mn, .inr (1, [.ref w, .ref ma1, .ref ma2, .ref ma3, .ref ma4, .ref ma5, .ref ma6, .ref ma7, .int 0, .int cut]))] := hD.sub [0, 1] (by decide) rfl
  try dsimp only at hw
  subst hw
  refine lv_icmp_ge (tgt := 33) hx hb dX4_countOf_12 (by decide) (fun c_4 => ?_) (fun c_4 => ?_)
  · refine lv_iload_n hx hb dX4_countOf_33 rfl (lv_at hl 1 rfl) ?_
    have hP9 := hP.sub (ws' := [(h0, .inr (4, [.ref mn, .ref pn, .ref cs, .ref nm, .ref ra1, .ref ra2, .ref ra3])), (mn, .inr (1, [.ref w, .ref ma1, .ref ma2, .ref ma3, .ref ma4, .ref ma5, .ref ma6, .ref ma7, .int 0, .int cut]))]) [0, 1] rfl
    have hD9 := hD.sub (ws' := [(h0, .inr (4, [.ref mn, .ref pn, .ref cs, .ref nm, .ref ra1, .ref ra2, .ref ra3])), (mn, .inr (1, [.ref w, .ref ma1, .ref ma2, .ref ma3, .ref ma4, .ref ma5, .ref ma6, .ref ma7, .int 0, .int cut]))]) [0, 1] (by decide) rfl
    exact W.iret (v := 0) hx hb hr (fun t ht hW => ⟨⟨0, (), rfl, rfl, ⟨by rw [ht]; exact hP9, va_K.moved hW.alike hK, hD9⟩⟩, hS.F ht⟩) hS.2.2 dX4_countOf_34
  · exact False.elim (by revert c_4; decide)
