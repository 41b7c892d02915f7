set_option maxHeartbeats 4000000 in
set_option maxRecDepth 100000 in
theorem c_X2_init (l : Launch) (D : va_G) (cB cI cZ : ClassId) (sz : Nat) (h0 : Nat) (mn : Nat) : Met l yX2_init (.code yX2_init cX2_init 2 none :: wsL_law) ({ frames := 1, cells := 2, slots := 160, locals := 12 } : Room) (va_Pc [.ref h0, .ref mn] (pIn D (pT cB cI cZ) sz [(h0, .inr (2, [.null, .null, .null, .int 0]))])) (va_Qv (fun (u : Nat × Nat) => True) (fun (u : Nat × Nat) (t : State) => pAt D (pT cB cI cZ) (va_A [(h0, .inr (2, [.null, .null, .null, .int 0]))] sz) [(h0, .inr (2, [.ref mn, .ref u.1, .ref u.2, .int 0])), (u.1, .inl (cI, 80, .inl (fun _ => 0))), (u.2, .inl (cI, 80, .inl (fun _ => 0)))] t) (va_A [(h0, .inr (2, [.null, .null, .null, .int 0]))] sz)) 2 160 (va_A [(h0, .inr (2, [.null, .null, .null, .int 0]))] sz) := by
  refine Met.ofW (cc := cX2_init) (maxL := 2) (ret := none) (by decide) rfl ?_
  intro p e s m args below meth c s₁ B hml hv
  obtain ⟨rfl, hsz, hP, hK, hD0⟩ := hv
  have hx := B.exec
  have hb := B.bytes
  have hr := B.returns
  have hts0 := atoms_spec (ws := .code yX2_init cX2_init 2 none :: wsL_law) B.pre
  have hts := fun (w : Cond) (h : w ∈ wsL_law) => hts0 w (List.mem_cons_of_mem _ h)
  have hown : s.vm.findClass RX2 = some m.cls := findClass_of_methodNamed B.named
  have hlocks := B.notSynchronized
  have hin : meth.name = "<init>" := (name_of_methodNamed B.named B.method).1
  have hinX2 := inlX2
  subst hsz
  have hD := hD0.self (sz := s.heap.size)
  generalize hAe : va_A [(h0, .inr (2, [.null, .null, .null, .int 0]))] s.heap.size = A at hD ⊢
  have hA : ∀ q : Nat, s.heap.size ≤ q → A q := fun q h => by rw [← hAe]; exact Or.inr h
  have hS : va_S A s.heap s.heap [] := va_S.rf
  have hP : va_P D vwCl [(h0, .inr (2, [.null, .null, .null, .int 0]))] s.heap := hP
  have hl := lv_entry ([.ref h0, .ref mn]) (n := 2) (Nat.le_of_ble_eq_true rfl)
  rw [lg_entry_eq]
  generalize (lg_sl ([.ref h0, .ref mn]) ++ List.replicate (2 - (lg_sl ([.ref h0, .ref mn])).length) Slot.unset).toArray = ls at hl ⊢
  have hl : lv_has ls 2 [(0, .ref h0), (1, .ref mn)] := hl
  refine lv_aload_n hx hb dX2_init_0 rfl (lv_at hl 0 rfl) ?_
  refine W.objInit hx hb hown (hts (.methodLink RX2 3 objectInit) (uc5 _ (List.mem_of_getElem? (i := 20) rfl))) (hts (.instanceMethod objectInit) (uc1 _ (List.mem_of_getElem? (i := 10) rfl))) (hts (.code objectInit ⟨#[0xb1]⟩ 1 none) (uc1 _ (List.mem_of_getElem? (i := 11) rfl))) rfl (by rw [hml]; exact hl.1) rfl dX2_init_1 (Nat.le_of_ble_eq_true rfl) (Nat.le_of_ble_eq_true rfl) ?_
  refine W.eq (g2 := F0 m 4 ls []) rfl ?_
  refine lv_aload_n hx hb dX2_init_4 rfl (lv_at hl 0 rfl) ?_
  refine lv_aload_n hx hb dX2_init_5 rfl (lv_at hl 1 rfl) ?_
  refine va_putF (D := D) (ci := 2) (v := .ref mn) (ty := (.object "TaleReader$Mentions")) (C := RX2) (T := TX2) (N := 4) hx hb hts hinX2 tyX2 tyX2_ok nmX2 hown hK hP hD hS 0 rfl rfl 0 (by decide) (hts (.fieldLink RX2 9 "TaleReader$Names" "mentions" "LTaleReader$Mentions;") (uc5 _ (List.mem_of_getElem? (i := 21) rfl))) (fun _ h9 => h9) rfl hin rfl (by decide +kernel) rfl rfl (Nat.le_of_ble_eq_true rfl) dX2_init_6 (fun H_1 L_2 hP hD hS => ?_)
  have hP : va_P D vwCl [(h0, .inr (2, [.ref mn, .null, .null, .int 0]))] H_1 := hP
  have hD : va_D A [(h0, .inr (2, [.ref mn, .null, .null, .int 0]))] := hD
  refine lv_aload_n hx hb dX2_init_9 rfl (lv_at hl 0 rfl) ?_
  refine lv_bipush (v := 80) hx hb dX2_init_10 (by decide) ?_
  refine pNewa (D := D) (cl := vwCl) (ty := .int) (N' := 80) (a0 := (80, .inl (fun _ => 0))) (cA := cI) hx hb (hts (.arrayClass .int) (uc3 _ (List.mem_of_getElem? (i := 13) rfl))) rfl hK hP hD hS hA (fun _ => rfl) (by decide) (by decide) (by decide) (Nat.le_of_ble_eq_true rfl) (Nat.le_of_ble_eq_true rfl) dX2_init_12 1 rfl (fun q_3 H_4 hP hD hS => ?_)
  have hP : va_P D vwCl [(h0, .inr (2, [.ref mn, .null, .null, .int 0])), (q_3, .inl (cI, 80, .inl (fun _ => 0)))] H_4 := hP
  have hD : va_D A [(h0, .inr (2, [.ref mn, .null, .null, .int 0])), (q_3, .inl (cI, 80, .inl (fun _ => 0)))] := hD
  refine W.widen (k := 1) (n := 80) (by decide) (by decide) ?_
  refine va_putF (D := D) (ci := 2) (v := .ref q_3) (ty := (.array .int)) (C := RX2) (T := TX2) (N := 4) hx hb hts hinX2 tyX2 tyX2_ok nmX2 hown hK hP hD hS 0 rfl rfl 1 (by decide) (hts (.fieldLink RX2 15 "TaleReader$Names" "firstMentions" "[I") (uc5 _ (List.mem_of_getElem? (i := 22) rfl))) (fun _ h9 => h9) rfl hin rfl (by decide +kernel) rfl rfl (Nat.le_of_ble_eq_true rfl) dX2_init_14 (fun H_5 L_6 hP hD hS => ?_)
  have hP : va_P D vwCl [(h0, .inr (2, [.ref mn, .ref q_3, .null, .int 0])), (q_3, .inl (cI, 80, .inl (fun _ => 0)))] H_5 := hP
  have hD : va_D A [(h0, .inr (2, [.ref mn, .ref q_3, .null, .int 0])), (q_3, .inl (cI, 80, .inl (fun _ => 0)))] := hD
  refine lv_aload_n hx hb dX2_init_17 rfl (lv_at hl 0 rfl) ?_
  refine lv_bipush (v := 80) hx hb dX2_init_18 (by decide) ?_
  refine pNewa (D := D) (cl := vwCl) (ty := .int) (N' := 80) (a0 := (80, .inl (fun _ => 0))) (cA := cI) hx hb (hts (.arrayClass .int) (uc3 _ (List.mem_of_getElem? (i := 13) rfl))) rfl hK hP hD hS hA (fun _ => rfl) (by decide) (by decide) (by decide) (Nat.le_of_ble_eq_true rfl) (Nat.le_of_ble_eq_true rfl) dX2_init_20 1 rfl (fun q_7 H_8 hP hD hS => ?_)
  have hP : va_P D vwCl [(h0, .inr (2, [.ref mn, .ref q_3, .null, .int 0])), (q_3, .inl (cI, 80, .inl (fun _ => 0))), (q_7, .inl (cI, 80, .inl (fun _ => 0)))] H_8 := hP
  have hD : va_D A [(h0, .inr (2, [.ref mn, .ref q_3, .null, .int 0])), (q_3, .inl (cI, 80, .inl (fun _ => 0))), (q_7, .inl (cI, 80, .inl (fun _ => 0)))] := hD
  refine W.widen (k := 2) (n := 160) (by decide) (by decide) ?_
  refine va_putF (D := D) (ci := 2) (v := .ref q_7) (ty := (.array .int)) (C := RX2) (T := TX2) (N := 4) hx hb hts hinX2 tyX2 tyX2_ok nmX2 hown hK hP hD hS 0 rfl rfl 2 (by decide) (hts (.fieldLink RX2 19 "TaleReader$Names" "owners" "[I") (uc5 _ (List.mem_of_getElem? (i := 23) rfl))) (fun _ h9 => h9) rfl hin rfl (by decide +kernel) rfl rfl (Nat.le_of_ble_eq_true rfl) dX2_init_22 (fun H_9 L_10 hP hD hS => ?_)
  have hP : va_P D vwCl [(h0, .inr (2, [.ref mn, .ref q_3, .ref q_7, .int 0])), (q_3, .inl (cI, 80, .inl (fun _ => 0))), (q_7, .inl (cI, 80, .inl (fun _ => 0)))] H_9 := hP
  have hD : va_D A [(h0, .inr (2, [.ref mn, .ref q_3, .ref q_7, .int 0])), (q_3, .inl (cI, 80, .inl (fun _ => 0))), (q_7, .inl (cI, 80, .inl (fun _ => 0)))] := hD
  refine lv_aload_n hx hb dX2_init_25 rfl (lv_at hl 0 rfl) ?_
  refine lv_iconst (v := 0) hx hb dX2_init_26 (by decide) ?_
  refine va_put (D := D) (ci := 2) (v := .int 0) (ty := .int) (C := RX2) (T := TX2) (N := 4) hx hb hts hinX2 tyX2 tyX2_ok nmX2 hown hK hP hD hS 0 rfl rfl 3 (by decide) (hts (.fieldLink RX2 22 "TaleReader$Names" "count" "I") (uc6 _ (List.mem_of_getElem? (i := 0) rfl))) (fun _ h9 => h9) rfl (by decide +kernel) rfl rfl (Nat.le_of_ble_eq_true rfl) dX2_init_27 (fun H_11 L_12 hP hD hS => ?_)
  have hP : va_P D vwCl [(h0, .inr (2, [.ref mn, .ref q_3, .ref q_7, .int 0])), (q_3, .inl (cI, 80, .inl (fun _ => 0))), (q_7, .inl (cI, 80, .inl (fun _ => 0)))] H_11 := hP
  have hD : va_D A [(h0, .inr (2, [.ref mn, .ref q_3, .ref q_7, .int 0])), (q_3, .inl (cI, 80, .inl (fun _ => 0))), (q_7, .inl (cI, 80, .inl (fun _ => 0)))] := hD
  have hP9 := hP.sub (ws' := [(h0, .inr (2, [.ref mn, .ref q_3, .ref q_7, .int 0])), (q_3, .inl (cI, 80, .inl (fun _ => 0))), (q_7, .inl (cI, 80, .inl (fun _ => 0)))]) [0, 1, 2] rfl
  have hD9 := hD.sub (ws' := [(h0, .inr (2, [.ref mn, .ref q_3, .ref q_7, .int 0])), (q_3, .inl (cI, 80, .inl (fun _ => 0))), (q_7, .inl (cI, 80, .inl (fun _ => 0)))]) [0, 1, 2] (by decide) rfl
  exact W.vret hx hb hr (fun t ht hW => ⟨⟨(q_3, q_7), rfl, trivial, ⟨by rw [ht]; exact hP9, va_K.moved hW.alike hK, hD9⟩⟩, hS.F ht⟩) hS.2.2 dX2_init_30
set_option maxHeartbeats 4000000 in
set_option maxRecDepth 100000 in
theorem c_X2_clear (l : Launch) (D : va_G) (cB cI cZ : ClassId) (sz : Nat) (h0 : Nat) (mn : Nat) (na1 : Nat) (na2 : Nat) (cnt : Int32) : Met l yX2_clear (.code yX2_clear cX2_clear 1 none :: wsL_law) ({ frames := 0, cells := 0, slots := 0, locals := 0 } : Room) (va_Pc [.ref h0] (pIn D (pT cB cI cZ) sz [(h0, .inr (2, [.ref mn, .ref na1, .ref na2, .int cnt]))])) (va_Qv (fun (u : Unit) => True) (fun (u : Unit) (t : State) => pAt D (pT cB cI cZ) (va_A [(h0, .inr (2, [.ref mn, .ref na1, .ref na2, .int cnt]))] sz) [(h0, .inr (2, [.ref mn, .ref na1, .ref na2, .int 0]))] t) (va_A [(h0, .inr (2, [.ref mn, .ref na1, .ref na2, .int cnt]))] sz)) 0 0 (va_A [(h0, .inr (2, [.ref mn, .ref na1, .ref na2, .int cnt]))] sz) := by
  refine Met.ofW (cc := cX2_clear) (maxL := 1) (ret := none) (by decide) rfl ?_
  intro p e s m args below meth c s₁ B hml hv
  obtain ⟨rfl, hsz, hP, hK, hD0⟩ := hv
  have hx := B.exec
  have hb := B.bytes
  have hr := B.returns
  have hts0 := atoms_spec (ws := .code yX2_clear cX2_clear 1 none :: wsL_law) B.pre
  have hts := fun (w : Cond) (h : w ∈ wsL_law) => hts0 w (List.mem_cons_of_mem _ h)
  have hown : s.vm.findClass RX2 = some m.cls := findClass_of_methodNamed B.named
  have hlocks := B.notSynchronized
  have hinX2 := inlX2
  subst hsz
  have hD := hD0.self (sz := s.heap.size)
  generalize hAe : va_A [(h0, .inr (2, [.ref mn, .ref na1, .ref na2, .int cnt]))] s.heap.size = A at hD ⊢
  have hA : ∀ q : Nat, s.heap.size ≤ q → A q := fun q h => by rw [← hAe]; exact Or.inr h
  have hS : va_S A s.heap s.heap [] := va_S.rf
  have hP : va_P D vwCl [(h0, .inr (2, [.ref mn, .ref na1, .ref na2, .int cnt]))] s.heap := hP
  have hl := lv_entry ([.ref h0]) (n := 1) (Nat.le_of_ble_eq_true rfl)
  rw [lg_entry_eq]
  generalize (lg_sl ([.ref h0]) ++ List.replicate (1 - (lg_sl ([.ref h0])).length) Slot.unset).toArray = ls at hl ⊢
  have hl : lv_has ls 1 [(0, .ref h0)] := hl
  refine lv_aload_n hx hb dX2_clear_0 rfl (lv_at hl 0 rfl) ?_
  refine lv_iconst (v := 0) hx hb dX2_clear_1 (by decide) ?_
  refine va_put (D := D) (ci := 2) (v := .int 0) (ty := .int) (C := RX2) (T := TX2) (N := 4) hx hb hts hinX2 tyX2 tyX2_ok nmX2 hown hK hP hD hS 0 rfl rfl 3 (by decide) (hts (.fieldLink RX2 22 "TaleReader$Names" "count" "I") (uc6 _ (List.mem_of_getElem? (i := 0) rfl))) (fun _ h9 => h9) rfl (by decide +kernel) rfl rfl (Nat.le_of_ble_eq_true rfl) dX2_clear_2 (fun H_1 L_2 hP hD hS => ?_)
  have hP : va_P D vwCl [(h0, .inr (2, [.ref mn, .ref na1, .ref na2, .int 0]))] H_1 := hP
  have hD : va_D A [(h0, .inr (2, [.ref mn, .ref na1, .ref na2, .int 0]))] := hD
  have hP9 := hP.sub (ws' := [(h0, .inr (2, [.ref mn, .ref na1, .ref na2, .int 0]))]) [0] rfl
  have hD9 := hD.sub (ws' := [(h0, .inr (2, [.ref mn, .ref na1, .ref na2, .int 0]))]) [0] (by decide) rfl
  exact W.vret hx hb hr (fun t ht hW => ⟨⟨(), rfl, trivial, ⟨by rw [ht]; exact hP9, va_K.moved hW.alike hK, hD9⟩⟩, hS.F ht⟩) hS.2.2 dX2_clear_5
