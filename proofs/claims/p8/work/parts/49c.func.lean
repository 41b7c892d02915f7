set_option maxHeartbeats 4000000 in
set_option maxRecDepth 100000 in
theorem f_X7_placeOf (l : Launch) (D : va_G) (cB cI cZ : ClassId) (E : pEt) (sz : Nat) (h0 : Nat) (w0 : Nat) (tl : Nat) (wa1 : Nat) (wa2 : Nat) (wa3 : Nat) (wa4 : Nat) (c : Nat) (sc : Int32) (fw1 : Nat → Int32) (fw2 : Nat → Int32) (fw3 : Nat → Int32) (ta : Nat) (kt : Nat) (ft : Nat → Int32) (tt : Nat → Nat) (wA : Nat → Nat) (wL : Nat → Nat) (wS : Nat → Nat) (hc : c ≤ 300) (hkt : kt ≤ 600) (hQw : qWg tt kt c fw1 fw2 fw3 wA wL wS) (hw0 : w0 < c) : Met l yX7_placeOf (.code yX7_placeOf cX7_placeOf 2 (some .int) :: wsL_law) ({ frames := 1, cells := 0, slots := 0, locals := 21 } : Room) (va_Pc [.ref h0, .int (nI w0)] (pInE E D (pT cB cI cZ) sz [(h0, .inr (7, [.ref tl, .ref wa1, .ref wa2, .ref wa3, .ref wa4, .int (nI c), .int sc])), (wa1, .inl (cI, 300, .inl fw1)), (wa2, .inl (cI, 300, .inl fw2)), (wa3, .inl (cI, 300, .inl fw3)), (tl, .inr (5, [.ref ta, .int (nI kt)])), (ta, .inl (cB, 600, .inl ft))])) (va_Qi (fun (r : Int32) (u : Unit) => (nI (wA w0)) = r) (fun (u : Unit) (t : State) => pAt D (pT cB cI cZ) (va_A [(h0, .inr (7, [.ref tl, .ref wa1, .ref wa2, .ref wa3, .ref wa4, .int (nI c), .int sc])), (wa1, .inl (cI, 300, .inl fw1)), (wa2, .inl (cI, 300, .inl fw2)), (wa3, .inl (cI, 300, .inl fw3)), (tl, .inr (5, [.ref ta, .int (nI kt)])), (ta, .inl (cB, 600, .inl ft))] sz) [(h0, .inr (7, [.ref tl, .ref wa1, .ref wa2, .ref wa3, .ref wa4, .int (nI c), .int sc])), (wa1, .inl (cI, 300, .inl fw1)), (wa2, .inl (cI, 300, .inl fw2)), (wa3, .inl (cI, 300, .inl fw3)), (tl, .inr (5, [.ref ta, .int (nI kt)])), (ta, .inl (cB, 600, .inl ft))] t) (va_A [(h0, .inr (7, [.ref tl, .ref wa1, .ref wa2, .ref wa3, .ref wa4, .int (nI c), .int sc])), (wa1, .inl (cI, 300, .inl fw1)), (wa2, .inl (cI, 300, .inl fw2)), (wa3, .inl (cI, 300, .inl fw3)), (tl, .inr (5, [.ref ta, .int (nI kt)])), (ta, .inl (cB, 600, .inl ft))] sz)) 0 0 (va_A [(h0, .inr (7, [.ref tl, .ref wa1, .ref wa2, .ref wa3, .ref wa4, .int (nI c), .int sc])), (wa1, .inl (cI, 300, .inl fw1)), (wa2, .inl (cI, 300, .inl fw2)), (wa3, .inl (cI, 300, .inl fw3)), (tl, .inr (5, [.ref ta, .int (nI kt)])), (ta, .inl (cB, 600, .inl ft))] sz) := by
  refine Met.ofW (cc := cX7_placeOf) (maxL := 2) (ret := (some .int)) (by decide) rfl ?_
  intro p e s m args below meth cd s₁ B hml hv
  obtain ⟨rfl, hsz, hP, hK, hD0, hE⟩ := hv
  have hx := B.exec
  have hb := B.bytes
  have hr := B.returns
  have hts0 := atoms_spec (ws := .code yX7_placeOf cX7_placeOf 2 (some .int) :: wsL_law) B.pre
  have hts := fun (w : Cond) (h : w ∈ wsL_law) => hts0 w (List.mem_cons_of_mem _ h)
  have hown : s.vm.findClass RX7 = some m.cls := findClass_of_methodNamed B.named
  have hlocks := B.notSynchronized
  have hinX7 := inlX7
  subst hsz
  have hD := hD0.self (sz := s.heap.size)
  generalize hAe : va_A [(h0, .inr (7, [.ref tl, .ref wa1, .ref wa2, .ref wa3, .ref wa4, .int (nI c), .int sc])), (wa1, .inl (cI, 300, .inl fw1)), (wa2, .inl (cI, 300, .inl fw2)), (wa3, .inl (cI, 300, .inl fw3)), (tl, .inr (5, [.ref ta, .int (nI kt)])), (ta, .inl (cB, 600, .inl ft))] s.heap.size = A at hD hE ⊢
  have hA : ∀ q : Nat, s.heap.size ≤ q → A q := fun q h => by rw [← hAe]; exact Or.inr h
  have hS : va_S A s.heap s.heap [] := va_S.rf
  have hP : va_P D vwCl [(h0, .inr (7, [.ref tl, .ref wa1, .ref wa2, .ref wa3, .ref wa4, .int (nI c), .int sc])), (wa1, .inl (cI, 300, .inl fw1)), (wa2, .inl (cI, 300, .inl fw2)), (wa3, .inl (cI, 300, .inl fw3)), (tl, .inr (5, [.ref ta, .int (nI kt)])), (ta, .inl (cB, 600, .inl ft))] s.heap := hP
  have hl := lv_entry ([.ref h0, .int (nI w0)]) (n := 2) (Nat.le_of_ble_eq_true rfl)
  rw [lg_entry_eq]
  generalize (lg_sl ([.ref h0, .int (nI w0)]) ++ List.replicate (2 - (lg_sl ([.ref h0, .int (nI w0)])).length) Slot.unset).toArray = ls at hl ⊢
  have hl : lv_has ls 2 [(0, .ref h0), (1, .int (nI w0))] := hl
  refine lv_aload_n hx hb dX7_placeOf_0 rfl (lv_at hl 0 rfl) ?_
  refine lv_iload_n hx hb dX7_placeOf_1 rfl (lv_at hl 1 rfl) ?_
  have hPc := hP.sub (ws' := [(h0, .inr (7, [.ref tl, .ref wa1, .ref wa2, .ref wa3, .ref wa4, .int (nI c), .int sc]))]) [0] rfl
  have hDc := hD.sub (ws' := [(h0, .inr (7, [.ref tl, .ref wa1, .ref wa2, .ref wa3, .ref wa4, .int (nI c), .int sc]))]) [0] (by decide) rfl
  have hFc := va_free (wc := [(h0, .inr (7, [.ref tl, .ref wa1, .ref wa2, .ref wa3, .ref wa4, .int (nI c), .int sc]))]) hD hS hA [0] rfl
  refine va_calli (va_runV (As := [.int (nI w0)]) (rest := []) ⟨hx, hb, hml, hown, hts⟩ (s_X7_has l D cB cI cZ E s.heap.size h0 (nI w0) tl wa1 wa2 wa3 wa4 (nI c) sc) (cwV 1 hts (uV (uc11 _ (List.mem_of_getElem? (i := 8) rfl)) (uc11 _ (List.mem_of_getElem? (i := 9) rfl)) (uc11 _ (List.mem_of_getElem? (i := 10) rfl)) (uc1 _ (List.mem_of_getElem? (i := 18) rfl)) (uc11 _ (List.mem_of_getElem? (i := 11) rfl))) rfl rfl rfl (by decide +kernel) ⟨Nat.le_of_ble_eq_true rfl, Nat.le_of_ble_eq_true rfl⟩) (pVE hE hS hFc hK hPc hDc 0 rfl rfl) rfl rfl hl.1 rfl (lv_room (Nat.le_of_ble_eq_true rfl)) dX7_placeOf_2 ⟨Nat.le_of_ble_eq_true rfl, Nat.le_of_ble_eq_true rfl⟩) hS (fun q _ h => hFc q h) hFc (fun r_1 u t H_2 L_3 ht hvm hw hB hz1 hk1 hS => ?_)
  obtain ⟨hP1, -, hD1⟩ := hB
  rw [ht] at hP1
  obtain ⟨hP, hD⟩ := va_join (wr := [(wa1, .inl (cI, 300, .inl fw1)), (wa2, .inl (cI, 300, .inl fw2)), (wa3, .inl (cI, 300, .inl fw3)), (tl, .inr (5, [.ref ta, .int (nI kt)])), (ta, .inl (cB, 600, .inl ft))]) (w1 := [(h0, .inr (7, [.ref tl, .ref wa1, .ref wa2, .ref wa3, .ref wa4, .int (nI c), .int sc]))]) hP hD [0] [1, 2, 3, 4, 5] rfl rfl (by decide) (by decide) hk1 hFc hP1 hD1
  have hP : va_P D vwCl [(h0, .inr (7, [.ref tl, .ref wa1, .ref wa2, .ref wa3, .ref wa4, .int (nI c), .int sc])), (wa1, .inl (cI, 300, .inl fw1)), (wa2, .inl (cI, 300, .inl fw2)), (wa3, .inl (cI, 300, .inl fw3)), (tl, .inr (5, [.ref ta, .int (nI kt)])), (ta, .inl (cB, 600, .inl ft))] H_2 := hP.sub [5, 0, 1, 2, 3, 4] rfl
  have hD : va_D A [(h0, .inr (7, [.ref tl, .ref wa1, .ref wa2, .ref wa3, .ref wa4, .int (nI c), .int sc])), (wa1, .inl (cI, 300, .inl fw1)), (wa2, .inl (cI, 300, .inl fw2)), (wa3, .inl (cI, 300, .inl fw3)), (tl, .inr (5, [.ref ta, .int (nI kt)])), (ta, .inl (cB, 600, .inl ft))] := hD.sub [5, 0, 1, 2, 3, 4] (by decide) rfl
  try dsimp only at hw
  rcases hw with ⟨rfl, h_4⟩ | ⟨rfl, h_5, h_6⟩
  · exact False.elim (by exact h_4.elim (nI_pos (by omega)) (fun q => absurd ((nI_leI (by omega) (by omega)).mp q) (by omega)))
  · refine lv_if_eq (tgt := 17) hx hb dX7_placeOf_5 (by decide) (fun c_7 => ?_) (fun c_7 => ?_)
    · exact False.elim (by revert c_7; decide)
    · refine lv_aload_n hx hb dX7_placeOf_8 rfl (lv_at hl 0 rfl) ?_
      refine va_get (D := D) (ci := 7) (v := .ref wa1) (C := RX7) (T := TX7) (N := 7) hx hb hts hinX7 hown hK hP 0 rfl rfl 1 (by decide) (hts (.fieldLink RX7 20 "TaleReader$Words" "places" "[I") (uc3 _ (List.mem_of_getElem? (i := 14) rfl))) (fun _ h9 => h9) rfl dX7_placeOf_9 ?_
      refine lv_iload_n hx hb dX7_placeOf_12 rfl (lv_at hl 1 rfl) ?_
      refine va_iald (D := D) hx hb hK hP 1 1 rfl rfl (vp_in_nI (by omega) (by omega)) dX7_placeOf_13 ?_
      refine lv_topi (fun z_8 ez_8 => ?_)
      obtain rfl : z_8 = nI (wA w0) := ez_8.trans ((congrArg fw1 (nI_clamp (by omega))).trans (hQw w0 hw0).1)
      refine lv_goto (tgt := 18) hx hb dX7_placeOf_14 (by decide) ?_
      have hP9 := hP.sub (ws' := [(h0, .inr (7, [.ref tl, .ref wa1, .ref wa2, .ref wa3, .ref wa4, .int (nI c), .int sc])), (wa1, .inl (cI, 300, .inl fw1)), (wa2, .inl (cI, 300, .inl fw2)), (wa3, .inl (cI, 300, .inl fw3)), (tl, .inr (5, [.ref ta, .int (nI kt)])), (ta, .inl (cB, 600, .inl ft))]) [0, 1, 2, 3, 4, 5] rfl
      have hD9 := hD.sub (ws' := [(h0, .inr (7, [.ref tl, .ref wa1, .ref wa2, .ref wa3, .ref wa4, .int (nI c), .int sc])), (wa1, .inl (cI, 300, .inl fw1)), (wa2, .inl (cI, 300, .inl fw2)), (wa3, .inl (cI, 300, .inl fw3)), (tl, .inr (5, [.ref ta, .int (nI kt)])), (ta, .inl (cB, 600, .inl ft))]) [0, 1, 2, 3, 4, 5] (by decide) rfl
      exact W.iret (v := nI (wA w0)) hx hb hr (fun t ht hW => ⟨⟨nI (wA w0), (), rfl, rfl, ⟨by rw [ht]; exact hP9, va_K.moved hW.alike hK, hD9⟩⟩, hS.F ht⟩) hS.2.2 dX7_placeOf_18
set_option maxHeartbeats 4000000 in
set_option maxRecDepth 100000 in
theorem f_X7_lengthOf (l : Launch) (D : va_G) (cB cI cZ : ClassId) (E : pEt) (sz : Nat) (h0 : Nat) (w0 : Nat) (tl : Nat) (wa1 : Nat) (wa2 : Nat) (wa3 : Nat) (wa4 : Nat) (c : Nat) (sc : Int32) (fw1 : Nat → Int32) (fw2 : Nat → Int32) (fw3 : Nat → Int32) (ta : Nat) (kt : Nat) (ft : Nat → Int32) (tt : Nat → Nat) (wA : Nat → Nat) (wL : Nat → Nat) (wS : Nat → Nat) (hc : c ≤ 300) (hkt : kt ≤ 600) (hQw : qWg tt kt c fw1 fw2 fw3 wA wL wS) (hw0 : w0 < c) : Met l yX7_lengthOf (.code yX7_lengthOf cX7_lengthOf 2 (some .int) :: wsL_law) ({ frames := 1, cells := 0, slots := 0, locals := 21 } : Room) (va_Pc [.ref h0, .int (nI w0)] (pInE E D (pT cB cI cZ) sz [(h0, .inr (7, [.ref tl, .ref wa1, .ref wa2, .ref wa3, .ref wa4, .int (nI c), .int sc])), (wa1, .inl (cI, 300, .inl fw1)), (wa2, .inl (cI, 300, .inl fw2)), (wa3, .inl (cI, 300, .inl fw3)), (tl, .inr (5, [.ref ta, .int (nI kt)])), (ta, .inl (cB, 600, .inl ft))])) (va_Qi (fun (r : Int32) (u : Unit) => (nI (wL w0)) = r) (fun (u : Unit) (t : State) => pAt D (pT cB cI cZ) (va_A [(h0, .inr (7, [.ref tl, .ref wa1, .ref wa2, .ref wa3, .ref wa4, .int (nI c), .int sc])), (wa1, .inl (cI, 300, .inl fw1)), (wa2, .inl (cI, 300, .inl fw2)), (wa3, .inl (cI, 300, .inl fw3)), (tl, .inr (5, [.ref ta, .int (nI kt)])), (ta, .inl (cB, 600, .inl ft))] sz) [(h0, .inr (7, [.ref tl, .ref wa1, .ref wa2, .ref wa3, .ref wa4, .int (nI c), .int sc])), (wa1, .inl (cI, 300, .inl fw1)), (wa2, .inl (cI, 300, .inl fw2)), (wa3, .inl (cI, 300, .inl fw3)), (tl, .inr (5, [.ref ta, .int (nI kt)])), (ta, .inl (cB, 600, .inl ft))] t) (va_A [(h0, .inr (7, [.ref tl, .ref wa1, .ref wa2, .ref wa3, .ref wa4, .int (nI c), .int sc])), (wa1, .inl (cI, 300, .inl fw1)), (wa2, .inl (cI, 300, .inl fw2)), (wa3, .inl (cI, 300, .inl fw3)), (tl, .inr (5, [.ref ta, .int (nI kt)])), (ta, .inl (cB, 600, .inl ft))] sz)) 0 0 (va_A [(h0, .inr (7, [.ref tl, .ref wa1, .ref wa2, .ref wa3, .ref wa4, .int (nI c), .int sc])), (wa1, .inl (cI, 300, .inl fw1)), (wa2, .inl (cI, 300, .inl fw2)), (wa3, .inl (cI, 300, .inl fw3)), (tl, .inr (5, [.ref ta, .int (nI kt)])), (ta, .inl (cB, 600, .inl ft))] sz) := by
  refine Met.ofW (cc := cX7_lengthOf) (maxL := 2) (ret := (some .int)) (by decide) rfl ?_
  intro p e s m args below meth cd s₁ B hml hv
  obtain ⟨rfl, hsz, hP, hK, hD0, hE⟩ := hv
  have hx := B.exec
  have hb := B.bytes
  have hr := B.returns
  have hts0 := atoms_spec (ws := .code yX7_lengthOf cX7_lengthOf 2 (some .int) :: wsL_law) B.pre
  have hts := fun (w : Cond) (h : w ∈ wsL_law) => hts0 w (List.mem_cons_of_mem _ h)
  have hown : s.vm.findClass RX7 = some m.cls := findClass_of_methodNamed B.named
  have hlocks := B.notSynchronized
  have hinX7 := inlX7
  subst hsz
  have hD := hD0.self (sz := s.heap.size)
  generalize hAe : va_A [(h0, .inr (7, [.ref tl, .ref wa1, .ref wa2, .ref wa3, .ref wa4, .int (nI c), .int sc])), (wa1, .inl (cI, 300, .inl fw1)), (wa2, .inl (cI, 300, .inl fw2)), (wa3, .inl (cI, 300, .inl fw3)), (tl, .inr (5, [.ref ta, .int (nI kt)])), (ta, .inl (cB, 600, .inl ft))] s.heap.size = A at hD hE ⊢
  have hA : ∀ q : Nat, s.heap.size ≤ q → A q := fun q h => by rw [← hAe]; exact Or.inr h
  have hS : va_S A s.heap s.heap [] := va_S.rf
  have hP : va_P D vwCl [(h0, .inr (7, [.ref tl, .ref wa1, .ref wa2, .ref wa3, .ref wa4, .int (nI c), .int sc])), (wa1, .inl (cI, 300, .inl fw1)), (wa2, .inl (cI, 300, .inl fw2)), (wa3, .inl (cI, 300, .inl fw3)), (tl, .inr (5, [.ref ta, .int (nI kt)])), (ta, .inl (cB, 600, .inl ft))] s.heap := hP
  have hl := lv_entry ([.ref h0, .int (nI w0)]) (n := 2) (Nat.le_of_ble_eq_true rfl)
  rw [lg_entry_eq]
  generalize (lg_sl ([.ref h0, .int (nI w0)]) ++ List.replicate (2 - (lg_sl ([.ref h0, .int (nI w0)])).length) Slot.unset).toArray = ls at hl ⊢
  have hl : lv_has ls 2 [(0, .ref h0), (1, .int (nI w0))] := hl
  refine lv_aload_n hx hb dX7_lengthOf_0 rfl (lv_at hl 0 rfl) ?_
  refine lv_iload_n hx hb dX7_lengthOf_1 rfl (lv_at hl 1 rfl) ?_
  have hPc := hP.sub (ws' := [(h0, .inr (7, [.ref tl, .ref wa1, .ref wa2, .ref wa3, .ref wa4, .int (nI c), .int sc]))]) [0] rfl
  have hDc := hD.sub (ws' := [(h0, .inr (7, [.ref tl, .ref wa1, .ref wa2, .ref wa3, .ref wa4, .int (nI c), .int sc]))]) [0] (by decide) rfl
  have hFc := va_free (wc := [(h0, .inr (7, [.ref tl, .ref wa1, .ref wa2, .ref wa3, .ref wa4, .int (nI c), .int sc]))]) hD hS hA [0] rfl
  refine va_calli (va_runV (As := [.int (nI w0)]) (rest := []) ⟨hx, hb, hml, hown, hts⟩ (s_X7_has l D cB cI cZ E s.heap.size h0 (nI w0) tl wa1 wa2 wa3 wa4 (nI c) sc) (cwV 1 hts (uV (uc11 _ (List.mem_of_getElem? (i := 8) rfl)) (uc11 _ (List.mem_of_getElem? (i := 9) rfl)) (uc11 _ (List.mem_of_getElem? (i := 10) rfl)) (uc1 _ (List.mem_of_getElem? (i := 18) rfl)) (uc11 _ (List.mem_of_getElem? (i := 11) rfl))) rfl rfl rfl (by decide +kernel) ⟨Nat.le_of_ble_eq_true rfl, Nat.le_of_ble_eq_true rfl⟩) (pVE hE hS hFc hK hPc hDc 0 rfl rfl) rfl rfl hl.1 rfl (lv_room (Nat.le_of_ble_eq_true rfl)) dX7_lengthOf_2 ⟨Nat.le_of_ble_eq_true rfl, Nat.le_of_ble_eq_true rfl⟩) hS (fun q _ h => hFc q h) hFc (fun r_1 u t H_2 L_3 ht hvm hw hB hz1 hk1 hS => ?_)
  obtain ⟨hP1, -, hD1⟩ := hB
  rw [ht] at hP1
  obtain ⟨hP, hD⟩ := va_join (wr := [(wa1, .inl (cI, 300, .inl fw1)), (wa2, .inl (cI, 300, .inl fw2)), (wa3, .inl (cI, 300, .inl fw3)), (tl, .inr (5, [.ref ta, .int (nI kt)])), (ta, .inl (cB, 600, .inl ft))]) (w1 := [(h0, .inr (7, [.ref tl, .ref wa1, .ref wa2, .ref wa3, .ref wa4, .int (nI c), .int sc]))]) hP hD [0] [1, 2, 3, 4, 5] rfl rfl (by decide) (by decide) hk1 hFc hP1 hD1
  have hP : va_P D vwCl [(h0, .inr (7, [.ref tl, .ref wa1, .ref wa2, .ref wa3, .ref wa4, .int (nI c), .int sc])), (wa1, .inl (cI, 300, .inl fw1)), (wa2, .inl (cI, 300, .inl fw2)), (wa3, .inl (cI, 300, .inl fw3)), (tl, .inr (5, [.ref ta, .int (nI kt)])), (ta, .inl (cB, 600, .inl ft))] H_2 := hP.sub [5, 0, 1, 2, 3, 4] rfl
  have hD : va_D A [(h0, .inr (7, [.ref tl, .ref wa1, .ref wa2, .ref wa3, .ref wa4, .int (nI c), .int sc])), (wa1, .inl (cI, 300, .inl fw1)), (wa2, .inl (cI, 300, .inl fw2)), (wa3, .inl (cI, 300, .inl fw3)), (tl, .inr (5, [.ref ta, .int (nI kt)])), (ta, .inl (cB, 600, .inl ft))] := hD.sub [5, 0, 1, 2, 3, 4] (by decide) rfl
  try dsimp only at hw
  rcases hw with ⟨rfl, h_4⟩ | ⟨rfl, h_5, h_6⟩
  · exact False.elim (by exact h_4.elim (nI_pos (by omega)) (fun q => absurd ((nI_leI (by omega) (by omega)).mp q) (by omega)))
  · refine lv_if_eq (tgt := 17) hx hb dX7_lengthOf_5 (by decide) (fun c_7 => ?_) (fun c_7 => ?_)
    · exact False.elim (by revert c_7; decide)
    · refine lv_aload_n hx hb dX7_lengthOf_8 rfl (lv_at hl 0 rfl) ?_
      refine va_get (D := D) (ci := 7) (v := .ref wa2) (C := RX7) (T := TX7) (N := 7) hx hb hts hinX7 hown hK hP 0 rfl rfl 2 (by decide) (hts (.fieldLink RX7 24 "TaleReader$Words" "lengths" "[I") (uc3 _ (List.mem_of_getElem? (i := 15) rfl))) (fun _ h9 => h9) rfl dX7_lengthOf_9 ?_
      refine lv_iload_n hx hb dX7_lengthOf_12 rfl (lv_at hl 1 rfl) ?_
      refine va_iald (D := D) hx hb hK hP 2 1 rfl rfl (vp_in_nI (by omega) (by omega)) dX7_lengthOf_13 ?_
      refine lv_topi (fun z_8 ez_8 => ?_)
      obtain rfl : z_8 = nI (wL w0) := ez_8.trans ((congrArg fw2 (nI_clamp (by omega))).trans (hQw w0 hw0).2.1)
      refine lv_goto (tgt := 18) hx hb dX7_lengthOf_14 (by decide) ?_
      have hP9 := hP.sub (ws' := [(h0, .inr (7, [.ref tl, .ref wa1, .ref wa2, .ref wa3, .ref wa4, .int (nI c), .int sc])), (wa1, .inl (cI, 300, .inl fw1)), (wa2, .inl (cI, 300, .inl fw2)), (wa3, .inl (cI, 300, .inl fw3)), (tl, .inr (5, [.ref ta, .int (nI kt)])), (ta, .inl (cB, 600, .inl ft))]) [0, 1, 2, 3, 4, 5] rfl
      have hD9 := hD.sub (ws' := [(h0, .inr (7, [.ref tl, .ref wa1, .ref wa2, .ref wa3, .ref wa4, .int (nI c), .int sc])), (wa1, .inl (cI, 300, .inl fw1)), (wa2, .inl (cI, 300, .inl fw2)), (wa3, .inl (cI, 300, .inl fw3)), (tl, .inr (5, [.ref ta, .int (nI kt)])), (ta, .inl (cB, 600, .inl ft))]) [0, 1, 2, 3, 4, 5] (by decide) rfl
      exact W.iret (v := nI (wL w0)) hx hb hr (fun t ht hW => ⟨⟨nI (wL w0), (), rfl, rfl, ⟨by rw [ht]; exact hP9, va_K.moved hW.alike hK, hD9⟩⟩, hS.F ht⟩) hS.2.2 dX7_lengthOf_18
set_option maxHeartbeats 4000000 in
set_option maxRecDepth 100000 in
theorem f_X7_sentenceOf (l : Launch) (D : va_G) (cB cI cZ : ClassId) (E : pEt) (sz : Nat) (h0 : Nat) (w0 : Nat) (tl : Nat) (wa1 : Nat) (wa2 : Nat) (wa3 : Nat) (wa4 : Nat) (c : Nat) (sc : Int32) (fw1 : Nat → Int32) (fw2 : Nat → Int32) (fw3 : Nat → Int32) (ta : Nat) (kt : Nat) (ft : Nat → Int32) (tt : Nat → Nat) (wA : Nat → Nat) (wL : Nat → Nat) (wS : Nat → Nat) (hc : c ≤ 300) (hkt : kt ≤ 600) (hQw : qWg tt kt c fw1 fw2 fw3 wA wL wS) (hw0 : w0 < c) : Met l yX7_sentenceOf (.code yX7_sentenceOf cX7_sentenceOf 2 (some .int) :: wsL_law) ({ frames := 1, cells := 0, slots := 0, locals := 21 } : Room) (va_Pc [.ref h0, .int (nI w0)] (pInE E D (pT cB cI cZ) sz [(h0, .inr (7, [.ref tl, .ref wa1, .ref wa2, .ref wa3, .ref wa4, .int (nI c), .int sc])), (wa1, .inl (cI, 300, .inl fw1)), (wa2, .inl (cI, 300, .inl fw2)), (wa3, .inl (cI, 300, .inl fw3)), (tl, .inr (5, [.ref ta, .int (nI kt)])), (ta, .inl (cB, 600, .inl ft))])) (va_Qi (fun (r : Int32) (u : Unit) => (nI (wS w0)) = r) (fun (u : Unit) (t : State) => pAt D (pT cB cI cZ) (va_A [(h0, .inr (7, [.ref tl, .ref wa1, .ref wa2, .ref wa3, .ref wa4, .int (nI c), .int sc])), (wa1, .inl (cI, 300, .inl fw1)), (wa2, .inl (cI, 300, .inl fw2)), (wa3, .inl (cI, 300, .inl fw3)), (tl, .inr (5, [.ref ta, .int (nI kt)])), (ta, .inl (cB, 600, .inl ft))] sz) [(h0, .inr (7, [.ref tl, .ref wa1, .ref wa2, .ref wa3, .ref wa4, .int (nI c), .int sc])), (wa1, .inl (cI, 300, .inl fw1)), (wa2, .inl (cI, 300, .inl fw2)), (wa3, .inl (cI, 300, .inl fw3)), (tl, .inr (5, [.ref ta, .int (nI kt)])), (ta, .inl (cB, 600, .inl ft))] t) (va_A [(h0, .inr (7, [.ref tl, .ref wa1, .ref wa2, .ref wa3, .ref wa4, .int (nI c), .int sc])), (wa1, .inl (cI, 300, .inl fw1)), (wa2, .inl (cI, 300, .inl fw2)), (wa3, .inl (cI, 300, .inl fw3)), (tl, .inr (5, [.ref ta, .int (nI kt)])), (ta, .inl (cB, 600, .inl ft))] sz)) 0 0 (va_A [(h0, .inr (7, [.ref tl, .ref wa1, .ref wa2, .ref wa3, .ref wa4, .int (nI c), .int sc])), (wa1, .inl (cI, 300, .inl fw1)), (wa2, .inl (cI, 300, .inl fw2)), (wa3, .inl (cI, 300, .inl fw3)), (tl, .inr (5, [.ref ta, .int (nI kt)])), (ta, .inl (cB, 600, .inl ft))] sz) := by
  refine Met.ofW (cc := cX7_sentenceOf) (maxL := 2) (ret := (some .int)) (by decide) rfl ?_
  intro p e s m args below meth cd s₁ B hml hv
  obtain ⟨rfl, hsz, hP, hK, hD0, hE⟩ := hv
  have hx := B.exec
  have hb := B.bytes
  have hr := B.returns
  have hts0 := atoms_spec (ws := .code yX7_sentenceOf cX7_sentenceOf 2 (some .int) :: wsL_law) B.pre
  have hts := fun (w : Cond) (h : w ∈ wsL_law) => hts0 w (List.mem_cons_of_mem _ h)
  have hown : s.vm.findClass RX7 = some m.cls := findClass_of_methodNamed B.named
  have hlocks := B.notSynchronized
  have hinX7 := inlX7
  subst hsz
  have hD := hD0.self (sz := s.heap.size)
  generalize hAe : va_A [(h0, .inr (7, [.ref tl, .ref wa1, .ref wa2, .ref wa3, .ref wa4, .int (nI c), .int sc])), (wa1, .inl (cI, 300, .inl fw1)), (wa2, .inl (cI, 300, .inl fw2)), (wa3, .inl (cI, 300, .inl fw3)), (tl, .inr (5, [.ref ta, .int (nI kt)])), (ta, .inl (cB, 600, .inl ft))] s.heap.size = A at hD hE ⊢
  have hA : ∀ q : Nat, s.heap.size ≤ q → A q := fun q h => by rw [← hAe]; exact Or.inr h
  have hS : va_S A s.heap s.heap [] := va_S.rf
  have hP : va_P D vwCl [(h0, .inr (7, [.ref tl, .ref wa1, .ref wa2, .ref wa3, .ref wa4, .int (nI c), .int sc])), (wa1, .inl (cI, 300, .inl fw1)), (wa2, .inl (cI, 300, .inl fw2)), (wa3, .inl (cI, 300, .inl fw3)), (tl, .inr (5, [.ref ta, .int (nI kt)])), (ta, .inl (cB, 600, .inl ft))] s.heap := hP
  have hl := lv_entry ([.ref h0, .int (nI w0)]) (n := 2) (Nat.le_of_ble_eq_true rfl)
  rw [lg_entry_eq]
  generalize (lg_sl ([.ref h0, .int (nI w0)]) ++ List.replicate (2 - (lg_sl ([.ref h0, .int (nI w0)])).length) Slot.unset).toArray = ls at hl ⊢
  have hl : lv_has ls 2 [(0, .ref h0), (1, .int (nI w0))] := hl
  refine lv_aload_n hx hb dX7_sentenceOf_0 rfl (lv_at hl 0 rfl) ?_
  refine lv_iload_n hx hb dX7_sentenceOf_1 rfl (lv_at hl 1 rfl) ?_
  have hPc := hP.sub (ws' := [(h0, .inr (7, [.ref tl, .ref wa1, .ref wa2, .ref wa3, .ref wa4, .int (nI c), .int sc]))]) [0] rfl
  have hDc := hD.sub (ws' := [(h0, .inr (7, [.ref tl, .ref wa1, .ref wa2, .ref wa3, .ref wa4, .int (nI c), .int sc]))]) [0] (by decide) rfl
  have hFc := va_free (wc := [(h0, .inr (7, [.ref tl, .ref wa1, .ref wa2, .ref wa3, .ref wa4, .int (nI c), .int sc]))]) hD hS hA [0] rfl
  refine va_calli (va_runV (As := [.int (nI w0)]) (rest := []) ⟨hx, hb, hml, hown, hts⟩ (s_X7_has l D cB cI cZ E s.heap.size h0 (nI w0) tl wa1 wa2 wa3 wa4 (nI c) sc) (cwV 1 hts (uV (uc11 _ (List.mem_of_getElem? (i := 8) rfl)) (uc11 _ (List.mem_of_getElem? (i := 9) rfl)) (uc11 _ (List.mem_of_getElem? (i := 10) rfl)) (uc1 _ (List.mem_of_getElem? (i := 18) rfl)) (uc11 _ (List.mem_of_getElem? (i := 11) rfl))) rfl rfl rfl (by decide +kernel) ⟨Nat.le_of_ble_eq_true rfl, Nat.le_of_ble_eq_true rfl⟩) (pVE hE hS hFc hK hPc hDc 0 rfl rfl) rfl rfl hl.1 rfl (lv_room (Nat.le_of_ble_eq_true rfl)) dX7_sentenceOf_2 ⟨Nat.le_of_ble_eq_true rfl, Nat.le_of_ble_eq_true rfl⟩) hS (fun q _ h => hFc q h) hFc (fun r_1 u t H_2 L_3 ht hvm hw hB hz1 hk1 hS => ?_)
  obtain ⟨hP1, -, hD1⟩ := hB
  rw [ht] at hP1
  obtain ⟨hP, hD⟩ := va_join (wr := [(wa1, .inl (cI, 300, .inl fw1)), (wa2, .inl (cI, 300, .inl fw2)), (wa3, .inl (cI, 300, .inl fw3)), (tl, .inr (5, [.ref ta, .int (nI kt)])), (ta, .inl (cB, 600, .inl ft))]) (w1 := [(h0, .inr (7, [.ref tl, .ref wa1, .ref wa2, .ref wa3, .ref wa4, .int (nI c), .int sc]))]) hP hD [0] [1, 2, 3, 4, 5] rfl rfl (by decide) (by decide) hk1 hFc hP1 hD1
  have hP : va_P D vwCl [(h0, .inr (7, [.ref tl, .ref wa1, .ref wa2, .ref wa3, .ref wa4, .int (nI c), .int sc])), (wa1, .inl (cI, 300, .inl fw1)), (wa2, .inl (cI, 300, .inl fw2)), (wa3, .inl (cI, 300, .inl fw3)), (tl, .inr (5, [.ref ta, .int (nI kt)])), (ta, .inl (cB, 600, .inl ft))] H_2 := hP.sub [5, 0, 1, 2, 3, 4] rfl
  have hD : va_D A [(h0, .inr (7, [.ref tl, .ref wa1, .ref wa2, .ref wa3, .ref wa4, .int (nI c), .int sc])), (wa1, .inl (cI, 300, .inl fw1)), (wa2, .inl (cI, 300, .inl fw2)), (wa3, .inl (cI, 300, .inl fw3)), (tl, .inr (5, [.ref ta, .int (nI kt)])), (ta, .inl (cB, 600, .inl ft))] := hD.sub [5, 0, 1, 2, 3, 4] (by decide) rfl
  try dsimp only at hw
  rcases hw with ⟨rfl, h_4⟩ | ⟨rfl, h_5, h_6⟩
  · exact False.elim (by exact h_4.elim (nI_pos (by omega)) (fun q => absurd ((nI_leI (by omega) (by omega)).mp q) (by omega)))
  · refine lv_if_eq (tgt := 17) hx hb dX7_sentenceOf_5 (by decide) (fun c_7 => ?_) (fun c_7 => ?_)
    · exact False.elim (by revert c_7; decide)
    · refine lv_aload_n hx hb dX7_sentenceOf_8 rfl (lv_at hl 0 rfl) ?_
      refine va_get (D := D) (ci := 7) (v := .ref wa3) (C := RX7) (T := TX7) (N := 7) hx hb hts hinX7 hown hK hP 0 rfl rfl 3 (by decide) (hts (.fieldLink RX7 27 "TaleReader$Words" "sentences" "[I") (uc3 _ (List.mem_of_getElem? (i := 16) rfl))) (fun _ h9 => h9) rfl dX7_sentenceOf_9 ?_
      refine lv_iload_n hx hb dX7_sentenceOf_12 rfl (lv_at hl 1 rfl) ?_
      refine va_iald (D := D) hx hb hK hP 3 1 rfl rfl (vp_in_nI (by omega) (by omega)) dX7_sentenceOf_13 ?_
      refine lv_topi (fun z_8 ez_8 => ?_)
      obtain rfl : z_8 = nI (wS w0) := ez_8.trans ((congrArg fw3 (nI_clamp (by omega))).trans (hQw w0 hw0).2.2.1)
      refine lv_goto (tgt := 18) hx hb dX7_sentenceOf_14 (by decide) ?_
      have hP9 := hP.sub (ws' := [(h0, .inr (7, [.ref tl, .ref wa1, .ref wa2, .ref wa3, .ref wa4, .int (nI c), .int sc])), (wa1, .inl (cI, 300, .inl fw1)), (wa2, .inl (cI, 300, .inl fw2)), (wa3, .inl (cI, 300, .inl fw3)), (tl, .inr (5, [.ref ta, .int (nI kt)])), (ta, .inl (cB, 600, .inl ft))]) [0, 1, 2, 3, 4, 5] rfl
      have hD9 := hD.sub (ws' := [(h0, .inr (7, [.ref tl, .ref wa1, .ref wa2, .ref wa3, .ref wa4, .int (nI c), .int sc])), (wa1, .inl (cI, 300, .inl fw1)), (wa2, .inl (cI, 300, .inl fw2)), (wa3, .inl (cI, 300, .inl fw3)), (tl, .inr (5, [.ref ta, .int (nI kt)])), (ta, .inl (cB, 600, .inl ft))]) [0, 1, 2, 3, 4, 5] (by decide) rfl
      exact W.iret (v := nI (wS w0)) hx hb hr (fun t ht hW => ⟨⟨nI (wS w0), (), rfl, rfl, ⟨by rw [ht]; exact hP9, va_K.moved hW.alike hK, hD9⟩⟩, hS.F ht⟩) hS.2.2 dX7_sentenceOf_18
set_option maxHeartbeats 4000000 in
set_option maxRecDepth 100000 in
theorem f_X7_kindOf (l : Launch) (D : va_G) (cB cI cZ : ClassId) (E : pEt) (sz : Nat) (h0 : Nat) (w0 : Nat) (tl : Nat) (wa1 : Nat) (wa2 : Nat) (wa3 : Nat) (wa4 : Nat) (c : Nat) (sc : Int32) (fw4 : Nat → Int32) (hc : c ≤ 300) (hw0 : w0 < c) : Met l yX7_kindOf (.code yX7_kindOf cX7_kindOf 2 (some .int) :: wsL_law) ({ frames := 1, cells := 0, slots := 0, locals := 21 } : Room) (va_Pc [.ref h0, .int (nI w0)] (pInE E D (pT cB cI cZ) sz [(h0, .inr (7, [.ref tl, .ref wa1, .ref wa2, .ref wa3, .ref wa4, .int (nI c), .int sc])), (wa4, .inl (cI, 300, .inl fw4))])) (va_Qi (fun (r : Int32) (u : Unit) => (fw4 w0) = r) (fun (u : Unit) (t : State) => pAt D (pT cB cI cZ) (va_A [(h0, .inr (7, [.ref tl, .ref wa1, .ref wa2, .ref wa3, .ref wa4, .int (nI c), .int sc])), (wa4, .inl (cI, 300, .inl fw4))] sz) [(h0, .inr (7, [.ref tl, .ref wa1, .ref wa2, .ref wa3, .ref wa4, .int (nI c), .int sc])), (wa4, .inl (cI, 300, .inl fw4))] t) (va_A [(h0, .inr (7, [.ref tl, .ref wa1, .ref wa2, .ref wa3, .ref wa4, .int (nI c), .int sc])), (wa4, .inl (cI, 300, .inl fw4))] sz)) 0 0 (va_A [(h0, .inr (7, [.ref tl, .ref wa1, .ref wa2, .ref wa3, .ref wa4, .int (nI c), .int sc])), (wa4, .inl (cI, 300, .inl fw4))] sz) := by
  refine Met.ofW (cc := cX7_kindOf) (maxL := 2) (ret := (some .int)) (by decide) rfl ?_
  intro p e s m args below meth cd s₁ B hml hv
  obtain ⟨rfl, hsz, hP, hK, hD0, hE⟩ := hv
  have hx := B.exec
  have hb := B.bytes
  have hr := B.returns
  have hts0 := atoms_spec (ws := .code yX7_kindOf cX7_kindOf 2 (some .int) :: wsL_law) B.pre
  have hts := fun (w : Cond) (h : w ∈ wsL_law) => hts0 w (List.mem_cons_of_mem _ h)
  have hown : s.vm.findClass RX7 = some m.cls := findClass_of_methodNamed B.named
  have hlocks := B.notSynchronized
  have hinX7 := inlX7
  subst hsz
  have hD := hD0.self (sz := s.heap.size)
  generalize hAe : va_A [(h0, .inr (7, [.ref tl, .ref wa1, .ref wa2, .ref wa3, .ref wa4, .int (nI c), .int sc])), (wa4, .inl (cI, 300, .inl fw4))] s.heap.size = A at hD hE ⊢
  have hA : ∀ q : Nat, s.heap.size ≤ q → A q := fun q h => by rw [← hAe]; exact Or.inr h
  have hS : va_S A s.heap s.heap [] := va_S.rf
  have hP : va_P D vwCl [(h0, .inr (7, [.ref tl, .ref wa1, .ref wa2, .ref wa3, .ref wa4, .int (nI c), .int sc])), (wa4, .inl (cI, 300, .inl fw4))] s.heap := hP
  have hl := lv_entry ([.ref h0, .int (nI w0)]) (n := 2) (Nat.le_of_ble_eq_true rfl)
  rw [lg_entry_eq]
  generalize (lg_sl ([.ref h0, .int (nI w0)]) ++ List.replicate (2 - (lg_sl ([.ref h0, .int (nI w0)])).length) Slot.unset).toArray = ls at hl ⊢
  have hl : lv_has ls 2 [(0, .ref h0), (1, .int (nI w0))] := hl
  refine lv_aload_n hx hb dX7_kindOf_0 rfl (lv_at hl 0 rfl) ?_
  refine lv_iload_n hx hb dX7_kindOf_1 rfl (lv_at hl 1 rfl) ?_
  have hPc := hP.sub (ws' := [(h0, .inr (7, [.ref tl, .ref wa1, .ref wa2, .ref wa3, .ref wa4, .int (nI c), .int sc]))]) [0] rfl
  have hDc := hD.sub (ws' := [(h0, .inr (7, [.ref tl, .ref wa1, .ref wa2, .ref wa3, .ref wa4, .int (nI c), .int sc]))]) [0] (by decide) rfl
  have hFc := va_free (wc := [(h0, .inr (7, [.ref tl, .ref wa1, .ref wa2, .ref wa3, .ref wa4, .int (nI c), .int sc]))]) hD hS hA [0] rfl
  refine va_calli (va_runV (As := [.int (nI w0)]) (rest := []) ⟨hx, hb, hml, hown, hts⟩ (s_X7_has l D cB cI cZ E s.heap.size h0 (nI w0) tl wa1 wa2 wa3 wa4 (nI c) sc) (cwV 1 hts (uV (uc11 _ (List.mem_of_getElem? (i := 8) rfl)) (uc11 _ (List.mem_of_getElem? (i := 9) rfl)) (uc11 _ (List.mem_of_getElem? (i := 10) rfl)) (uc1 _ (List.mem_of_getElem? (i := 18) rfl)) (uc11 _ (List.mem_of_getElem? (i := 11) rfl))) rfl rfl rfl (by decide +kernel) ⟨Nat.le_of_ble_eq_true rfl, Nat.le_of_ble_eq_true rfl⟩) (pVE hE hS hFc hK hPc hDc 0 rfl rfl) rfl rfl hl.1 rfl (lv_room (Nat.le_of_ble_eq_true rfl)) dX7_kindOf_2 ⟨Nat.le_of_ble_eq_true rfl, Nat.le_of_ble_eq_true rfl⟩) hS (fun q _ h => hFc q h) hFc (fun r_1 u t H_2 L_3 ht hvm hw hB hz1 hk1 hS => ?_)
  obtain ⟨hP1, -, hD1⟩ := hB
  rw [ht] at hP1
  obtain ⟨hP, hD⟩ := va_join (wr := [(wa4, .inl (cI, 300, .inl fw4))]) (w1 := [(h0, .inr (7, [.ref tl, .ref wa1, .ref wa2, .ref wa3, .ref wa4, .int (nI c), .int sc]))]) hP hD [0] [1] rfl rfl (by decide) (by decide) hk1 hFc hP1 hD1
  have hP : va_P D vwCl [(h0, .inr (7, [.ref tl, .ref wa1, .ref wa2, .ref wa3, .ref wa4, .int (nI c), .int sc])), (wa4, .inl (cI, 300, .inl fw4))] H_2 := hP.sub [1, 0] rfl
  have hD : va_D A [(h0, .inr (7, [.ref tl, .ref wa1, .ref wa2, .ref wa3, .ref wa4, .int (nI c), .int sc])), (wa4, .inl (cI, 300, .inl fw4))] := hD.sub [1, 0] (by decide) rfl
  try dsimp only at hw
  rcases hw with ⟨rfl, h_4⟩ | ⟨rfl, h_5, h_6⟩
  · exact False.elim (by exact h_4.elim (nI_pos (by omega)) (fun q => absurd ((nI_leI (by omega) (by omega)).mp q) (by omega)))
  · refine lv_if_eq (tgt := 17) hx hb dX7_kindOf_5 (by decide) (fun c_7 => ?_) (fun c_7 => ?_)
    · exact False.elim (by revert c_7; decide)
    · refine lv_aload_n hx hb dX7_kindOf_8 rfl (lv_at hl 0 rfl) ?_
      refine va_get (D := D) (ci := 7) (v := .ref wa4) (C := RX7) (T := TX7) (N := 7) hx hb hts hinX7 hown hK hP 0 rfl rfl 4 (by decide) (hts (.fieldLink RX7 30 "TaleReader$Words" "kinds" "[I") (uc3 _ (List.mem_of_getElem? (i := 17) rfl))) (fun _ h9 => h9) rfl dX7_kindOf_9 ?_
      refine lv_iload_n hx hb dX7_kindOf_12 rfl (lv_at hl 1 rfl) ?_
      refine va_iald (D := D) hx hb hK hP 1 1 rfl rfl (vp_in_nI (by omega) (by omega)) dX7_kindOf_13 ?_
      refine lv_topi (fun z_8 ez_8 => ?_)
      obtain rfl : z_8 = fw4 w0 := ez_8.trans (congrArg fw4 (nI_clamp (by omega)))
      refine lv_goto (tgt := 18) hx hb dX7_kindOf_14 (by decide) ?_
      have hP9 := hP.sub (ws' := [(h0, .inr (7, [.ref tl, .ref wa1, .ref wa2, .ref wa3, .ref wa4, .int (nI c), .int sc])), (wa4, .inl (cI, 300, .inl fw4))]) [0, 1] rfl
      have hD9 := hD.sub (ws' := [(h0, .inr (7, [.ref tl, .ref wa1, .ref wa2, .ref wa3, .ref wa4, .int (nI c), .int sc])), (wa4, .inl (cI, 300, .inl fw4))]) [0, 1] (by decide) rfl
      exact W.iret (v := fw4 w0) hx hb hr (fun t ht hW => ⟨⟨fw4 w0, (), rfl, rfl, ⟨by rw [ht]; exact hP9, va_K.moved hW.alike hK, hD9⟩⟩, hS.F ht⟩) hS.2.2 dX7_kindOf_18
set_option maxHeartbeats 4000000 in
set_option maxRecDepth 100000 in
theorem f_X7_isFirst (l : Launch) (D : va_G) (cB cI cZ : ClassId) (E : pEt) (sz : Nat) (h0 : Nat) (w0 : Nat) (tl : Nat) (wa1 : Nat) (wa2 : Nat) (wa3 : Nat) (wa4 : Nat) (c : Nat) (sc : Int32) (fw1 : Nat → Int32) (fw2 : Nat → Int32) (fw3 : Nat → Int32) (ta : Nat) (kt : Nat) (ft : Nat → Int32) (tt : Nat → Nat) (wA : Nat → Nat) (wL : Nat → Nat) (wS : Nat → Nat) (hc : c ≤ 300) (hkt : kt ≤ 600) (hQw : qWg tt kt c fw1 fw2 fw3 wA wL wS) (hw0 : w0 < c) : Met l yX7_isFirst (.code yX7_isFirst cX7_isFirst 2 (some .boolean) :: wsL_law) ({ frames := 2, cells := 0, slots := 0, locals := 42 } : Room) (va_Pc [.ref h0, .int (nI w0)] (pInE E D (pT cB cI cZ) sz [(h0, .inr (7, [.ref tl, .ref wa1, .ref wa2, .ref wa3, .ref wa4, .int (nI c), .int sc])), (wa1, .inl (cI, 300, .inl fw1)), (wa2, .inl (cI, 300, .inl fw2)), (wa3, .inl (cI, 300, .inl fw3)), (tl, .inr (5, [.ref ta, .int (nI kt)])), (ta, .inl (cB, 600, .inl ft))])) (va_Qi (fun (r : Int32) (u : Unit) => ((1 = r) ∧ (qFi wS w0)) ∨ ((0 = r) ∧ (¬ qFi wS w0))) (fun (u : Unit) (t : State) => pAt D (pT cB cI cZ) (va_A [(h0, .inr (7, [.ref tl, .ref wa1, .ref wa2, .ref wa3, .ref wa4, .int (nI c), .int sc])), (wa1, .inl (cI, 300, .inl fw1)), (wa2, .inl (cI, 300, .inl fw2)), (wa3, .inl (cI, 300, .inl fw3)), (tl, .inr (5, [.ref ta, .int (nI kt)])), (ta, .inl (cB, 600, .inl ft))] sz) [(h0, .inr (7, [.ref tl, .ref wa1, .ref wa2, .ref wa3, .ref wa4, .int (nI c), .int sc])), (wa1, .inl (cI, 300, .inl fw1)), (wa2, .inl (cI, 300, .inl fw2)), (wa3, .inl (cI, 300, .inl fw3)), (tl, .inr (5, [.ref ta, .int (nI kt)])), (ta, .inl (cB, 600, .inl ft))] t) (va_A [(h0, .inr (7, [.ref tl, .ref wa1, .ref wa2, .ref wa3, .ref wa4, .int (nI c), .int sc])), (wa1, .inl (cI, 300, .inl fw1)), (wa2, .inl (cI, 300, .inl fw2)), (wa3, .inl (cI, 300, .inl fw3)), (tl, .inr (5, [.ref ta, .int (nI kt)])), (ta, .inl (cB, 600, .inl ft))] sz)) 0 0 (va_A [(h0, .inr (7, [.ref tl, .ref wa1, .ref wa2, .ref wa3, .ref wa4, .int (nI c), .int sc])), (wa1, .inl (cI, 300, .inl fw1)), (wa2, .inl (cI, 300, .inl fw2)), (wa3, .inl (cI, 300, .inl fw3)), (tl, .inr (5, [.ref ta, .int (nI kt)])), (ta, .inl (cB, 600, .inl ft))] sz) := by
  refine Met.ofW (cc := cX7_isFirst) (maxL := 2) (ret := (some .boolean)) (by decide) rfl ?_
  intro p e s m args below meth cd s₁ B hml hv
  obtain ⟨rfl, hsz, hP, hK, hD0, hE⟩ := hv
  have hx := B.exec
  have hb := B.bytes
  have hr := B.returns
  have hts0 := atoms_spec (ws := .code yX7_isFirst cX7_isFirst 2 (some .boolean) :: wsL_law) B.pre
  have hts := fun (w : Cond) (h : w ∈ wsL_law) => hts0 w (List.mem_cons_of_mem _ h)
  have hown : s.vm.findClass RX7 = some m.cls := findClass_of_methodNamed B.named
  have hlocks := B.notSynchronized
  subst hsz
  have hD := hD0.self (sz := s.heap.size)
  generalize hAe : va_A [(h0, .inr (7, [.ref tl, .ref wa1, .ref wa2, .ref wa3, .ref wa4, .int (nI c), .int sc])), (wa1, .inl (cI, 300, .inl fw1)), (wa2, .inl (cI, 300, .inl fw2)), (wa3, .inl (cI, 300, .inl fw3)), (tl, .inr (5, [.ref ta, .int (nI kt)])), (ta, .inl (cB, 600, .inl ft))] s.heap.size = A at hD hE ⊢
  have hA : ∀ q : Nat, s.heap.size ≤ q → A q := fun q h => by rw [← hAe]; exact Or.inr h
  have hS : va_S A s.heap s.heap [] := va_S.rf
  have hP : va_P D vwCl [(h0, .inr (7, [.ref tl, .ref wa1, .ref wa2, .ref wa3, .ref wa4, .int (nI c), .int sc])), (wa1, .inl (cI, 300, .inl fw1)), (wa2, .inl (cI, 300, .inl fw2)), (wa3, .inl (cI, 300, .inl fw3)), (tl, .inr (5, [.ref ta, .int (nI kt)])), (ta, .inl (cB, 600, .inl ft))] s.heap := hP
  have hl := lv_entry ([.ref h0, .int (nI w0)]) (n := 2) (Nat.le_of_ble_eq_true rfl)
  rw [lg_entry_eq]
  generalize (lg_sl ([.ref h0, .int (nI w0)]) ++ List.replicate (2 - (lg_sl ([.ref h0, .int (nI w0)])).length) Slot.unset).toArray = ls at hl ⊢
  have hl : lv_has ls 2 [(0, .ref h0), (1, .int (nI w0))] := hl
  have hs1 := (hQw w0 hw0).2.2.2.2.2.1
  refine lv_iload_n hx hb dX7_isFirst_0 rfl (lv_at hl 1 rfl) ?_
  refine lv_if_eq (tgt := 19) hx hb dX7_isFirst_1 (by decide) (fun c_1 => ?_) (fun c_1 => ?_)
  · have hz : w0 = 0 := (nI_eq (b := 0) (by omega) (by decide)).mp c_1
    refine lv_iconst (v := 1) hx hb dX7_isFirst_19 (by decide) ?_
    refine lv_goto (tgt := 24) hx hb dX7_isFirst_20 (by decide) ?_
    have hP9 := hP.sub (ws' := [(h0, .inr (7, [.ref tl, .ref wa1, .ref wa2, .ref wa3, .ref wa4, .int (nI c), .int sc])), (wa1, .inl (cI, 300, .inl fw1)), (wa2, .inl (cI, 300, .inl fw2)), (wa3, .inl (cI, 300, .inl fw3)), (tl, .inr (5, [.ref ta, .int (nI kt)])), (ta, .inl (cB, 600, .inl ft))]) [0, 1, 2, 3, 4, 5] rfl
    have hD9 := hD.sub (ws' := [(h0, .inr (7, [.ref tl, .ref wa1, .ref wa2, .ref wa3, .ref wa4, .int (nI c), .int sc])), (wa1, .inl (cI, 300, .inl fw1)), (wa2, .inl (cI, 300, .inl fw2)), (wa3, .inl (cI, 300, .inl fw3)), (tl, .inr (5, [.ref ta, .int (nI kt)])), (ta, .inl (cB, 600, .inl ft))]) [0, 1, 2, 3, 4, 5] (by decide) rfl
    exact W.zret (v := 1) hx hb hr (rfl) (fun t ht hW => ⟨⟨1, (), rfl, Or.inl (⟨rfl, by first | exact Or.inl hz | exact Or.inr hne⟩), ⟨by rw [ht]; exact hP9, va_K.moved hW.alike hK, hD9⟩⟩, hS.F ht⟩) hS.2.2 dX7_isFirst_24
  · have hz : ¬ w0 = 0 := fun q => c_1 (by rw [q]; rfl)
    have hs2 := (hQw (w0 - 1) (by omega)).2.2.2.2.2.1
    refine lv_aload_n hx hb dX7_isFirst_4 rfl (lv_at hl 0 rfl) ?_
    refine lv_iload_n hx hb dX7_isFirst_5 rfl (lv_at hl 1 rfl) ?_
    refine lv_iconst (v := 1) hx hb dX7_isFirst_6 (by decide) ?_
    refine lv_isub hx hb dX7_isFirst_7 ?_
    refine lv_topi (fun z_2 ez_2 => ?_)
    obtain rfl : z_2 = nI (w0 - 1) := ez_2.trans (pk_sub (b := 1) (by omega))
    have hPc := hP.sub (ws' := [(h0, .inr (7, [.ref tl, .ref wa1, .ref wa2, .ref wa3, .ref wa4, .int (nI c), .int sc])), (wa1, .inl (cI, 300, .inl fw1)), (wa2, .inl (cI, 300, .inl fw2)), (wa3, .inl (cI, 300, .inl fw3)), (tl, .inr (5, [.ref ta, .int (nI kt)])), (ta, .inl (cB, 600, .inl ft))]) [0, 1, 2, 3, 4, 5] rfl
    have hDc := hD.sub (ws' := [(h0, .inr (7, [.ref tl, .ref wa1, .ref wa2, .ref wa3, .ref wa4, .int (nI c), .int sc])), (wa1, .inl (cI, 300, .inl fw1)), (wa2, .inl (cI, 300, .inl fw2)), (wa3, .inl (cI, 300, .inl fw3)), (tl, .inr (5, [.ref ta, .int (nI kt)])), (ta, .inl (cB, 600, .inl ft))]) [0, 1, 2, 3, 4, 5] (by decide) rfl
    have hFc := va_free (wc := [(h0, .inr (7, [.ref tl, .ref wa1, .ref wa2, .ref wa3, .ref wa4, .int (nI c), .int sc])), (wa1, .inl (cI, 300, .inl fw1)), (wa2, .inl (cI, 300, .inl fw2)), (wa3, .inl (cI, 300, .inl fw3)), (tl, .inr (5, [.ref ta, .int (nI kt)])), (ta, .inl (cB, 600, .inl ft))]) hD hS hA [0, 1, 2, 3, 4, 5] rfl
    refine va_calli (va_runV (As := [.int (nI (w0 - 1))]) (rest := []) ⟨hx, hb, hml, hown, hts⟩ (f_X7_sentenceOf l D cB cI cZ E s.heap.size h0 (w0 - 1) tl wa1 wa2 wa3 wa4 c sc fw1 fw2 fw3 ta kt ft tt wA wL wS (by first | assumption | omega) (by first | assumption | omega) (by first | assumption | omega) (by first | assumption | omega)) (cwV 1 hts (uV (uc14 _ (List.mem_of_getElem? (i := 9) rfl)) (uc14 _ (List.mem_of_getElem? (i := 10) rfl)) (uc14 _ (List.mem_of_getElem? (i := 11) rfl)) (uc1 _ (List.mem_of_getElem? (i := 18) rfl)) (uc14 _ (List.mem_of_getElem? (i := 12) rfl))) rfl rfl rfl (by decide +kernel) ⟨Nat.le_of_ble_eq_true rfl, Nat.le_of_ble_eq_true rfl⟩) (pVE hE hS hFc hK hPc hDc 0 rfl rfl) rfl rfl hl.1 rfl (lv_room (Nat.le_of_ble_eq_true rfl)) dX7_isFirst_8 ⟨Nat.le_of_ble_eq_true rfl, Nat.le_of_ble_eq_true rfl⟩) hS (fun q _ h => hFc q h) hFc (fun r_3 u t H_4 L_5 ht hvm hw hB hz1 hk1 hS => ?_)
    obtain ⟨hP1, -, hD1⟩ := hB
    rw [ht] at hP1
    obtain ⟨hP, hD⟩ := va_join (wr := []) (w1 := [(h0, .inr (7, [.ref tl, .ref wa1, .ref wa2, .ref wa3, .ref wa4, .int (nI c), .int sc])), (wa1, .inl (cI, 300, .inl fw1)), (wa2, .inl (cI, 300, .inl fw2)), (wa3, .inl (cI, 300, .inl fw3)), (tl, .inr (5, [.ref ta, .int (nI kt)])), (ta, .inl (cB, 600, .inl ft))]) hP hD [0, 1, 2, 3, 4, 5] [] rfl rfl (by decide) (by decide) hk1 hFc hP1 hD1
    have hP : va_P D vwCl [(h0, .inr (7, [.ref tl, .ref wa1, .ref wa2, .ref wa3, .ref wa4, .int (nI c), .int sc])), (wa1, .inl (cI, 300, .inl fw1)), (wa2, .inl (cI, 300, .inl fw2)), (wa3, .inl (cI, 300, .inl fw3)), (tl, .inr (5, [.ref ta, .int (nI kt)])), (ta, .inl (cB, 600, .inl ft))] H_4 := hP.sub [0, 1, 2, 3, 4, 5] rfl
    have hD : va_D A [(h0, .inr (7, [.ref tl, .ref wa1, .ref wa2, .ref wa3, .ref wa4, .int (nI c), .int sc])), (wa1, .inl (cI, 300, .inl fw1)), (wa2, .inl (cI, 300, .inl fw2)), (wa3, .inl (cI, 300, .inl fw3)), (tl, .inr (5, [.ref ta, .int (nI kt)])), (ta, .inl (cB, 600, .inl ft))] := hD.sub [0, 1, 2, 3, 4, 5] (by decide) rfl
    try dsimp only at hw
    subst hw
    refine lv_aload_n hx hb dX7_isFirst_11 rfl (lv_at hl 0 rfl) ?_
    refine lv_iload_n hx hb dX7_isFirst_12 rfl (lv_at hl 1 rfl) ?_
    have hPc := hP.sub (ws' := [(h0, .inr (7, [.ref tl, .ref wa1, .ref wa2, .ref wa3, .ref wa4, .int (nI c), .int sc])), (wa1, .inl (cI, 300, .inl fw1)), (wa2, .inl (cI, 300, .inl fw2)), (wa3, .inl (cI, 300, .inl fw3)), (tl, .inr (5, [.ref ta, .int (nI kt)])), (ta, .inl (cB, 600, .inl ft))]) [0, 1, 2, 3, 4, 5] rfl
    have hDc := hD.sub (ws' := [(h0, .inr (7, [.ref tl, .ref wa1, .ref wa2, .ref wa3, .ref wa4, .int (nI c), .int sc])), (wa1, .inl (cI, 300, .inl fw1)), (wa2, .inl (cI, 300, .inl fw2)), (wa3, .inl (cI, 300, .inl fw3)), (tl, .inr (5, [.ref ta, .int (nI kt)])), (ta, .inl (cB, 600, .inl ft))]) [0, 1, 2, 3, 4, 5] (by decide) rfl
    have hFc := va_free (wc := [(h0, .inr (7, [.ref tl, .ref wa1, .ref wa2, .ref wa3, .ref wa4, .int (nI c), .int sc])), (wa1, .inl (cI, 300, .inl fw1)), (wa2, .inl (cI, 300, .inl fw2)), (wa3, .inl (cI, 300, .inl fw3)), (tl, .inr (5, [.ref ta, .int (nI kt)])), (ta, .inl (cB, 600, .inl ft))]) hD hS hA [0, 1, 2, 3, 4, 5] rfl
    refine va_calli (va_runV (As := [.int (nI w0)]) (rest := [.int (nI (wS (w0 - 1)))]) ⟨hx, hb, hml, hown, hts⟩ (f_X7_sentenceOf l D cB cI cZ E H_4.size h0 w0 tl wa1 wa2 wa3 wa4 c sc fw1 fw2 fw3 ta kt ft tt wA wL wS (by first | assumption | omega) (by first | assumption | omega) (by first | assumption | omega) (by first | assumption | omega)) (cwV 1 hts (uV (uc14 _ (List.mem_of_getElem? (i := 9) rfl)) (uc14 _ (List.mem_of_getElem? (i := 10) rfl)) (uc14 _ (List.mem_of_getElem? (i := 11) rfl)) (uc1 _ (List.mem_of_getElem? (i := 18) rfl)) (uc14 _ (List.mem_of_getElem? (i := 12) rfl))) rfl rfl rfl (by decide +kernel) ⟨Nat.le_of_ble_eq_true rfl, Nat.le_of_ble_eq_true rfl⟩) (pVE hE hS hFc hK hPc hDc 0 rfl rfl) rfl rfl hl.1 rfl (lv_room (Nat.le_of_ble_eq_true rfl)) dX7_isFirst_13 ⟨Nat.le_of_ble_eq_true rfl, Nat.le_of_ble_eq_true rfl⟩) hS (fun q _ h => hFc q h) hFc (fun r_6 u t H_7 L_8 ht hvm hw hB hz1 hk1 hS => ?_)
    obtain ⟨hP1, -, hD1⟩ := hB
    rw [ht] at hP1
    obtain ⟨hP, hD⟩ := va_join (wr := []) (w1 := [(h0, .inr (7, [.ref tl, .ref wa1, .ref wa2, .ref wa3, .ref wa4, .int (nI c), .int sc])), (wa1, .inl (cI, 300, .inl fw1)), (wa2, .inl (cI, 300, .inl fw2)), (wa3, .inl (cI, 300, .inl fw3)), (tl, .inr (5, [.ref ta, .int (nI kt)])), (ta, .inl (cB, 600, .inl ft))]) hP hD [0, 1, 2, 3, 4, 5] [] rfl rfl (by decide) (by decide) hk1 hFc hP1 hD1
    have hP : va_P D vwCl [(h0, .inr (7, [.ref tl, .ref wa1, .ref wa2, .ref wa3, .ref wa4, .int (nI c), .int sc])), (wa1, .inl (cI, 300, .inl fw1)), (wa2, .inl (cI, 300, .inl fw2)), (wa3, .inl (cI, 300, .inl fw3)), (tl, .inr (5, [.ref ta, .int (nI kt)])), (ta, .inl (cB, 600, .inl ft))] H_7 := hP.sub [0, 1, 2, 3, 4, 5] rfl
    have hD : va_D A [(h0, .inr (7, [.ref tl, .ref wa1, .ref wa2, .ref wa3, .ref wa4, .int (nI c), .int sc])), (wa1, .inl (cI, 300, .inl fw1)), (wa2, .inl (cI, 300, .inl fw2)), (wa3, .inl (cI, 300, .inl fw3)), (tl, .inr (5, [.ref ta, .int (nI kt)])), (ta, .inl (cB, 600, .inl ft))] := hD.sub [0, 1, 2, 3, 4, 5] (by decide) rfl
    try dsimp only at hw
    subst hw
    refine lv_icmp_eq (tgt := 23) hx hb dX7_isFirst_16 (by decide) (fun c_9 => ?_) (fun c_9 => ?_)
    · have he : wS (w0 - 1) = wS w0 := (nI_eq (by omega) (by omega)).mp c_9
      refine lv_iconst (v := 0) hx hb dX7_isFirst_23 (by decide) ?_
      have hP9 := hP.sub (ws' := [(h0, .inr (7, [.ref tl, .ref wa1, .ref wa2, .ref wa3, .ref wa4, .int (nI c), .int sc])), (wa1, .inl (cI, 300, .inl fw1)), (wa2, .inl (cI, 300, .inl fw2)), (wa3, .inl (cI, 300, .inl fw3)), (tl, .inr (5, [.ref ta, .int (nI kt)])), (ta, .inl (cB, 600, .inl ft))]) [0, 1, 2, 3, 4, 5] rfl
      have hD9 := hD.sub (ws' := [(h0, .inr (7, [.ref tl, .ref wa1, .ref wa2, .ref wa3, .ref wa4, .int (nI c), .int sc])), (wa1, .inl (cI, 300, .inl fw1)), (wa2, .inl (cI, 300, .inl fw2)), (wa3, .inl (cI, 300, .inl fw3)), (tl, .inr (5, [.ref ta, .int (nI kt)])), (ta, .inl (cB, 600, .inl ft))]) [0, 1, 2, 3, 4, 5] (by decide) rfl
      exact W.zret (v := 0) hx hb hr (rfl) (fun t ht hW => ⟨⟨0, (), rfl, Or.inr ((⟨rfl, fun q => q.elim hz (fun z => z he)⟩)), ⟨by rw [ht]; exact hP9, va_K.moved hW.alike hK, hD9⟩⟩, hS.F ht⟩) hS.2.2 dX7_isFirst_24
    · have hne : ¬ wS (w0 - 1) = wS w0 := fun q => c_9 (by rw [q])
      refine lv_iconst (v := 1) hx hb dX7_isFirst_19 (by decide) ?_
      refine lv_goto (tgt := 24) hx hb dX7_isFirst_20 (by decide) ?_
      have hP9 := hP.sub (ws' := [(h0, .inr (7, [.ref tl, .ref wa1, .ref wa2, .ref wa3, .ref wa4, .int (nI c), .int sc])), (wa1, .inl (cI, 300, .inl fw1)), (wa2, .inl (cI, 300, .inl fw2)), (wa3, .inl (cI, 300, .inl fw3)), (tl, .inr (5, [.ref ta, .int (nI kt)])), (ta, .inl (cB, 600, .inl ft))]) [0, 1, 2, 3, 4, 5] rfl
      have hD9 := hD.sub (ws' := [(h0, .inr (7, [.ref tl, .ref wa1, .ref wa2, .ref wa3, .ref wa4, .int (nI c), .int sc])), (wa1, .inl (cI, 300, .inl fw1)), (wa2, .inl (cI, 300, .inl fw2)), (wa3, .inl (cI, 300, .inl fw3)), (tl, .inr (5, [.ref ta, .int (nI kt)])), (ta, .inl (cB, 600, .inl ft))]) [0, 1, 2, 3, 4, 5] (by decide) rfl
      exact W.zret (v := 1) hx hb hr (rfl) (fun t ht hW => ⟨⟨1, (), rfl, Or.inl (⟨rfl, by first | exact Or.inl hz | exact Or.inr hne⟩), ⟨by rw [ht]; exact hP9, va_K.moved hW.alike hK, hD9⟩⟩, hS.F ht⟩) hS.2.2 dX7_isFirst_24
set_option maxHeartbeats 4000000 in
set_option maxRecDepth 100000 in
theorem f_X7_kindBySpelling (l : Launch) (D : va_G) (cB cI cZ : ClassId) (E : pEt) (sz : Nat) (h0 : Nat) (w0 : Nat) (tl : Nat) (wa1 : Nat) (wa2 : Nat) (wa3 : Nat) (wa4 : Nat) (c : Nat) (sc : Int32) (fw1 : Nat → Int32) (fw2 : Nat → Int32) (fw3 : Nat → Int32) (ta : Nat) (kt : Nat) (ft : Nat → Int32) (tt : Nat → Nat) (wA : Nat → Nat) (wL : Nat → Nat) (wS : Nat → Nat) (hc : c ≤ 300) (hkt : kt ≤ 600) (hQw : qWg tt kt c fw1 fw2 fw3 wA wL wS) (hw0 : w0 < c) (hTx : qT kt ft tt) : Met l yX7_kindBySpelling (.code yX7_kindBySpelling cX7_kindBySpelling 6 (some .int) :: wsL_law) ({ frames := 7, cells := 0, slots := 0, locals := 158 } : Room) (va_Pc [.ref h0, .int (nI w0)] (pInE E D (pT cB cI cZ) sz [(h0, .inr (7, [.ref tl, .ref wa1, .ref wa2, .ref wa3, .ref wa4, .int (nI c), .int sc])), (wa1, .inl (cI, 300, .inl fw1)), (wa2, .inl (cI, 300, .inl fw2)), (wa3, .inl (cI, 300, .inl fw3)), (tl, .inr (5, [.ref ta, .int (nI kt)])), (ta, .inl (cB, 600, .inl ft))])) (va_Qi (fun (r : Int32) (u : Unit) => qK1 tt wA wL wS w0 r) (fun (u : Unit) (t : State) => pAt D (pT cB cI cZ) (va_A [(h0, .inr (7, [.ref tl, .ref wa1, .ref wa2, .ref wa3, .ref wa4, .int (nI c), .int sc])), (wa1, .inl (cI, 300, .inl fw1)), (wa2, .inl (cI, 300, .inl fw2)), (wa3, .inl (cI, 300, .inl fw3)), (tl, .inr (5, [.ref ta, .int (nI kt)])), (ta, .inl (cB, 600, .inl ft))] sz) [(h0, .inr (7, [.ref tl, .ref wa1, .ref wa2, .ref wa3, .ref wa4, .int (nI c), .int sc])), (wa1, .inl (cI, 300, .inl fw1)), (wa2, .inl (cI, 300, .inl fw2)), (wa3, .inl (cI, 300, .inl fw3)), (tl, .inr (5, [.ref ta, .int (nI kt)])), (ta, .inl (cB, 600, .inl ft))] t) (va_A [(h0, .inr (7, [.ref tl, .ref wa1, .ref wa2, .ref wa3, .ref wa4, .int (nI c), .int sc])), (wa1, .inl (cI, 300, .inl fw1)), (wa2, .inl (cI, 300, .inl fw2)), (wa3, .inl (cI, 300, .inl fw3)), (tl, .inr (5, [.ref ta, .int (nI kt)])), (ta, .inl (cB, 600, .inl ft))] sz)) 0 0 (va_A [(h0, .inr (7, [.ref tl, .ref wa1, .ref wa2, .ref wa3, .ref wa4, .int (nI c), .int sc])), (wa1, .inl (cI, 300, .inl fw1)), (wa2, .inl (cI, 300, .inl fw2)), (wa3, .inl (cI, 300, .inl fw3)), (tl, .inr (5, [.ref ta, .int (nI kt)])), (ta, .inl (cB, 600, .inl ft))] sz) := by
  refine Met.ofW (cc := cX7_kindBySpelling) (maxL := 6) (ret := (some .int)) (by decide) rfl ?_
  intro p e s m args below meth cd s₁ B hml hv
  obtain ⟨rfl, hsz, hP, hK, hD0, hE⟩ := hv
  have hx := B.exec
  have hb := B.bytes
  have hr := B.returns
  have hts0 := atoms_spec (ws := .code yX7_kindBySpelling cX7_kindBySpelling 6 (some .int) :: wsL_law) B.pre
  have hts := fun (w : Cond) (h : w ∈ wsL_law) => hts0 w (List.mem_cons_of_mem _ h)
  have hown : s.vm.findClass RX7 = some m.cls := findClass_of_methodNamed B.named
  have hlocks := B.notSynchronized
  have hinX7 := inlX7
  subst hsz
  have hD := hD0.self (sz := s.heap.size)
  generalize hAe : va_A [(h0, .inr (7, [.ref tl, .ref wa1, .ref wa2, .ref wa3, .ref wa4, .int (nI c), .int sc])), (wa1, .inl (cI, 300, .inl fw1)), (wa2, .inl (cI, 300, .inl fw2)), (wa3, .inl (cI, 300, .inl fw3)), (tl, .inr (5, [.ref ta, .int (nI kt)])), (ta, .inl (cB, 600, .inl ft))] s.heap.size = A at hD hE ⊢
  have hA : ∀ q : Nat, s.heap.size ≤ q → A q := fun q h => by rw [← hAe]; exact Or.inr h
  have hS : va_S A s.heap s.heap [] := va_S.rf
  have hP : va_P D vwCl [(h0, .inr (7, [.ref tl, .ref wa1, .ref wa2, .ref wa3, .ref wa4, .int (nI c), .int sc])), (wa1, .inl (cI, 300, .inl fw1)), (wa2, .inl (cI, 300, .inl fw2)), (wa3, .inl (cI, 300, .inl fw3)), (tl, .inr (5, [.ref ta, .int (nI kt)])), (ta, .inl (cB, 600, .inl ft))] s.heap := hP
  have hl := lv_entry ([.ref h0, .int (nI w0)]) (n := 6) (Nat.le_of_ble_eq_true rfl)
  rw [lg_entry_eq]
  generalize (lg_sl ([.ref h0, .int (nI w0)]) ++ List.replicate (6 - (lg_sl ([.ref h0, .int (nI w0)])).length) Slot.unset).toArray = ls at hl ⊢
  have hl : lv_has ls 6 [(0, .ref h0), (1, .int (nI w0))] := hl
  have hq := hQw w0 hw0
  have hXY := hq.2.2.2.1
  have hL1 := hq.2.2.2.2.1
  have hXk : wA w0 < kt := by omega
  refine lv_aload_n hx hb dX7_kindBySpelling_0 rfl (lv_at hl 0 rfl) ?_
  refine lv_iload_n hx hb dX7_kindBySpelling_1 rfl (lv_at hl 1 rfl) ?_
  have hPc := hP.sub (ws' := [(h0, .inr (7, [.ref tl, .ref wa1, .ref wa2, .ref wa3, .ref wa4, .int (nI c), .int sc])), (wa1, .inl (cI, 300, .inl fw1)), (wa2, .inl (cI, 300, .inl fw2)), (wa3, .inl (cI, 300, .inl fw3)), (tl, .inr (5, [.ref ta, .int (nI kt)])), (ta, .inl (cB, 600, .inl ft))]) [0, 1, 2, 3, 4, 5] rfl
  have hDc := hD.sub (ws' := [(h0, .inr (7, [.ref tl, .ref wa1, .ref wa2, .ref wa3, .ref wa4, .int (nI c), .int sc])), (wa1, .inl (cI, 300, .inl fw1)), (wa2, .inl (cI, 300, .inl fw2)), (wa3, .inl (cI, 300, .inl fw3)), (tl, .inr (5, [.ref ta, .int (nI kt)])), (ta, .inl (cB, 600, .inl ft))]) [0, 1, 2, 3, 4, 5] (by decide) rfl
  have hFc := va_free (wc := [(h0, .inr (7, [.ref tl, .ref wa1, .ref wa2, .ref wa3, .ref wa4, .int (nI c), .int sc])), (wa1, .inl (cI, 300, .inl fw1)), (wa2, .inl (cI, 300, .inl fw2)), (wa3, .inl (cI, 300, .inl fw3)), (tl, .inr (5, [.ref ta, .int (nI kt)])), (ta, .inl (cB, 600, .inl ft))]) hD hS hA [0, 1, 2, 3, 4, 5] rfl
  refine va_calli (va_runV (As := [.int (nI w0)]) (rest := []) ⟨hx, hb, hml, hown, hts⟩ (f_X7_placeOf l D cB cI cZ E s.heap.size h0 w0 tl wa1 wa2 wa3 wa4 c sc fw1 fw2 fw3 ta kt ft tt wA wL wS (by first | assumption | omega) (by first | assumption | omega) (by first | assumption | omega) (by first | assumption | omega)) (cwV 1 hts (uV (uc11 _ (List.mem_of_getElem? (i := 4) rfl)) (uc11 _ (List.mem_of_getElem? (i := 5) rfl)) (uc11 _ (List.mem_of_getElem? (i := 6) rfl)) (uc1 _ (List.mem_of_getElem? (i := 18) rfl)) (uc11 _ (List.mem_of_getElem? (i := 7) rfl))) rfl rfl rfl (by decide +kernel) ⟨Nat.le_of_ble_eq_true rfl, Nat.le_of_ble_eq_true rfl⟩) (pVE hE hS hFc hK hPc hDc 0 rfl rfl) rfl rfl hl.1 rfl (lv_room (Nat.le_of_ble_eq_true rfl)) dX7_kindBySpelling_2 ⟨Nat.le_of_ble_eq_true rfl, Nat.le_of_ble_eq_true rfl⟩) hS (fun q _ h => hFc q h) hFc (fun r_1 u t H_2 L_3 ht hvm hw hB hz1 hk1 hS => ?_)
  obtain ⟨hP1, -, hD1⟩ := hB
  rw [ht] at hP1
  obtain ⟨hP, hD⟩ := va_join (wr := []) (w1 := [(h0, .inr (7, [.ref tl, .ref wa1, .ref wa2, .ref wa3, .ref wa4, .int (nI c), .int sc])), (wa1, .inl (cI, 300, .inl fw1)), (wa2, .inl (cI, 300, .inl fw2)), (wa3, .inl (cI, 300, .inl fw3)), (tl, .inr (5, [.ref ta, .int (nI kt)])), (ta, .inl (cB, 600, .inl ft))]) hP hD [0, 1, 2, 3, 4, 5] [] rfl rfl (by decide) (by decide) hk1 hFc hP1 hD1
  have hP : va_P D vwCl [(h0, .inr (7, [.ref tl, .ref wa1, .ref wa2, .ref wa3, .ref wa4, .int (nI c), .int sc])), (wa1, .inl (cI, 300, .inl fw1)), (wa2, .inl (cI, 300, .inl fw2)), (wa3, .inl (cI, 300, .inl fw3)), (tl, .inr (5, [.ref ta, .int (nI kt)])), (ta, .inl (cB, 600, .inl ft))] H_2 := hP.sub [0, 1, 2, 3, 4, 5] rfl
  have hD : va_D A [(h0, .inr (7, [.ref tl, .ref wa1, .ref wa2, .ref wa3, .ref wa4, .int (nI c), .int sc])), (wa1, .inl (cI, 300, .inl fw1)), (wa2, .inl (cI, 300, .inl fw2)), (wa3, .inl (cI, 300, .inl fw3)), (tl, .inr (5, [.ref ta, .int (nI kt)])), (ta, .inl (cB, 600, .inl ft))] := hD.sub [0, 1, 2, 3, 4, 5] (by decide) rfl
  try dsimp only at hw
  subst hw
  refine lv_istore_n (lv' := [(2, .int (nI (wA w0))), (0, .ref h0), (1, .int (nI w0))]) hx hb dX7_kindBySpelling_5 rfl hl (by decide) rfl (fun ls hl => ?_)
  refine lv_aload_n hx hb dX7_kindBySpelling_6 rfl (lv_at hl 1 rfl) ?_
  refine lv_iload_n hx hb dX7_kindBySpelling_7 rfl (lv_at hl 2 rfl) ?_
  have hPc := hP.sub (ws' := [(h0, .inr (7, [.ref tl, .ref wa1, .ref wa2, .ref wa3, .ref wa4, .int (nI c), .int sc])), (wa1, .inl (cI, 300, .inl fw1)), (wa2, .inl (cI, 300, .inl fw2)), (wa3, .inl (cI, 300, .inl fw3)), (tl, .inr (5, [.ref ta, .int (nI kt)])), (ta, .inl (cB, 600, .inl ft))]) [0, 1, 2, 3, 4, 5] rfl
  have hDc := hD.sub (ws' := [(h0, .inr (7, [.ref tl, .ref wa1, .ref wa2, .ref wa3, .ref wa4, .int (nI c), .int sc])), (wa1, .inl (cI, 300, .inl fw1)), (wa2, .inl (cI, 300, .inl fw2)), (wa3, .inl (cI, 300, .inl fw3)), (tl, .inr (5, [.ref ta, .int (nI kt)])), (ta, .inl (cB, 600, .inl ft))]) [0, 1, 2, 3, 4, 5] (by decide) rfl
  have hFc := va_free (wc := [(h0, .inr (7, [.ref tl, .ref wa1, .ref wa2, .ref wa3, .ref wa4, .int (nI c), .int sc])), (wa1, .inl (cI, 300, .inl fw1)), (wa2, .inl (cI, 300, .inl fw2)), (wa3, .inl (cI, 300, .inl fw3)), (tl, .inr (5, [.ref ta, .int (nI kt)])), (ta, .inl (cB, 600, .inl ft))]) hD hS hA [0, 1, 2, 3, 4, 5] rfl
  refine va_calli (va_runV (As := [.int (nI w0)]) (rest := []) ⟨hx, hb, hml, hown, hts⟩ (f_X7_lengthOf l D cB cI cZ E H_2.size h0 w0 tl wa1 wa2 wa3 wa4 c sc fw1 fw2 fw3 ta kt ft tt wA wL wS (by first | assumption | omega) (by first | assumption | omega) (by first | assumption | omega) (by first | assumption | omega)) (cwV 1 hts (uV (uc11 _ (List.mem_of_getElem? (i := 12) rfl)) (uc11 _ (List.mem_of_getElem? (i := 13) rfl)) (uc11 _ (List.mem_of_getElem? (i := 14) rfl)) (uc1 _ (List.mem_of_getElem? (i := 18) rfl)) (uc11 _ (List.mem_of_getElem? (i := 15) rfl))) rfl rfl rfl (by decide +kernel) ⟨Nat.le_of_ble_eq_true rfl, Nat.le_of_ble_eq_true rfl⟩) (pVE hE hS hFc hK hPc hDc 0 rfl rfl) rfl rfl hl.1 rfl (lv_room (Nat.le_of_ble_eq_true rfl)) dX7_kindBySpelling_8 ⟨Nat.le_of_ble_eq_true rfl, Nat.le_of_ble_eq_true rfl⟩) hS (fun q _ h => hFc q h) hFc (fun r_4 u t H_5 L_6 ht hvm hw hB hz1 hk1 hS => ?_)
  obtain ⟨hP1, -, hD1⟩ := hB
  rw [ht] at hP1
  obtain ⟨hP, hD⟩ := va_join (wr := []) (w1 := [(h0, .inr (7, [.ref tl, .ref wa1, .ref wa2, .ref wa3, .ref wa4, .int (nI c), .int sc])), (wa1, .inl (cI, 300, .inl fw1)), (wa2, .inl (cI, 300, .inl fw2)), (wa3, .inl (cI, 300, .inl fw3)), (tl, .inr (5, [.ref ta, .int (nI kt)])), (ta, .inl (cB, 600, .inl ft))]) hP hD [0, 1, 2, 3, 4, 5] [] rfl rfl (by decide) (by decide) hk1 hFc hP1 hD1
  have hP : va_P D vwCl [(h0, .inr (7, [.ref tl, .ref wa1, .ref wa2, .ref wa3, .ref wa4, .int (nI c), .int sc])), (wa1, .inl (cI, 300, .inl fw1)), (wa2, .inl (cI, 300, .inl fw2)), (wa3, .inl (cI, 300, .inl fw3)), (tl, .inr (5, [.ref ta, .int (nI kt)])), (ta, .inl (cB, 600, .inl ft))] H_5 := hP.sub [0, 1, 2, 3, 4, 5] rfl
  have hD : va_D A [(h0, .inr (7, [.ref tl, .ref wa1, .ref wa2, .ref wa3, .ref wa4, .int (nI c), .int sc])), (wa1, .inl (cI, 300, .inl fw1)), (wa2, .inl (cI, 300, .inl fw2)), (wa3, .inl (cI, 300, .inl fw3)), (tl, .inr (5, [.ref ta, .int (nI kt)])), (ta, .inl (cB, 600, .inl ft))] := hD.sub [0, 1, 2, 3, 4, 5] (by decide) rfl
  try dsimp only at hw
  subst hw
  refine lv_istore_n (lv' := [(3, .int (nI (wL w0))), (2, .int (nI (wA w0))), (0, .ref h0), (1, .int (nI w0))]) hx hb dX7_kindBySpelling_11 rfl hl (by decide) rfl (fun ls hl => ?_)
  refine lv_aload_n hx hb dX7_kindBySpelling_12 rfl (lv_at hl 2 rfl) ?_
  refine va_get (D := D) (ci := 7) (v := .ref tl) (C := RX7) (T := TX7) (N := 7) hx hb hts hinX7 hown hK hP 0 rfl rfl 0 (by decide) (hts (.fieldLink RX7 14 "TaleReader$Words" "tale" "LTaleReader$Text;") (uc3 _ (List.mem_of_getElem? (i := 12) rfl))) (fun _ h9 => h9) rfl dX7_kindBySpelling_13 ?_
  refine lv_iload_n hx hb dX7_kindBySpelling_16 rfl (lv_at hl 1 rfl) ?_
  refine lv_iload_n hx hb dX7_kindBySpelling_17 rfl (lv_at hl 0 rfl) ?_
  have hPc := hP.sub (ws' := [(tl, .inr (5, [.ref ta, .int (nI kt)])), (ta, .inl (cB, 600, .inl ft))]) [4, 5] rfl
  have hDc := hD.sub (ws' := [(tl, .inr (5, [.ref ta, .int (nI kt)])), (ta, .inl (cB, 600, .inl ft))]) [4, 5] (by decide) rfl
  have hFc := va_free (wc := [(tl, .inr (5, [.ref ta, .int (nI kt)])), (ta, .inl (cB, 600, .inl ft))]) hD hS hA [4, 5] rfl
  refine va_calli (va_runV (As := [.int (nI (wA w0)), .int (nI (wL w0))]) (rest := []) ⟨hx, hb, hml, hown, hts⟩ (f_X5_heWordSex l D cB cI cZ E H_5.size tl (wA w0) (wL w0) ta kt 600 ft tt (by first | assumption | omega) (by first | assumption | omega) (by first | assumption | omega) (by first | assumption | omega)) (cwV 2 hts (uV (uc11 _ (List.mem_of_getElem? (i := 16) rfl)) (uc11 _ (List.mem_of_getElem? (i := 17) rfl)) (uc11 _ (List.mem_of_getElem? (i := 18) rfl)) (uc1 _ (List.mem_of_getElem? (i := 14) rfl)) (uc11 _ (List.mem_of_getElem? (i := 19) rfl))) rfl rfl rfl (by decide +kernel) ⟨Nat.le_of_ble_eq_true rfl, Nat.le_of_ble_eq_true rfl⟩) (pVE hE hS hFc hK hPc hDc 0 rfl rfl) rfl rfl hl.1 rfl (lv_room (Nat.le_of_ble_eq_true rfl)) dX7_kindBySpelling_18 ⟨Nat.le_of_ble_eq_true rfl, Nat.le_of_ble_eq_true rfl⟩) hS (fun q _ h => hFc q h) hFc (fun r_7 u t H_8 L_9 ht hvm hw hB hz1 hk1 hS => ?_)
  obtain ⟨hP1, -, hD1⟩ := hB
  rw [ht] at hP1
  obtain ⟨hP, hD⟩ := va_join (wr := [(h0, .inr (7, [.ref tl, .ref wa1, .ref wa2, .ref wa3, .ref wa4, .int (nI c), .int sc])), (wa1, .inl (cI, 300, .inl fw1)), (wa2, .inl (cI, 300, .inl fw2)), (wa3, .inl (cI, 300, .inl fw3))]) (w1 := [(tl, .inr (5, [.ref ta, .int (nI kt)])), (ta, .inl (cB, 600, .inl ft))]) hP hD [4, 5] [0, 1, 2, 3] rfl rfl (by decide) (by decide) hk1 hFc hP1 hD1
  have hP : va_P D vwCl [(h0, .inr (7, [.ref tl, .ref wa1, .ref wa2, .ref wa3, .ref wa4, .int (nI c), .int sc])), (wa1, .inl (cI, 300, .inl fw1)), (wa2, .inl (cI, 300, .inl fw2)), (wa3, .inl (cI, 300, .inl fw3)), (tl, .inr (5, [.ref ta, .int (nI kt)])), (ta, .inl (cB, 600, .inl ft))] H_8 := hP.sub [0, 1, 2, 3, 4, 5] rfl
  have hD : va_D A [(h0, .inr (7, [.ref tl, .ref wa1, .ref wa2, .ref wa3, .ref wa4, .int (nI c), .int sc])), (wa1, .inl (cI, 300, .inl fw1)), (wa2, .inl (cI, 300, .inl fw2)), (wa3, .inl (cI, 300, .inl fw3)), (tl, .inr (5, [.ref ta, .int (nI kt)])), (ta, .inl (cB, 600, .inl ft))] := hD.sub [0, 1, 2, 3, 4, 5] (by decide) rfl
  try dsimp only at hw
  rcases hw with ⟨h_10, h_11, h_12⟩ | ⟨rfl, h_13⟩
  · have hr0 := h_10
    have hhe := h_11
    have hr4 := h_12
    refine lv_istore (lv' := [(4, .int r_7), (3, .int (nI (wL w0))), (2, .int (nI (wA w0))), (0, .ref h0), (1, .int (nI w0))]) hx hb dX7_kindBySpelling_21 hl (by decide) rfl (fun ls hl => ?_)
    refine lv_iload hx hb dX7_kindBySpelling_23 (lv_at hl 0 rfl) ?_
    refine lv_if_le (tgt := 57) hx hb dX7_kindBySpelling_25 (by decide) (fun c_14 => ?_) (fun c_14 => ?_)
    · exact False.elim (by exact absurd hr0 (Int32.not_lt.mpr c_14))
    · refine lv_aload_n hx hb dX7_kindBySpelling_28 rfl (lv_at hl 3 rfl) ?_
      refine va_get (D := D) (ci := 7) (v := .ref tl) (C := RX7) (T := TX7) (N := 7) hx hb hts hinX7 hown hK hP 0 rfl rfl 0 (by decide) (hts (.fieldLink RX7 14 "TaleReader$Words" "tale" "LTaleReader$Text;") (uc3 _ (List.mem_of_getElem? (i := 12) rfl))) (fun _ h9 => h9) rfl dX7_kindBySpelling_29 ?_
      refine lv_iload_n hx hb dX7_kindBySpelling_32 rfl (lv_at hl 2 rfl) ?_
      have hPc := hP.sub (ws' := [(tl, .inr (5, [.ref ta, .int (nI kt)])), (ta, .inl (cB, 600, .inl ft))]) [4, 5] rfl
      have hDc := hD.sub (ws' := [(tl, .inr (5, [.ref ta, .int (nI kt)])), (ta, .inl (cB, 600, .inl ft))]) [4, 5] (by decide) rfl
      have hFc := va_free (wc := [(tl, .inr (5, [.ref ta, .int (nI kt)])), (ta, .inl (cB, 600, .inl ft))]) hD hS hA [4, 5] rfl
      refine va_calli (va_runV (As := [.int (nI (wA w0))]) (rest := []) ⟨hx, hb, hml, hown, hts⟩ (f_X5_signT l D cB cI cZ E H_8.size tl (wA w0) ta kt 600 ft tt (by first | assumption | omega) (by first | assumption | omega) (by first | assumption | omega) (by first | assumption | omega)) (cwV 1 hts (uV (uc10 _ (List.mem_of_getElem? (i := 23) rfl)) (uc9 _ (List.mem_of_getElem? (i := 22) rfl)) (uc9 _ (List.mem_of_getElem? (i := 23) rfl)) (uc1 _ (List.mem_of_getElem? (i := 14) rfl)) (uc10 _ (List.mem_of_getElem? (i := 0) rfl))) rfl rfl rfl (by decide +kernel) ⟨Nat.le_of_ble_eq_true rfl, Nat.le_of_ble_eq_true rfl⟩) (pVE hE hS hFc hK hPc hDc 0 rfl rfl) rfl rfl hl.1 rfl (lv_room (Nat.le_of_ble_eq_true rfl)) dX7_kindBySpelling_33 ⟨Nat.le_of_ble_eq_true rfl, Nat.le_of_ble_eq_true rfl⟩) hS (fun q _ h => hFc q h) hFc (fun r_15 u t H_16 L_17 ht hvm hw hB hz1 hk1 hS => ?_)
      obtain ⟨hP1, -, hD1⟩ := hB
      rw [ht] at hP1
      obtain ⟨hP, hD⟩ := va_join (wr := [(h0, .inr (7, [.ref tl, .ref wa1, .ref wa2, .ref wa3, .ref wa4, .int (nI c), .int sc])), (wa1, .inl (cI, 300, .inl fw1)), (wa2, .inl (cI, 300, .inl fw2)), (wa3, .inl (cI, 300, .inl fw3))]) (w1 := [(tl, .inr (5, [.ref ta, .int (nI kt)])), (ta, .inl (cB, 600, .inl ft))]) hP hD [4, 5] [0, 1, 2, 3] rfl rfl (by decide) (by decide) hk1 hFc hP1 hD1
      have hP : va_P D vwCl [(h0, .inr (7, [.ref tl, .ref wa1, .ref wa2, .ref wa3, .ref wa4, .int (nI c), .int sc])), (wa1, .inl (cI, 300, .inl fw1)), (wa2, .inl (cI, 300, .inl fw2)), (wa3, .inl (cI, 300, .inl fw3)), (tl, .inr (5, [.ref ta, .int (nI kt)])), (ta, .inl (cB, 600, .inl ft))] H_16 := hP.sub [0, 1, 2, 3, 4, 5] rfl
      have hD : va_D A [(h0, .inr (7, [.ref tl, .ref wa1, .ref wa2, .ref wa3, .ref wa4, .int (nI c), .int sc])), (wa1, .inl (cI, 300, .inl fw1)), (wa2, .inl (cI, 300, .inl fw2)), (wa3, .inl (cI, 300, .inl fw3)), (tl, .inr (5, [.ref ta, .int (nI kt)])), (ta, .inl (cB, 600, .inl ft))] := hD.sub [0, 1, 2, 3, 4, 5] (by decide) rfl
      try dsimp only at hw
      subst hw
      have hPc := hP.sub (ws' := []) [] rfl
      have hDc := hD.sub (ws' := []) [] (by decide) rfl
      have hFc := va_free (wc := []) hD hS hA [] rfl
      refine va_calli (va_runSN (As := [.int (sb_b (tt (wA w0)))]) (rest := []) ⟨hx, hb, hml, hown, hts⟩ (s_isSmall l D cB cI cZ E H_16.size (sb_b (tt (wA w0)))) ⟨va_cnB 1 hts (uI (uc10 _ (List.mem_of_getElem? (i := 16) rfl))) rfl rfl rfl (pN_RX7_87 hE) (hts (.initialized RX8) (uc1 _ (List.mem_of_getElem? (i := 2) rfl))) (by decide +kernel) ⟨Nat.le_of_ble_eq_true rfl, Nat.le_of_ble_eq_true rfl⟩, (hts (.static yX8_isSmall) (uc10 _ (List.mem_of_getElem? (i := 15) rfl))), trivial⟩ (pSE hE hS hFc hK hPc hDc) rfl rfl hl.1 rfl (lv_room (Nat.le_of_ble_eq_true rfl)) dX7_kindBySpelling_36 ⟨Nat.le_of_ble_eq_true rfl, Nat.le_of_ble_eq_true rfl⟩) hS (fun q _ h => hFc q h) hFc (fun r_18 u t H_19 L_20 ht hvm hw hB hz1 hk1 hS => ?_)
      obtain ⟨hP1, -, hD1⟩ := hB
      rw [ht] at hP1
      obtain ⟨hP, hD⟩ := va_join (wr := [(h0, .inr (7, [.ref tl, .ref wa1, .ref wa2, .ref wa3, .ref wa4, .int (nI c), .int sc])), (wa1, .inl (cI, 300, .inl fw1)), (wa2, .inl (cI, 300, .inl fw2)), (wa3, .inl (cI, 300, .inl fw3)), (tl, .inr (5, [.ref ta, .int (nI kt)])), (ta, .inl (cB, 600, .inl ft))]) (w1 := []) hP hD [] [0, 1, 2, 3, 4, 5] rfl rfl (by decide) (by decide) hk1 hFc hP1 hD1
      have hP : va_P D vwCl [(h0, .inr (7, [.ref tl, .ref wa1, .ref wa2, .ref wa3, .ref wa4, .int (nI c), .int sc])), (wa1, .inl (cI, 300, .inl fw1)), (wa2, .inl (cI, 300, .inl fw2)), (wa3, .inl (cI, 300, .inl fw3)), (tl, .inr (5, [.ref ta, .int (nI kt)])), (ta, .inl (cB, 600, .inl ft))] H_19 := hP.sub [0, 1, 2, 3, 4, 5] rfl
      have hD : va_D A [(h0, .inr (7, [.ref tl, .ref wa1, .ref wa2, .ref wa3, .ref wa4, .int (nI c), .int sc])), (wa1, .inl (cI, 300, .inl fw1)), (wa2, .inl (cI, 300, .inl fw2)), (wa3, .inl (cI, 300, .inl fw3)), (tl, .inr (5, [.ref ta, .int (nI kt)])), (ta, .inl (cB, 600, .inl ft))] := hD.sub [0, 1, 2, 3, 4, 5] (by decide) rfl
      try dsimp only at hw
      rcases hw with ⟨rfl, h_21⟩ | ⟨rfl, h_22, h_23⟩
      · have hns := qb_sm0 (hTx (wA w0) hXk).2 h_21
        refine lv_if_ne (tgt := 50) hx hb dX7_kindBySpelling_39 (by decide) (fun c_24 => ?_) (fun c_24 => ?_)
        · exact False.elim (by revert c_24; decide)
        · refine lv_aload_n hx hb dX7_kindBySpelling_42 rfl (lv_at hl 3 rfl) ?_
          refine lv_iload_n hx hb dX7_kindBySpelling_43 rfl (lv_at hl 4 rfl) ?_
          have hPc := hP.sub (ws' := [(h0, .inr (7, [.ref tl, .ref wa1, .ref wa2, .ref wa3, .ref wa4, .int (nI c), .int sc])), (wa1, .inl (cI, 300, .inl fw1)), (wa2, .inl (cI, 300, .inl fw2)), (wa3, .inl (cI, 300, .inl fw3)), (tl, .inr (5, [.ref ta, .int (nI kt)])), (ta, .inl (cB, 600, .inl ft))]) [0, 1, 2, 3, 4, 5] rfl
          have hDc := hD.sub (ws' := [(h0, .inr (7, [.ref tl, .ref wa1, .ref wa2, .ref wa3, .ref wa4, .int (nI c), .int sc])), (wa1, .inl (cI, 300, .inl fw1)), (wa2, .inl (cI, 300, .inl fw2)), (wa3, .inl (cI, 300, .inl fw3)), (tl, .inr (5, [.ref ta, .int (nI kt)])), (ta, .inl (cB, 600, .inl ft))]) [0, 1, 2, 3, 4, 5] (by decide) rfl
          have hFc := va_free (wc := [(h0, .inr (7, [.ref tl, .ref wa1, .ref wa2, .ref wa3, .ref wa4, .int (nI c), .int sc])), (wa1, .inl (cI, 300, .inl fw1)), (wa2, .inl (cI, 300, .inl fw2)), (wa3, .inl (cI, 300, .inl fw3)), (tl, .inr (5, [.ref ta, .int (nI kt)])), (ta, .inl (cB, 600, .inl ft))]) hD hS hA [0, 1, 2, 3, 4, 5] rfl
          refine va_calli (va_runV (As := [.int (nI w0)]) (rest := []) ⟨hx, hb, hml, hown, hts⟩ (f_X7_isFirst l D cB cI cZ E H_19.size h0 w0 tl wa1 wa2 wa3 wa4 c sc fw1 fw2 fw3 ta kt ft tt wA wL wS (by first | assumption | omega) (by first | assumption | omega) (by first | assumption | omega) (by first | assumption | omega)) (cwV 1 hts (uV (uc14 _ (List.mem_of_getElem? (i := 5) rfl)) (uc14 _ (List.mem_of_getElem? (i := 6) rfl)) (uc14 _ (List.mem_of_getElem? (i := 7) rfl)) (uc1 _ (List.mem_of_getElem? (i := 18) rfl)) (uc14 _ (List.mem_of_getElem? (i := 8) rfl))) rfl rfl rfl (by decide +kernel) ⟨Nat.le_of_ble_eq_true rfl, Nat.le_of_ble_eq_true rfl⟩) (pVE hE hS hFc hK hPc hDc 0 rfl rfl) rfl rfl hl.1 rfl (lv_room (Nat.le_of_ble_eq_true rfl)) dX7_kindBySpelling_44 ⟨Nat.le_of_ble_eq_true rfl, Nat.le_of_ble_eq_true rfl⟩) hS (fun q _ h => hFc q h) hFc (fun r_25 u t H_26 L_27 ht hvm hw hB hz1 hk1 hS => ?_)
          obtain ⟨hP1, -, hD1⟩ := hB
          rw [ht] at hP1
          obtain ⟨hP, hD⟩ := va_join (wr := []) (w1 := [(h0, .inr (7, [.ref tl, .ref wa1, .ref wa2, .ref wa3, .ref wa4, .int (nI c), .int sc])), (wa1, .inl (cI, 300, .inl fw1)), (wa2, .inl (cI, 300, .inl fw2)), (wa3, .inl (cI, 300, .inl fw3)), (tl, .inr (5, [.ref ta, .int (nI kt)])), (ta, .inl (cB, 600, .inl ft))]) hP hD [0, 1, 2, 3, 4, 5] [] rfl rfl (by decide) (by decide) hk1 hFc hP1 hD1
          have hP : va_P D vwCl [(h0, .inr (7, [.ref tl, .ref wa1, .ref wa2, .ref wa3, .ref wa4, .int (nI c), .int sc])), (wa1, .inl (cI, 300, .inl fw1)), (wa2, .inl (cI, 300, .inl fw2)), (wa3, .inl (cI, 300, .inl fw3)), (tl, .inr (5, [.ref ta, .int (nI kt)])), (ta, .inl (cB, 600, .inl ft))] H_26 := hP.sub [0, 1, 2, 3, 4, 5] rfl
          have hD : va_D A [(h0, .inr (7, [.ref tl, .ref wa1, .ref wa2, .ref wa3, .ref wa4, .int (nI c), .int sc])), (wa1, .inl (cI, 300, .inl fw1)), (wa2, .inl (cI, 300, .inl fw2)), (wa3, .inl (cI, 300, .inl fw3)), (tl, .inr (5, [.ref ta, .int (nI kt)])), (ta, .inl (cB, 600, .inl ft))] := hD.sub [0, 1, 2, 3, 4, 5] (by decide) rfl
          try dsimp only at hw
          rcases hw with ⟨rfl, h_28⟩ | ⟨rfl, h_29⟩
          · have hF := h_28
            refine lv_if_eq (tgt := 55) hx hb dX7_kindBySpelling_47 (by decide) (fun c_30 => ?_) (fun c_30 => ?_)
            · exact False.elim (by revert c_30; decide)
            · refine lv_iload hx hb dX7_kindBySpelling_50 (lv_at hl 0 rfl) ?_
              refine lv_goto (tgt := 56) hx hb dX7_kindBySpelling_52 (by decide) ?_
              have hP9 := hP.sub (ws' := [(h0, .inr (7, [.ref tl, .ref wa1, .ref wa2, .ref wa3, .ref wa4, .int (nI c), .int sc])), (wa1, .inl (cI, 300, .inl fw1)), (wa2, .inl (cI, 300, .inl fw2)), (wa3, .inl (cI, 300, .inl fw3)), (tl, .inr (5, [.ref ta, .int (nI kt)])), (ta, .inl (cB, 600, .inl ft))]) [0, 1, 2, 3, 4, 5] rfl
              have hD9 := hD.sub (ws' := [(h0, .inr (7, [.ref tl, .ref wa1, .ref wa2, .ref wa3, .ref wa4, .int (nI c), .int sc])), (wa1, .inl (cI, 300, .inl fw1)), (wa2, .inl (cI, 300, .inl fw2)), (wa3, .inl (cI, 300, .inl fw3)), (tl, .inr (5, [.ref ta, .int (nI kt)])), (ta, .inl (cB, 600, .inl ft))]) [0, 1, 2, 3, 4, 5] (by decide) rfl
              exact W.iret (v := r_7) hx hb hr (fun t ht hW => ⟨⟨r_7, (), rfl, Or.inl (Or.inl ⟨hhe, by first | exact Or.inr (qSm_nc hsm) | exact Or.inl hF, hr0, hr4⟩), ⟨by rw [ht]; exact hP9, va_K.moved hW.alike hK, hD9⟩⟩, hS.F ht⟩) hS.2.2 dX7_kindBySpelling_56
          · have hF := h_29
            refine lv_if_eq (tgt := 55) hx hb dX7_kindBySpelling_47 (by decide) (fun c_31 => ?_) (fun c_31 => ?_)
            · refine lv_iconst (v := 5) hx hb dX7_kindBySpelling_55 (by decide) ?_
              have hP9 := hP.sub (ws' := [(h0, .inr (7, [.ref tl, .ref wa1, .ref wa2, .ref wa3, .ref wa4, .int (nI c), .int sc])), (wa1, .inl (cI, 300, .inl fw1)), (wa2, .inl (cI, 300, .inl fw2)), (wa3, .inl (cI, 300, .inl fw3)), (tl, .inr (5, [.ref ta, .int (nI kt)])), (ta, .inl (cB, 600, .inl ft))]) [0, 1, 2, 3, 4, 5] rfl
              have hD9 := hD.sub (ws' := [(h0, .inr (7, [.ref tl, .ref wa1, .ref wa2, .ref wa3, .ref wa4, .int (nI c), .int sc])), (wa1, .inl (cI, 300, .inl fw1)), (wa2, .inl (cI, 300, .inl fw2)), (wa3, .inl (cI, 300, .inl fw3)), (tl, .inr (5, [.ref ta, .int (nI kt)])), (ta, .inl (cB, 600, .inl ft))]) [0, 1, 2, 3, 4, 5] (by decide) rfl
              exact W.iret (v := 5) hx hb hr (fun t ht hW => ⟨⟨5, (), rfl, Or.inl (Or.inr (Or.inr ⟨Or.inl ⟨hhe, hF, qHe_cap hhe hns⟩, by decide, by decide⟩)), ⟨by rw [ht]; exact hP9, va_K.moved hW.alike hK, hD9⟩⟩, hS.F ht⟩) hS.2.2 dX7_kindBySpelling_56
            · exact False.elim (by revert c_31; decide)
      · have hsm := qb_sm1 (hTx (wA w0) hXk).2 h_22 h_23
        refine lv_if_ne (tgt := 50) hx hb dX7_kindBySpelling_39 (by decide) (fun c_32 => ?_) (fun c_32 => ?_)
        · refine lv_iload hx hb dX7_kindBySpelling_50 (lv_at hl 0 rfl) ?_
          refine lv_goto (tgt := 56) hx hb dX7_kindBySpelling_52 (by decide) ?_
          have hP9 := hP.sub (ws' := [(h0, .inr (7, [.ref tl, .ref wa1, .ref wa2, .ref wa3, .ref wa4, .int (nI c), .int sc])), (wa1, .inl (cI, 300, .inl fw1)), (wa2, .inl (cI, 300, .inl fw2)), (wa3, .inl (cI, 300, .inl fw3)), (tl, .inr (5, [.ref ta, .int (nI kt)])), (ta, .inl (cB, 600, .inl ft))]) [0, 1, 2, 3, 4, 5] rfl
          have hD9 := hD.sub (ws' := [(h0, .inr (7, [.ref tl, .ref wa1, .ref wa2, .ref wa3, .ref wa4, .int (nI c), .int sc])), (wa1, .inl (cI, 300, .inl fw1)), (wa2, .inl (cI, 300, .inl fw2)), (wa3, .inl (cI, 300, .inl fw3)), (tl, .inr (5, [.ref ta, .int (nI kt)])), (ta, .inl (cB, 600, .inl ft))]) [0, 1, 2, 3, 4, 5] (by decide) rfl
          exact W.iret (v := r_7) hx hb hr (fun t ht hW => ⟨⟨r_7, (), rfl, Or.inl (Or.inl ⟨hhe, by first | exact Or.inr (qSm_nc hsm) | exact Or.inl hF, hr0, hr4⟩), ⟨by rw [ht]; exact hP9, va_K.moved hW.alike hK, hD9⟩⟩, hS.F ht⟩) hS.2.2 dX7_kindBySpelling_56
        · exact False.elim (by revert c_32; decide)
  · have hhe := h_13
    refine lv_istore (lv' := [(4, .int 0), (3, .int (nI (wL w0))), (2, .int (nI (wA w0))), (0, .ref h0), (1, .int (nI w0))]) hx hb dX7_kindBySpelling_21 hl (by decide) rfl (fun ls hl => ?_)
    refine lv_iload hx hb dX7_kindBySpelling_23 (lv_at hl 0 rfl) ?_
    refine lv_if_le (tgt := 57) hx hb dX7_kindBySpelling_25 (by decide) (fun c_33 => ?_) (fun c_33 => ?_)
    · refine lv_aload_n hx hb dX7_kindBySpelling_57 rfl (lv_at hl 3 rfl) ?_
      refine va_get (D := D) (ci := 7) (v := .ref tl) (C := RX7) (T := TX7) (N := 7) hx hb hts hinX7 hown hK hP 0 rfl rfl 0 (by decide) (hts (.fieldLink RX7 14 "TaleReader$Words" "tale" "LTaleReader$Text;") (uc3 _ (List.mem_of_getElem? (i := 12) rfl))) (fun _ h9 => h9) rfl dX7_kindBySpelling_58 ?_
      refine lv_iload_n hx hb dX7_kindBySpelling_61 rfl (lv_at hl 2 rfl) ?_
      refine lv_iload_n hx hb dX7_kindBySpelling_62 rfl (lv_at hl 1 rfl) ?_
      have hPc := hP.sub (ws' := [(tl, .inr (5, [.ref ta, .int (nI kt)])), (ta, .inl (cB, 600, .inl ft))]) [4, 5] rfl
      have hDc := hD.sub (ws' := [(tl, .inr (5, [.ref ta, .int (nI kt)])), (ta, .inl (cB, 600, .inl ft))]) [4, 5] (by decide) rfl
      have hFc := va_free (wc := [(tl, .inr (5, [.ref ta, .int (nI kt)])), (ta, .inl (cB, 600, .inl ft))]) hD hS hA [4, 5] rfl
      refine va_calli (va_runV (As := [.int (nI (wA w0)), .int (nI (wL w0))]) (rest := []) ⟨hx, hb, hml, hown, hts⟩ (f_X5_looksLikeName l D cB cI cZ E H_8.size tl (wA w0) (wL w0) ta kt 600 ft tt (by first | assumption | omega) (by first | assumption | omega) (by first | assumption | omega) (by first | assumption | omega)) (cwV 2 hts (uV (uc14 _ (List.mem_of_getElem? (i := 13) rfl)) (uc14 _ (List.mem_of_getElem? (i := 14) rfl)) (uc14 _ (List.mem_of_getElem? (i := 15) rfl)) (uc1 _ (List.mem_of_getElem? (i := 14) rfl)) (uc14 _ (List.mem_of_getElem? (i := 16) rfl))) rfl rfl rfl (by decide +kernel) ⟨Nat.le_of_ble_eq_true rfl, Nat.le_of_ble_eq_true rfl⟩) (pVE hE hS hFc hK hPc hDc 0 rfl rfl) rfl rfl hl.1 rfl (lv_room (Nat.le_of_ble_eq_true rfl)) dX7_kindBySpelling_63 ⟨Nat.le_of_ble_eq_true rfl, Nat.le_of_ble_eq_true rfl⟩) hS (fun q _ h => hFc q h) hFc (fun r_34 u t H_35 L_36 ht hvm hw hB hz1 hk1 hS => ?_)
      obtain ⟨hP1, -, hD1⟩ := hB
      rw [ht] at hP1
      obtain ⟨hP, hD⟩ := va_join (wr := [(h0, .inr (7, [.ref tl, .ref wa1, .ref wa2, .ref wa3, .ref wa4, .int (nI c), .int sc])), (wa1, .inl (cI, 300, .inl fw1)), (wa2, .inl (cI, 300, .inl fw2)), (wa3, .inl (cI, 300, .inl fw3))]) (w1 := [(tl, .inr (5, [.ref ta, .int (nI kt)])), (ta, .inl (cB, 600, .inl ft))]) hP hD [4, 5] [0, 1, 2, 3] rfl rfl (by decide) (by decide) hk1 hFc hP1 hD1
      have hP : va_P D vwCl [(h0, .inr (7, [.ref tl, .ref wa1, .ref wa2, .ref wa3, .ref wa4, .int (nI c), .int sc])), (wa1, .inl (cI, 300, .inl fw1)), (wa2, .inl (cI, 300, .inl fw2)), (wa3, .inl (cI, 300, .inl fw3)), (tl, .inr (5, [.ref ta, .int (nI kt)])), (ta, .inl (cB, 600, .inl ft))] H_35 := hP.sub [0, 1, 2, 3, 4, 5] rfl
      have hD : va_D A [(h0, .inr (7, [.ref tl, .ref wa1, .ref wa2, .ref wa3, .ref wa4, .int (nI c), .int sc])), (wa1, .inl (cI, 300, .inl fw1)), (wa2, .inl (cI, 300, .inl fw2)), (wa3, .inl (cI, 300, .inl fw3)), (tl, .inr (5, [.ref ta, .int (nI kt)])), (ta, .inl (cB, 600, .inl ft))] := hD.sub [0, 1, 2, 3, 4, 5] (by decide) rfl
      try dsimp only at hw
      rcases hw with ⟨rfl, h_37⟩ | ⟨rfl, h_38⟩
      · have hnm := h_37
        refine lv_if_eq (tgt := 84) hx hb dX7_kindBySpelling_66 (by decide) (fun c_39 => ?_) (fun c_39 => ?_)
        · exact False.elim (by revert c_39; decide)
        · refine lv_aload_n hx hb dX7_kindBySpelling_69 rfl (lv_at hl 3 rfl) ?_
          refine lv_iload_n hx hb dX7_kindBySpelling_70 rfl (lv_at hl 4 rfl) ?_
          have hPc := hP.sub (ws' := [(h0, .inr (7, [.ref tl, .ref wa1, .ref wa2, .ref wa3, .ref wa4, .int (nI c), .int sc])), (wa1, .inl (cI, 300, .inl fw1)), (wa2, .inl (cI, 300, .inl fw2)), (wa3, .inl (cI, 300, .inl fw3)), (tl, .inr (5, [.ref ta, .int (nI kt)])), (ta, .inl (cB, 600, .inl ft))]) [0, 1, 2, 3, 4, 5] rfl
          have hDc := hD.sub (ws' := [(h0, .inr (7, [.ref tl, .ref wa1, .ref wa2, .ref wa3, .ref wa4, .int (nI c), .int sc])), (wa1, .inl (cI, 300, .inl fw1)), (wa2, .inl (cI, 300, .inl fw2)), (wa3, .inl (cI, 300, .inl fw3)), (tl, .inr (5, [.ref ta, .int (nI kt)])), (ta, .inl (cB, 600, .inl ft))]) [0, 1, 2, 3, 4, 5] (by decide) rfl
          have hFc := va_free (wc := [(h0, .inr (7, [.ref tl, .ref wa1, .ref wa2, .ref wa3, .ref wa4, .int (nI c), .int sc])), (wa1, .inl (cI, 300, .inl fw1)), (wa2, .inl (cI, 300, .inl fw2)), (wa3, .inl (cI, 300, .inl fw3)), (tl, .inr (5, [.ref ta, .int (nI kt)])), (ta, .inl (cB, 600, .inl ft))]) hD hS hA [0, 1, 2, 3, 4, 5] rfl
          refine va_calli (va_runV (As := [.int (nI w0)]) (rest := []) ⟨hx, hb, hml, hown, hts⟩ (f_X7_isFirst l D cB cI cZ E H_35.size h0 w0 tl wa1 wa2 wa3 wa4 c sc fw1 fw2 fw3 ta kt ft tt wA wL wS (by first | assumption | omega) (by first | assumption | omega) (by first | assumption | omega) (by first | assumption | omega)) (cwV 1 hts (uV (uc14 _ (List.mem_of_getElem? (i := 5) rfl)) (uc14 _ (List.mem_of_getElem? (i := 6) rfl)) (uc14 _ (List.mem_of_getElem? (i := 7) rfl)) (uc1 _ (List.mem_of_getElem? (i := 18) rfl)) (uc14 _ (List.mem_of_getElem? (i := 8) rfl))) rfl rfl rfl (by decide +kernel) ⟨Nat.le_of_ble_eq_true rfl, Nat.le_of_ble_eq_true rfl⟩) (pVE hE hS hFc hK hPc hDc 0 rfl rfl) rfl rfl hl.1 rfl (lv_room (Nat.le_of_ble_eq_true rfl)) dX7_kindBySpelling_71 ⟨Nat.le_of_ble_eq_true rfl, Nat.le_of_ble_eq_true rfl⟩) hS (fun q _ h => hFc q h) hFc (fun r_40 u t H_41 L_42 ht hvm hw hB hz1 hk1 hS => ?_)
          obtain ⟨hP1, -, hD1⟩ := hB
          rw [ht] at hP1
          obtain ⟨hP, hD⟩ := va_join (wr := []) (w1 := [(h0, .inr (7, [.ref tl, .ref wa1, .ref wa2, .ref wa3, .ref wa4, .int (nI c), .int sc])), (wa1, .inl (cI, 300, .inl fw1)), (wa2, .inl (cI, 300, .inl fw2)), (wa3, .inl (cI, 300, .inl fw3)), (tl, .inr (5, [.ref ta, .int (nI kt)])), (ta, .inl (cB, 600, .inl ft))]) hP hD [0, 1, 2, 3, 4, 5] [] rfl rfl (by decide) (by decide) hk1 hFc hP1 hD1
          have hP : va_P D vwCl [(h0, .inr (7, [.ref tl, .ref wa1, .ref wa2, .ref wa3, .ref wa4, .int (nI c), .int sc])), (wa1, .inl (cI, 300, .inl fw1)), (wa2, .inl (cI, 300, .inl fw2)), (wa3, .inl (cI, 300, .inl fw3)), (tl, .inr (5, [.ref ta, .int (nI kt)])), (ta, .inl (cB, 600, .inl ft))] H_41 := hP.sub [0, 1, 2, 3, 4, 5] rfl
          have hD : va_D A [(h0, .inr (7, [.ref tl, .ref wa1, .ref wa2, .ref wa3, .ref wa4, .int (nI c), .int sc])), (wa1, .inl (cI, 300, .inl fw1)), (wa2, .inl (cI, 300, .inl fw2)), (wa3, .inl (cI, 300, .inl fw3)), (tl, .inr (5, [.ref ta, .int (nI kt)])), (ta, .inl (cB, 600, .inl ft))] := hD.sub [0, 1, 2, 3, 4, 5] (by decide) rfl
          try dsimp only at hw
          rcases hw with ⟨rfl, h_43⟩ | ⟨rfl, h_44⟩
          · have hF := h_43
            refine lv_if_eq (tgt := 82) hx hb dX7_kindBySpelling_74 (by decide) (fun c_45 => ?_) (fun c_45 => ?_)
            · exact False.elim (by revert c_45; decide)
            · refine lv_bipush (v := 8) hx hb dX7_kindBySpelling_77 (by decide) ?_
              refine lv_goto (tgt := 83) hx hb dX7_kindBySpelling_79 (by decide) ?_
              have hP9 := hP.sub (ws' := [(h0, .inr (7, [.ref tl, .ref wa1, .ref wa2, .ref wa3, .ref wa4, .int (nI c), .int sc])), (wa1, .inl (cI, 300, .inl fw1)), (wa2, .inl (cI, 300, .inl fw2)), (wa3, .inl (cI, 300, .inl fw3)), (tl, .inr (5, [.ref ta, .int (nI kt)])), (ta, .inl (cB, 600, .inl ft))]) [0, 1, 2, 3, 4, 5] rfl
              have hD9 := hD.sub (ws' := [(h0, .inr (7, [.ref tl, .ref wa1, .ref wa2, .ref wa3, .ref wa4, .int (nI c), .int sc])), (wa1, .inl (cI, 300, .inl fw1)), (wa2, .inl (cI, 300, .inl fw2)), (wa3, .inl (cI, 300, .inl fw3)), (tl, .inr (5, [.ref ta, .int (nI kt)])), (ta, .inl (cB, 600, .inl ft))]) [0, 1, 2, 3, 4, 5] (by decide) rfl
              exact W.iret (v := 8) hx hb hr (fun t ht hW => ⟨⟨8, (), rfl, Or.inr ⟨hhe, hnm, hF, rfl⟩, ⟨by rw [ht]; exact hP9, va_K.moved hW.alike hK, hD9⟩⟩, hS.F ht⟩) hS.2.2 dX7_kindBySpelling_83
          · have hF := h_44
            refine lv_if_eq (tgt := 82) hx hb dX7_kindBySpelling_74 (by decide) (fun c_46 => ?_) (fun c_46 => ?_)
            · refine lv_iconst (v := 0) hx hb dX7_kindBySpelling_82 (by decide) ?_
              have hP9 := hP.sub (ws' := [(h0, .inr (7, [.ref tl, .ref wa1, .ref wa2, .ref wa3, .ref wa4, .int (nI c), .int sc])), (wa1, .inl (cI, 300, .inl fw1)), (wa2, .inl (cI, 300, .inl fw2)), (wa3, .inl (cI, 300, .inl fw3)), (tl, .inr (5, [.ref ta, .int (nI kt)])), (ta, .inl (cB, 600, .inl ft))]) [0, 1, 2, 3, 4, 5] rfl
              have hD9 := hD.sub (ws' := [(h0, .inr (7, [.ref tl, .ref wa1, .ref wa2, .ref wa3, .ref wa4, .int (nI c), .int sc])), (wa1, .inl (cI, 300, .inl fw1)), (wa2, .inl (cI, 300, .inl fw2)), (wa3, .inl (cI, 300, .inl fw3)), (tl, .inr (5, [.ref ta, .int (nI kt)])), (ta, .inl (cB, 600, .inl ft))]) [0, 1, 2, 3, 4, 5] (by decide) rfl
              exact W.iret (v := 0) hx hb hr (fun t ht hW => ⟨⟨0, (), rfl, Or.inl (Or.inr (Or.inl ⟨hhe, hnm, hF, rfl⟩)), ⟨by rw [ht]; exact hP9, va_K.moved hW.alike hK, hD9⟩⟩, hS.F ht⟩) hS.2.2 dX7_kindBySpelling_83
            · exact False.elim (by revert c_46; decide)
      · have hnm := h_38
        refine lv_if_eq (tgt := 84) hx hb dX7_kindBySpelling_66 (by decide) (fun c_47 => ?_) (fun c_47 => ?_)
        · refine lv_aload_n hx hb dX7_kindBySpelling_84 rfl (lv_at hl 3 rfl) ?_
          refine va_get (D := D) (ci := 7) (v := .ref tl) (C := RX7) (T := TX7) (N := 7) hx hb hts hinX7 hown hK hP 0 rfl rfl 0 (by decide) (hts (.fieldLink RX7 14 "TaleReader$Words" "tale" "LTaleReader$Text;") (uc3 _ (List.mem_of_getElem? (i := 12) rfl))) (fun _ h9 => h9) rfl dX7_kindBySpelling_85 ?_
          refine lv_iload_n hx hb dX7_kindBySpelling_88 rfl (lv_at hl 2 rfl) ?_
          refine lv_iload_n hx hb dX7_kindBySpelling_89 rfl (lv_at hl 1 rfl) ?_
          refine va_ldcS hx hb hown (pR_RX7_97 hE) dX7_kindBySpelling_90 ?_
          have hPc := hP.sub (ws' := [(tl, .inr (5, [.ref ta, .int (nI kt)])), (ta, .inl (cB, 600, .inl ft))]) [4, 5] rfl
          have hDc := hD.sub (ws' := [(tl, .inr (5, [.ref ta, .int (nI kt)])), (ta, .inl (cB, 600, .inl ft))]) [4, 5] (by decide) rfl
          have hFc := va_free (wc := [(tl, .inr (5, [.ref ta, .int (nI kt)])), (ta, .inl (cB, 600, .inl ft))]) hD hS hA [4, 5] rfl
          refine va_calli (va_runV (As := [.int (nI (wA w0)), .int (nI (wL w0)), .ref (E.1 13)]) (rest := []) ⟨hx, hb, hml, hown, hts⟩ (s_X5_spells l D cB cI cZ E H_35.size tl ta 600 kt ft (nI (wA w0)) (nI (wL w0)) 13 (by first | assumption | omega) (by first | assumption | omega) (by first | assumption | omega)) (cwV 3 hts (uV (uc14 _ (List.mem_of_getElem? (i := 17) rfl)) (uc14 _ (List.mem_of_getElem? (i := 18) rfl)) (uc14 _ (List.mem_of_getElem? (i := 19) rfl)) (uc1 _ (List.mem_of_getElem? (i := 14) rfl)) (uc14 _ (List.mem_of_getElem? (i := 20) rfl))) rfl rfl rfl (by decide +kernel) ⟨Nat.le_of_ble_eq_true rfl, Nat.le_of_ble_eq_true rfl⟩) (pVE hE hS hFc hK hPc hDc 0 rfl rfl) rfl rfl hl.1 rfl (lv_room (Nat.le_of_ble_eq_true rfl)) dX7_kindBySpelling_92 ⟨Nat.le_of_ble_eq_true rfl, Nat.le_of_ble_eq_true rfl⟩) hS (fun q _ h => hFc q h) hFc (fun r_48 u t H_49 L_50 ht hvm hw hB hz1 hk1 hS => ?_)
          obtain ⟨hP1, -, hD1⟩ := hB
          rw [ht] at hP1
          obtain ⟨hP, hD⟩ := va_join (wr := [(h0, .inr (7, [.ref tl, .ref wa1, .ref wa2, .ref wa3, .ref wa4, .int (nI c), .int sc])), (wa1, .inl (cI, 300, .inl fw1)), (wa2, .inl (cI, 300, .inl fw2)), (wa3, .inl (cI, 300, .inl fw3))]) (w1 := [(tl, .inr (5, [.ref ta, .int (nI kt)])), (ta, .inl (cB, 600, .inl ft))]) hP hD [4, 5] [0, 1, 2, 3] rfl rfl (by decide) (by decide) hk1 hFc hP1 hD1
          have hP : va_P D vwCl [(h0, .inr (7, [.ref tl, .ref wa1, .ref wa2, .ref wa3, .ref wa4, .int (nI c), .int sc])), (wa1, .inl (cI, 300, .inl fw1)), (wa2, .inl (cI, 300, .inl fw2)), (wa3, .inl (cI, 300, .inl fw3)), (tl, .inr (5, [.ref ta, .int (nI kt)])), (ta, .inl (cB, 600, .inl ft))] H_49 := hP.sub [0, 1, 2, 3, 4, 5] rfl
          have hD : va_D A [(h0, .inr (7, [.ref tl, .ref wa1, .ref wa2, .ref wa3, .ref wa4, .int (nI c), .int sc])), (wa1, .inl (cI, 300, .inl fw1)), (wa2, .inl (cI, 300, .inl fw2)), (wa3, .inl (cI, 300, .inl fw3)), (tl, .inr (5, [.ref ta, .int (nI kt)])), (ta, .inl (cB, 600, .inl ft))] := hD.sub [0, 1, 2, 3, 4, 5] (by decide) rfl
          try dsimp only at hw
          refine lv_if_eq (tgt := 101) hx hb dX7_kindBySpelling_95 (by decide) (fun c_51 => ?_) (fun c_51 => ?_)
          · refine lv_aload_n hx hb dX7_kindBySpelling_101 rfl (lv_at hl 3 rfl) ?_
            refine va_get (D := D) (ci := 7) (v := .ref tl) (C := RX7) (T := TX7) (N := 7) hx hb hts hinX7 hown hK hP 0 rfl rfl 0 (by decide) (hts (.fieldLink RX7 14 "TaleReader$Words" "tale" "LTaleReader$Text;") (uc3 _ (List.mem_of_getElem? (i := 12) rfl))) (fun _ h9 => h9) rfl dX7_kindBySpelling_102 ?_
            refine lv_iload_n hx hb dX7_kindBySpelling_105 rfl (lv_at hl 2 rfl) ?_
            refine lv_iload_n hx hb dX7_kindBySpelling_106 rfl (lv_at hl 1 rfl) ?_
            refine va_ldcS hx hb hown (pR_RX7_103 hE) dX7_kindBySpelling_107 ?_
            have hPc := hP.sub (ws' := [(tl, .inr (5, [.ref ta, .int (nI kt)])), (ta, .inl (cB, 600, .inl ft))]) [4, 5] rfl
            have hDc := hD.sub (ws' := [(tl, .inr (5, [.ref ta, .int (nI kt)])), (ta, .inl (cB, 600, .inl ft))]) [4, 5] (by decide) rfl
            have hFc := va_free (wc := [(tl, .inr (5, [.ref ta, .int (nI kt)])), (ta, .inl (cB, 600, .inl ft))]) hD hS hA [4, 5] rfl
            refine va_calli (va_runV (As := [.int (nI (wA w0)), .int (nI (wL w0)), .ref (E.1 11)]) (rest := []) ⟨hx, hb, hml, hown, hts⟩ (s_X5_spells l D cB cI cZ E H_49.size tl ta 600 kt ft (nI (wA w0)) (nI (wL w0)) 11 (by first | assumption | omega) (by first | assumption | omega) (by first | assumption | omega)) (cwV 3 hts (uV (uc14 _ (List.mem_of_getElem? (i := 17) rfl)) (uc14 _ (List.mem_of_getElem? (i := 18) rfl)) (uc14 _ (List.mem_of_getElem? (i := 19) rfl)) (uc1 _ (List.mem_of_getElem? (i := 14) rfl)) (uc14 _ (List.mem_of_getElem? (i := 20) rfl))) rfl rfl rfl (by decide +kernel) ⟨Nat.le_of_ble_eq_true rfl, Nat.le_of_ble_eq_true rfl⟩) (pVE hE hS hFc hK hPc hDc 0 rfl rfl) rfl rfl hl.1 rfl (lv_room (Nat.le_of_ble_eq_true rfl)) dX7_kindBySpelling_109 ⟨Nat.le_of_ble_eq_true rfl, Nat.le_of_ble_eq_true rfl⟩) hS (fun q _ h => hFc q h) hFc (fun r_52 u t H_53 L_54 ht hvm hw hB hz1 hk1 hS => ?_)
            obtain ⟨hP1, -, hD1⟩ := hB
            rw [ht] at hP1
            obtain ⟨hP, hD⟩ := va_join (wr := [(h0, .inr (7, [.ref tl, .ref wa1, .ref wa2, .ref wa3, .ref wa4, .int (nI c), .int sc])), (wa1, .inl (cI, 300, .inl fw1)), (wa2, .inl (cI, 300, .inl fw2)), (wa3, .inl (cI, 300, .inl fw3))]) (w1 := [(tl, .inr (5, [.ref ta, .int (nI kt)])), (ta, .inl (cB, 600, .inl ft))]) hP hD [4, 5] [0, 1, 2, 3] rfl rfl (by decide) (by decide) hk1 hFc hP1 hD1
            have hP : va_P D vwCl [(h0, .inr (7, [.ref tl, .ref wa1, .ref wa2, .ref wa3, .ref wa4, .int (nI c), .int sc])), (wa1, .inl (cI, 300, .inl fw1)), (wa2, .inl (cI, 300, .inl fw2)), (wa3, .inl (cI, 300, .inl fw3)), (tl, .inr (5, [.ref ta, .int (nI kt)])), (ta, .inl (cB, 600, .inl ft))] H_53 := hP.sub [0, 1, 2, 3, 4, 5] rfl
            have hD : va_D A [(h0, .inr (7, [.ref tl, .ref wa1, .ref wa2, .ref wa3, .ref wa4, .int (nI c), .int sc])), (wa1, .inl (cI, 300, .inl fw1)), (wa2, .inl (cI, 300, .inl fw2)), (wa3, .inl (cI, 300, .inl fw3)), (tl, .inr (5, [.ref ta, .int (nI kt)])), (ta, .inl (cB, 600, .inl ft))] := hD.sub [0, 1, 2, 3, 4, 5] (by decide) rfl
            try dsimp only at hw
            refine lv_if_ne (tgt := 129) hx hb dX7_kindBySpelling_112 (by decide) (fun c_55 => ?_) (fun c_55 => ?_)
            · refine lv_iconst (v := 1) hx hb dX7_kindBySpelling_129 (by decide) ?_
              refine lv_goto (tgt := 134) hx hb dX7_kindBySpelling_130 (by decide) ?_
              refine lv_istore (lv' := [(5, .int 1), (4, .int 0), (3, .int (nI (wL w0))), (2, .int (nI (wA w0))), (0, .ref h0), (1, .int (nI w0))]) hx hb dX7_kindBySpelling_134 hl (by decide) rfl (fun ls hl => ?_)
              refine lv_iload hx hb dX7_kindBySpelling_136 (lv_at hl 0 rfl) ?_
              refine lv_if_eq (tgt := 146) hx hb dX7_kindBySpelling_138 (by decide) (fun c_56 => ?_) (fun c_56 => ?_)
              · exact False.elim (by revert c_56; decide)
              · refine lv_bipush (v := 7) hx hb dX7_kindBySpelling_141 (by decide) ?_
                refine lv_goto (tgt := 147) hx hb dX7_kindBySpelling_143 (by decide) ?_
                have hP9 := hP.sub (ws' := [(h0, .inr (7, [.ref tl, .ref wa1, .ref wa2, .ref wa3, .ref wa4, .int (nI c), .int sc])), (wa1, .inl (cI, 300, .inl fw1)), (wa2, .inl (cI, 300, .inl fw2)), (wa3, .inl (cI, 300, .inl fw3)), (tl, .inr (5, [.ref ta, .int (nI kt)])), (ta, .inl (cB, 600, .inl ft))]) [0, 1, 2, 3, 4, 5] rfl
                have hD9 := hD.sub (ws' := [(h0, .inr (7, [.ref tl, .ref wa1, .ref wa2, .ref wa3, .ref wa4, .int (nI c), .int sc])), (wa1, .inl (cI, 300, .inl fw1)), (wa2, .inl (cI, 300, .inl fw2)), (wa3, .inl (cI, 300, .inl fw3)), (tl, .inr (5, [.ref ta, .int (nI kt)])), (ta, .inl (cB, 600, .inl ft))]) [0, 1, 2, 3, 4, 5] (by decide) rfl
                exact W.iret (v := 7) hx hb hr (fun t ht hW => ⟨⟨7, (), rfl, Or.inl (Or.inr (Or.inr ⟨Or.inr ⟨hhe, hnm⟩, by decide, by decide⟩)), ⟨by rw [ht]; exact hP9, va_K.moved hW.alike hK, hD9⟩⟩, hS.F ht⟩) hS.2.2 dX7_kindBySpelling_147
            · refine lv_aload_n hx hb dX7_kindBySpelling_115 rfl (lv_at hl 3 rfl) ?_
              refine va_get (D := D) (ci := 7) (v := .ref tl) (C := RX7) (T := TX7) (N := 7) hx hb hts hinX7 hown hK hP 0 rfl rfl 0 (by decide) (hts (.fieldLink RX7 14 "TaleReader$Words" "tale" "LTaleReader$Text;") (uc3 _ (List.mem_of_getElem? (i := 12) rfl))) (fun _ h9 => h9) rfl dX7_kindBySpelling_116 ?_
              refine lv_iload_n hx hb dX7_kindBySpelling_119 rfl (lv_at hl 2 rfl) ?_
              refine lv_iload_n hx hb dX7_kindBySpelling_120 rfl (lv_at hl 1 rfl) ?_
              refine va_ldcS hx hb hown (pR_RX7_105 hE) dX7_kindBySpelling_121 ?_
              have hPc := hP.sub (ws' := [(tl, .inr (5, [.ref ta, .int (nI kt)])), (ta, .inl (cB, 600, .inl ft))]) [4, 5] rfl
              have hDc := hD.sub (ws' := [(tl, .inr (5, [.ref ta, .int (nI kt)])), (ta, .inl (cB, 600, .inl ft))]) [4, 5] (by decide) rfl
              have hFc := va_free (wc := [(tl, .inr (5, [.ref ta, .int (nI kt)])), (ta, .inl (cB, 600, .inl ft))]) hD hS hA [4, 5] rfl
              refine va_calli (va_runV (As := [.int (nI (wA w0)), .int (nI (wL w0)), .ref (E.1 12)]) (rest := []) ⟨hx, hb, hml, hown, hts⟩ (s_X5_spells l D cB cI cZ E H_53.size tl ta 600 kt ft (nI (wA w0)) (nI (wL w0)) 12 (by first | assumption | omega) (by first | assumption | omega) (by first | assumption | omega)) (cwV 3 hts (uV (uc14 _ (List.mem_of_getElem? (i := 17) rfl)) (uc14 _ (List.mem_of_getElem? (i := 18) rfl)) (uc14 _ (List.mem_of_getElem? (i := 19) rfl)) (uc1 _ (List.mem_of_getElem? (i := 14) rfl)) (uc14 _ (List.mem_of_getElem? (i := 20) rfl))) rfl rfl rfl (by decide +kernel) ⟨Nat.le_of_ble_eq_true rfl, Nat.le_of_ble_eq_true rfl⟩) (pVE hE hS hFc hK hPc hDc 0 rfl rfl) rfl rfl hl.1 rfl (lv_room (Nat.le_of_ble_eq_true rfl)) dX7_kindBySpelling_123 ⟨Nat.le_of_ble_eq_true rfl, Nat.le_of_ble_eq_true rfl⟩) hS (fun q _ h => hFc q h) hFc (fun r_57 u t H_58 L_59 ht hvm hw hB hz1 hk1 hS => ?_)
              obtain ⟨hP1, -, hD1⟩ := hB
              rw [ht] at hP1
              obtain ⟨hP, hD⟩ := va_join (wr := [(h0, .inr (7, [.ref tl, .ref wa1, .ref wa2, .ref wa3, .ref wa4, .int (nI c), .int sc])), (wa1, .inl (cI, 300, .inl fw1)), (wa2, .inl (cI, 300, .inl fw2)), (wa3, .inl (cI, 300, .inl fw3))]) (w1 := [(tl, .inr (5, [.ref ta, .int (nI kt)])), (ta, .inl (cB, 600, .inl ft))]) hP hD [4, 5] [0, 1, 2, 3] rfl rfl (by decide) (by decide) hk1 hFc hP1 hD1
              have hP : va_P D vwCl [(h0, .inr (7, [.ref tl, .ref wa1, .ref wa2, .ref wa3, .ref wa4, .int (nI c), .int sc])), (wa1, .inl (cI, 300, .inl fw1)), (wa2, .inl (cI, 300, .inl fw2)), (wa3, .inl (cI, 300, .inl fw3)), (tl, .inr (5, [.ref ta, .int (nI kt)])), (ta, .inl (cB, 600, .inl ft))] H_58 := hP.sub [0, 1, 2, 3, 4, 5] rfl
              have hD : va_D A [(h0, .inr (7, [.ref tl, .ref wa1, .ref wa2, .ref wa3, .ref wa4, .int (nI c), .int sc])), (wa1, .inl (cI, 300, .inl fw1)), (wa2, .inl (cI, 300, .inl fw2)), (wa3, .inl (cI, 300, .inl fw3)), (tl, .inr (5, [.ref ta, .int (nI kt)])), (ta, .inl (cB, 600, .inl ft))] := hD.sub [0, 1, 2, 3, 4, 5] (by decide) rfl
              try dsimp only at hw
              refine lv_if_eq (tgt := 133) hx hb dX7_kindBySpelling_126 (by decide) (fun c_60 => ?_) (fun c_60 => ?_)
              · refine lv_iconst (v := 0) hx hb dX7_kindBySpelling_133 (by decide) ?_
                refine lv_istore (lv' := [(5, .int 0), (4, .int 0), (3, .int (nI (wL w0))), (2, .int (nI (wA w0))), (0, .ref h0), (1, .int (nI w0))]) hx hb dX7_kindBySpelling_134 hl (by decide) rfl (fun ls hl => ?_)
                refine lv_iload hx hb dX7_kindBySpelling_136 (lv_at hl 0 rfl) ?_
                refine lv_if_eq (tgt := 146) hx hb dX7_kindBySpelling_138 (by decide) (fun c_61 => ?_) (fun c_61 => ?_)
                · refine lv_iconst (v := 5) hx hb dX7_kindBySpelling_146 (by decide) ?_
                  have hP9 := hP.sub (ws' := [(h0, .inr (7, [.ref tl, .ref wa1, .ref wa2, .ref wa3, .ref wa4, .int (nI c), .int sc])), (wa1, .inl (cI, 300, .inl fw1)), (wa2, .inl (cI, 300, .inl fw2)), (wa3, .inl (cI, 300, .inl fw3)), (tl, .inr (5, [.ref ta, .int (nI kt)])), (ta, .inl (cB, 600, .inl ft))]) [0, 1, 2, 3, 4, 5] rfl
                  have hD9 := hD.sub (ws' := [(h0, .inr (7, [.ref tl, .ref wa1, .ref wa2, .ref wa3, .ref wa4, .int (nI c), .int sc])), (wa1, .inl (cI, 300, .inl fw1)), (wa2, .inl (cI, 300, .inl fw2)), (wa3, .inl (cI, 300, .inl fw3)), (tl, .inr (5, [.ref ta, .int (nI kt)])), (ta, .inl (cB, 600, .inl ft))]) [0, 1, 2, 3, 4, 5] (by decide) rfl
                  exact W.iret (v := 5) hx hb hr (fun t ht hW => ⟨⟨5, (), rfl, Or.inl (Or.inr (Or.inr ⟨Or.inr ⟨hhe, hnm⟩, by decide, by decide⟩)), ⟨by rw [ht]; exact hP9, va_K.moved hW.alike hK, hD9⟩⟩, hS.F ht⟩) hS.2.2 dX7_kindBySpelling_147
                · exact False.elim (by revert c_61; decide)
              · refine lv_iconst (v := 1) hx hb dX7_kindBySpelling_129 (by decide) ?_
                refine lv_goto (tgt := 134) hx hb dX7_kindBySpelling_130 (by decide) ?_
                refine lv_istore (lv' := [(5, .int 1), (4, .int 0), (3, .int (nI (wL w0))), (2, .int (nI (wA w0))), (0, .ref h0), (1, .int (nI w0))]) hx hb dX7_kindBySpelling_134 hl (by decide) rfl (fun ls hl => ?_)
                refine lv_iload hx hb dX7_kindBySpelling_136 (lv_at hl 0 rfl) ?_
                refine lv_if_eq (tgt := 146) hx hb dX7_kindBySpelling_138 (by decide) (fun c_62 => ?_) (fun c_62 => ?_)
                · exact False.elim (by revert c_62; decide)
                · refine lv_bipush (v := 7) hx hb dX7_kindBySpelling_141 (by decide) ?_
                  refine lv_goto (tgt := 147) hx hb dX7_kindBySpelling_143 (by decide) ?_
                  have hP9 := hP.sub (ws' := [(h0, .inr (7, [.ref tl, .ref wa1, .ref wa2, .ref wa3, .ref wa4, .int (nI c), .int sc])), (wa1, .inl (cI, 300, .inl fw1)), (wa2, .inl (cI, 300, .inl fw2)), (wa3, .inl (cI, 300, .inl fw3)), (tl, .inr (5, [.ref ta, .int (nI kt)])), (ta, .inl (cB, 600, .inl ft))]) [0, 1, 2, 3, 4, 5] rfl
                  have hD9 := hD.sub (ws' := [(h0, .inr (7, [.ref tl, .ref wa1, .ref wa2, .ref wa3, .ref wa4, .int (nI c), .int sc])), (wa1, .inl (cI, 300, .inl fw1)), (wa2, .inl (cI, 300, .inl fw2)), (wa3, .inl (cI, 300, .inl fw3)), (tl, .inr (5, [.ref ta, .int (nI kt)])), (ta, .inl (cB, 600, .inl ft))]) [0, 1, 2, 3, 4, 5] (by decide) rfl
                  exact W.iret (v := 7) hx hb hr (fun t ht hW => ⟨⟨7, (), rfl, Or.inl (Or.inr (Or.inr ⟨Or.inr ⟨hhe, hnm⟩, by decide, by decide⟩)), ⟨by rw [ht]; exact hP9, va_K.moved hW.alike hK, hD9⟩⟩, hS.F ht⟩) hS.2.2 dX7_kindBySpelling_147
          · refine lv_bipush (v := 6) hx hb dX7_kindBySpelling_98 (by decide) ?_
            have hP9 := hP.sub (ws' := [(h0, .inr (7, [.ref tl, .ref wa1, .ref wa2, .ref wa3, .ref wa4, .int (nI c), .int sc])), (wa1, .inl (cI, 300, .inl fw1)), (wa2, .inl (cI, 300, .inl fw2)), (wa3, .inl (cI, 300, .inl fw3)), (tl, .inr (5, [.ref ta, .int (nI kt)])), (ta, .inl (cB, 600, .inl ft))]) [0, 1, 2, 3, 4, 5] rfl
            have hD9 := hD.sub (ws' := [(h0, .inr (7, [.ref tl, .ref wa1, .ref wa2, .ref wa3, .ref wa4, .int (nI c), .int sc])), (wa1, .inl (cI, 300, .inl fw1)), (wa2, .inl (cI, 300, .inl fw2)), (wa3, .inl (cI, 300, .inl fw3)), (tl, .inr (5, [.ref ta, .int (nI kt)])), (ta, .inl (cB, 600, .inl ft))]) [0, 1, 2, 3, 4, 5] (by decide) rfl
            exact W.iret (v := 6) hx hb hr (fun t ht hW => ⟨⟨6, (), rfl, Or.inl (Or.inr (Or.inr ⟨Or.inr ⟨hhe, hnm⟩, by decide, by decide⟩)), ⟨by rw [ht]; exact hP9, va_K.moved hW.alike hK, hD9⟩⟩, hS.F ht⟩) hS.2.2 dX7_kindBySpelling_100
        · exact False.elim (by revert c_47; decide)
    · exact False.elim (by revert c_33; decide)
set_option maxHeartbeats 4000000 in
set_option maxRecDepth 100000 in
theorem f_X7_beginsWith (l : Launch) (D : va_G) (cB cI cZ : ClassId) (E : pEt) (sz : Nat) (h0 : Nat) (v0 : Nat) (w0 : Nat) (tl : Nat) (wa1 : Nat) (wa2 : Nat) (wa3 : Nat) (wa4 : Nat) (c : Nat) (sc : Int32) (fw1 : Nat → Int32) (fw2 : Nat → Int32) (fw3 : Nat → Int32) (ta : Nat) (kt : Nat) (ft : Nat → Int32) (tt : Nat → Nat) (wA : Nat → Nat) (wL : Nat → Nat) (wS : Nat → Nat) (hc : c ≤ 300) (hkt : kt ≤ 600) (hQw : qWg tt kt c fw1 fw2 fw3 wA wL wS) (hv0 : v0 < c) (hw0 : w0 < c) (hTx : qT kt ft tt) : Met l yX7_beginsWith (.code yX7_beginsWith cX7_beginsWith 3 (some .boolean) :: wsL_law) ({ frames := 2, cells := 0, slots := 0, locals := 42 } : Room) (va_Pc [.ref h0, .int (nI v0), .int (nI w0)] (pInE E D (pT cB cI cZ) sz [(h0, .inr (7, [.ref tl, .ref wa1, .ref wa2, .ref wa3, .ref wa4, .int (nI c), .int sc])), (wa1, .inl (cI, 300, .inl fw1)), (wa2, .inl (cI, 300, .inl fw2)), (wa3, .inl (cI, 300, .inl fw3)), (tl, .inr (5, [.ref ta, .int (nI kt)])), (ta, .inl (cB, 600, .inl ft))])) (va_Qi (fun (r : Int32) (u : Unit) => ((1 = r) ∧ (wL w0 ≤ wL v0) ∧ (qSam tt wA wL v0 w0)) ∨ ((0 = r) ∧ (¬ (wL w0 ≤ wL v0 ∧ qSam tt wA wL v0 w0)))) (fun (u : Unit) (t : State) => pAt D (pT cB cI cZ) (va_A [(h0, .inr (7, [.ref tl, .ref wa1, .ref wa2, .ref wa3, .ref wa4, .int (nI c), .int sc])), (wa1, .inl (cI, 300, .inl fw1)), (wa2, .inl (cI, 300, .inl fw2)), (wa3, .inl (cI, 300, .inl fw3)), (tl, .inr (5, [.ref ta, .int (nI kt)])), (ta, .inl (cB, 600, .inl ft))] sz) [(h0, .inr (7, [.ref tl, .ref wa1, .ref wa2, .ref wa3, .ref wa4, .int (nI c), .int sc])), (wa1, .inl (cI, 300, .inl fw1)), (wa2, .inl (cI, 300, .inl fw2)), (wa3, .inl (cI, 300, .inl fw3)), (tl, .inr (5, [.ref ta, .int (nI kt)])), (ta, .inl (cB, 600, .inl ft))] t) (va_A [(h0, .inr (7, [.ref tl, .ref wa1, .ref wa2, .ref wa3, .ref wa4, .int (nI c), .int sc])), (wa1, .inl (cI, 300, .inl fw1)), (wa2, .inl (cI, 300, .inl fw2)), (wa3, .inl (cI, 300, .inl fw3)), (tl, .inr (5, [.ref ta, .int (nI kt)])), (ta, .inl (cB, 600, .inl ft))] sz)) 0 0 (va_A [(h0, .inr (7, [.ref tl, .ref wa1, .ref wa2, .ref wa3, .ref wa4, .int (nI c), .int sc])), (wa1, .inl (cI, 300, .inl fw1)), (wa2, .inl (cI, 300, .inl fw2)), (wa3, .inl (cI, 300, .inl fw3)), (tl, .inr (5, [.ref ta, .int (nI kt)])), (ta, .inl (cB, 600, .inl ft))] sz) := by
  refine Met.ofW (cc := cX7_beginsWith) (maxL := 3) (ret := (some .boolean)) (by decide) rfl ?_
  intro p e s m args below meth cd s₁ B hml hv
  obtain ⟨rfl, hsz, hP, hK, hD0, hE⟩ := hv
  have hx := B.exec
  have hb := B.bytes
  have hr := B.returns
  have hts0 := atoms_spec (ws := .code yX7_beginsWith cX7_beginsWith 3 (some .boolean) :: wsL_law) B.pre
  have hts := fun (w : Cond) (h : w ∈ wsL_law) => hts0 w (List.mem_cons_of_mem _ h)
  have hown : s.vm.findClass RX7 = some m.cls := findClass_of_methodNamed B.named
  have hlocks := B.notSynchronized
  have hinX7 := inlX7
  subst hsz
  have hD := hD0.self (sz := s.heap.size)
  generalize hAe : va_A [(h0, .inr (7, [.ref tl, .ref wa1, .ref wa2, .ref wa3, .ref wa4, .int (nI c), .int sc])), (wa1, .inl (cI, 300, .inl fw1)), (wa2, .inl (cI, 300, .inl fw2)), (wa3, .inl (cI, 300, .inl fw3)), (tl, .inr (5, [.ref ta, .int (nI kt)])), (ta, .inl (cB, 600, .inl ft))] s.heap.size = A at hD hE ⊢
  have hA : ∀ q : Nat, s.heap.size ≤ q → A q := fun q h => by rw [← hAe]; exact Or.inr h
  have hS : va_S A s.heap s.heap [] := va_S.rf
  have hP : va_P D vwCl [(h0, .inr (7, [.ref tl, .ref wa1, .ref wa2, .ref wa3, .ref wa4, .int (nI c), .int sc])), (wa1, .inl (cI, 300, .inl fw1)), (wa2, .inl (cI, 300, .inl fw2)), (wa3, .inl (cI, 300, .inl fw3)), (tl, .inr (5, [.ref ta, .int (nI kt)])), (ta, .inl (cB, 600, .inl ft))] s.heap := hP
  have hl := lv_entry ([.ref h0, .int (nI v0), .int (nI w0)]) (n := 3) (Nat.le_of_ble_eq_true rfl)
  rw [lg_entry_eq]
  generalize (lg_sl ([.ref h0, .int (nI v0), .int (nI w0)]) ++ List.replicate (3 - (lg_sl ([.ref h0, .int (nI v0), .int (nI w0)])).length) Slot.unset).toArray = ls at hl ⊢
  have hl : lv_has ls 3 [(0, .ref h0), (1, .int (nI v0)), (2, .int (nI w0))] := hl
  have b1 := (hQw w0 hw0).2.2.2.1
  have b2 := (hQw v0 hv0).2.2.2.1
  refine lv_aload_n hx hb dX7_beginsWith_0 rfl (lv_at hl 0 rfl) ?_
  refine lv_iload_n hx hb dX7_beginsWith_1 rfl (lv_at hl 2 rfl) ?_
  have hPc := hP.sub (ws' := [(h0, .inr (7, [.ref tl, .ref wa1, .ref wa2, .ref wa3, .ref wa4, .int (nI c), .int sc])), (wa1, .inl (cI, 300, .inl fw1)), (wa2, .inl (cI, 300, .inl fw2)), (wa3, .inl (cI, 300, .inl fw3)), (tl, .inr (5, [.ref ta, .int (nI kt)])), (ta, .inl (cB, 600, .inl ft))]) [0, 1, 2, 3, 4, 5] rfl
  have hDc := hD.sub (ws' := [(h0, .inr (7, [.ref tl, .ref wa1, .ref wa2, .ref wa3, .ref wa4, .int (nI c), .int sc])), (wa1, .inl (cI, 300, .inl fw1)), (wa2, .inl (cI, 300, .inl fw2)), (wa3, .inl (cI, 300, .inl fw3)), (tl, .inr (5, [.ref ta, .int (nI kt)])), (ta, .inl (cB, 600, .inl ft))]) [0, 1, 2, 3, 4, 5] (by decide) rfl
  have hFc := va_free (wc := [(h0, .inr (7, [.ref tl, .ref wa1, .ref wa2, .ref wa3, .ref wa4, .int (nI c), .int sc])), (wa1, .inl (cI, 300, .inl fw1)), (wa2, .inl (cI, 300, .inl fw2)), (wa3, .inl (cI, 300, .inl fw3)), (tl, .inr (5, [.ref ta, .int (nI kt)])), (ta, .inl (cB, 600, .inl ft))]) hD hS hA [0, 1, 2, 3, 4, 5] rfl
  refine va_calli (va_runV (As := [.int (nI w0)]) (rest := []) ⟨hx, hb, hml, hown, hts⟩ (f_X7_lengthOf l D cB cI cZ E s.heap.size h0 w0 tl wa1 wa2 wa3 wa4 c sc fw1 fw2 fw3 ta kt ft tt wA wL wS (by first | assumption | omega) (by first | assumption | omega) (by first | assumption | omega) (by first | assumption | omega)) (cwV 1 hts (uV (uc11 _ (List.mem_of_getElem? (i := 12) rfl)) (uc11 _ (List.mem_of_getElem? (i := 13) rfl)) (uc11 _ (List.mem_of_getElem? (i := 14) rfl)) (uc1 _ (List.mem_of_getElem? (i := 18) rfl)) (uc11 _ (List.mem_of_getElem? (i := 15) rfl))) rfl rfl rfl (by decide +kernel) ⟨Nat.le_of_ble_eq_true rfl, Nat.le_of_ble_eq_true rfl⟩) (pVE hE hS hFc hK hPc hDc 0 rfl rfl) rfl rfl hl.1 rfl (lv_room (Nat.le_of_ble_eq_true rfl)) dX7_beginsWith_2 ⟨Nat.le_of_ble_eq_true rfl, Nat.le_of_ble_eq_true rfl⟩) hS (fun q _ h => hFc q h) hFc (fun r_1 u t H_2 L_3 ht hvm hw hB hz1 hk1 hS => ?_)
  obtain ⟨hP1, -, hD1⟩ := hB
  rw [ht] at hP1
  obtain ⟨hP, hD⟩ := va_join (wr := []) (w1 := [(h0, .inr (7, [.ref tl, .ref wa1, .ref wa2, .ref wa3, .ref wa4, .int (nI c), .int sc])), (wa1, .inl (cI, 300, .inl fw1)), (wa2, .inl (cI, 300, .inl fw2)), (wa3, .inl (cI, 300, .inl fw3)), (tl, .inr (5, [.ref ta, .int (nI kt)])), (ta, .inl (cB, 600, .inl ft))]) hP hD [0, 1, 2, 3, 4, 5] [] rfl rfl (by decide) (by decide) hk1 hFc hP1 hD1
  have hP : va_P D vwCl [(h0, .inr (7, [.ref tl, .ref wa1, .ref wa2, .ref wa3, .ref wa4, .int (nI c), .int sc])), (wa1, .inl (cI, 300, .inl fw1)), (wa2, .inl (cI, 300, .inl fw2)), (wa3, .inl (cI, 300, .inl fw3)), (tl, .inr (5, [.ref ta, .int (nI kt)])), (ta, .inl (cB, 600, .inl ft))] H_2 := hP.sub [0, 1, 2, 3, 4, 5] rfl
  have hD : va_D A [(h0, .inr (7, [.ref tl, .ref wa1, .ref wa2, .ref wa3, .ref wa4, .int (nI c), .int sc])), (wa1, .inl (cI, 300, .inl fw1)), (wa2, .inl (cI, 300, .inl fw2)), (wa3, .inl (cI, 300, .inl fw3)), (tl, .inr (5, [.ref ta, .int (nI kt)])), (ta, .inl (cB, 600, .inl ft))] := hD.sub [0, 1, 2, 3, 4, 5] (by decide) rfl
  try dsimp only at hw
  subst hw
  refine lv_aload_n hx hb dX7_beginsWith_5 rfl (lv_at hl 0 rfl) ?_
  refine lv_iload_n hx hb dX7_beginsWith_6 rfl (lv_at hl 1 rfl) ?_
  have hPc := hP.sub (ws' := [(h0, .inr (7, [.ref tl, .ref wa1, .ref wa2, .ref wa3, .ref wa4, .int (nI c), .int sc])), (wa1, .inl (cI, 300, .inl fw1)), (wa2, .inl (cI, 300, .inl fw2)), (wa3, .inl (cI, 300, .inl fw3)), (tl, .inr (5, [.ref ta, .int (nI kt)])), (ta, .inl (cB, 600, .inl ft))]) [0, 1, 2, 3, 4, 5] rfl
  have hDc := hD.sub (ws' := [(h0, .inr (7, [.ref tl, .ref wa1, .ref wa2, .ref wa3, .ref wa4, .int (nI c), .int sc])), (wa1, .inl (cI, 300, .inl fw1)), (wa2, .inl (cI, 300, .inl fw2)), (wa3, .inl (cI, 300, .inl fw3)), (tl, .inr (5, [.ref ta, .int (nI kt)])), (ta, .inl (cB, 600, .inl ft))]) [0, 1, 2, 3, 4, 5] (by decide) rfl
  have hFc := va_free (wc := [(h0, .inr (7, [.ref tl, .ref wa1, .ref wa2, .ref wa3, .ref wa4, .int (nI c), .int sc])), (wa1, .inl (cI, 300, .inl fw1)), (wa2, .inl (cI, 300, .inl fw2)), (wa3, .inl (cI, 300, .inl fw3)), (tl, .inr (5, [.ref ta, .int (nI kt)])), (ta, .inl (cB, 600, .inl ft))]) hD hS hA [0, 1, 2, 3, 4, 5] rfl
  refine va_calli (va_runV (As := [.int (nI v0)]) (rest := [.int (nI (wL w0))]) ⟨hx, hb, hml, hown, hts⟩ (f_X7_lengthOf l D cB cI cZ E H_2.size h0 v0 tl wa1 wa2 wa3 wa4 c sc fw1 fw2 fw3 ta kt ft tt wA wL wS (by first | assumption | omega) (by first | assumption | omega) (by first | assumption | omega) (by first | assumption | omega)) (cwV 1 hts (uV (uc11 _ (List.mem_of_getElem? (i := 12) rfl)) (uc11 _ (List.mem_of_getElem? (i := 13) rfl)) (uc11 _ (List.mem_of_getElem? (i := 14) rfl)) (uc1 _ (List.mem_of_getElem? (i := 18) rfl)) (uc11 _ (List.mem_of_getElem? (i := 15) rfl))) rfl rfl rfl (by decide +kernel) ⟨Nat.le_of_ble_eq_true rfl, Nat.le_of_ble_eq_true rfl⟩) (pVE hE hS hFc hK hPc hDc 0 rfl rfl) rfl rfl hl.1 rfl (lv_room (Nat.le_of_ble_eq_true rfl)) dX7_beginsWith_7 ⟨Nat.le_of_ble_eq_true rfl, Nat.le_of_ble_eq_true rfl⟩) hS (fun q _ h => hFc q h) hFc (fun r_4 u t H_5 L_6 ht hvm hw hB hz1 hk1 hS => ?_)
  obtain ⟨hP1, -, hD1⟩ := hB
  rw [ht] at hP1
  obtain ⟨hP, hD⟩ := va_join (wr := []) (w1 := [(h0, .inr (7, [.ref tl, .ref wa1, .ref wa2, .ref wa3, .ref wa4, .int (nI c), .int sc])), (wa1, .inl (cI, 300, .inl fw1)), (wa2, .inl (cI, 300, .inl fw2)), (wa3, .inl (cI, 300, .inl fw3)), (tl, .inr (5, [.ref ta, .int (nI kt)])), (ta, .inl (cB, 600, .inl ft))]) hP hD [0, 1, 2, 3, 4, 5] [] rfl rfl (by decide) (by decide) hk1 hFc hP1 hD1
  have hP : va_P D vwCl [(h0, .inr (7, [.ref tl, .ref wa1, .ref wa2, .ref wa3, .ref wa4, .int (nI c), .int sc])), (wa1, .inl (cI, 300, .inl fw1)), (wa2, .inl (cI, 300, .inl fw2)), (wa3, .inl (cI, 300, .inl fw3)), (tl, .inr (5, [.ref ta, .int (nI kt)])), (ta, .inl (cB, 600, .inl ft))] H_5 := hP.sub [0, 1, 2, 3, 4, 5] rfl
  have hD : va_D A [(h0, .inr (7, [.ref tl, .ref wa1, .ref wa2, .ref wa3, .ref wa4, .int (nI c), .int sc])), (wa1, .inl (cI, 300, .inl fw1)), (wa2, .inl (cI, 300, .inl fw2)), (wa3, .inl (cI, 300, .inl fw3)), (tl, .inr (5, [.ref ta, .int (nI kt)])), (ta, .inl (cB, 600, .inl ft))] := hD.sub [0, 1, 2, 3, 4, 5] (by decide) rfl
  try dsimp only at hw
  subst hw
  refine lv_icmp_gt (tgt := 46) hx hb dX7_beginsWith_10 (by decide) (fun c_7 => ?_) (fun c_7 => ?_)
  · have hgt : wL v0 < wL w0 := (nI_ltI (by omega) (by omega)).mp c_7
    refine lv_iconst (v := 0) hx hb dX7_beginsWith_46 (by decide) ?_
    have hP9 := hP.sub (ws' := [(h0, .inr (7, [.ref tl, .ref wa1, .ref wa2, .ref wa3, .ref wa4, .int (nI c), .int sc])), (wa1, .inl (cI, 300, .inl fw1)), (wa2, .inl (cI, 300, .inl fw2)), (wa3, .inl (cI, 300, .inl fw3)), (tl, .inr (5, [.ref ta, .int (nI kt)])), (ta, .inl (cB, 600, .inl ft))]) [0, 1, 2, 3, 4, 5] rfl
    have hD9 := hD.sub (ws' := [(h0, .inr (7, [.ref tl, .ref wa1, .ref wa2, .ref wa3, .ref wa4, .int (nI c), .int sc])), (wa1, .inl (cI, 300, .inl fw1)), (wa2, .inl (cI, 300, .inl fw2)), (wa3, .inl (cI, 300, .inl fw3)), (tl, .inr (5, [.ref ta, .int (nI kt)])), (ta, .inl (cB, 600, .inl ft))]) [0, 1, 2, 3, 4, 5] (by decide) rfl
    exact W.zret (v := 0) hx hb hr (rfl) (fun t ht hW => ⟨⟨0, (), rfl, Or.inr ((⟨rfl, by first | exact (fun q => hs q.2) | exact (fun q => absurd q.1 (by omega))⟩)), ⟨by rw [ht]; exact hP9, va_K.moved hW.alike hK, hD9⟩⟩, hS.F ht⟩) hS.2.2 dX7_beginsWith_47
  · have hle : wL w0 ≤ wL v0 := Nat.le_of_not_lt (fun q => c_7 (nI_lt q (by omega)))
    refine lv_aload_n hx hb dX7_beginsWith_13 rfl (lv_at hl 0 rfl) ?_
    refine va_get (D := D) (ci := 7) (v := .ref tl) (C := RX7) (T := TX7) (N := 7) hx hb hts hinX7 hown hK hP 0 rfl rfl 0 (by decide) (hts (.fieldLink RX7 14 "TaleReader$Words" "tale" "LTaleReader$Text;") (uc3 _ (List.mem_of_getElem? (i := 12) rfl))) (fun _ h9 => h9) rfl dX7_beginsWith_14 ?_
    refine lv_aload_n hx hb dX7_beginsWith_17 rfl (lv_at hl 0 rfl) ?_
    refine lv_iload_n hx hb dX7_beginsWith_18 rfl (lv_at hl 1 rfl) ?_
    have hPc := hP.sub (ws' := [(h0, .inr (7, [.ref tl, .ref wa1, .ref wa2, .ref wa3, .ref wa4, .int (nI c), .int sc])), (wa1, .inl (cI, 300, .inl fw1)), (wa2, .inl (cI, 300, .inl fw2)), (wa3, .inl (cI, 300, .inl fw3)), (tl, .inr (5, [.ref ta, .int (nI kt)])), (ta, .inl (cB, 600, .inl ft))]) [0, 1, 2, 3, 4, 5] rfl
    have hDc := hD.sub (ws' := [(h0, .inr (7, [.ref tl, .ref wa1, .ref wa2, .ref wa3, .ref wa4, .int (nI c), .int sc])), (wa1, .inl (cI, 300, .inl fw1)), (wa2, .inl (cI, 300, .inl fw2)), (wa3, .inl (cI, 300, .inl fw3)), (tl, .inr (5, [.ref ta, .int (nI kt)])), (ta, .inl (cB, 600, .inl ft))]) [0, 1, 2, 3, 4, 5] (by decide) rfl
    have hFc := va_free (wc := [(h0, .inr (7, [.ref tl, .ref wa1, .ref wa2, .ref wa3, .ref wa4, .int (nI c), .int sc])), (wa1, .inl (cI, 300, .inl fw1)), (wa2, .inl (cI, 300, .inl fw2)), (wa3, .inl (cI, 300, .inl fw3)), (tl, .inr (5, [.ref ta, .int (nI kt)])), (ta, .inl (cB, 600, .inl ft))]) hD hS hA [0, 1, 2, 3, 4, 5] rfl
    refine va_calli (va_runV (As := [.int (nI v0)]) (rest := [.ref tl]) ⟨hx, hb, hml, hown, hts⟩ (f_X7_placeOf l D cB cI cZ E H_5.size h0 v0 tl wa1 wa2 wa3 wa4 c sc fw1 fw2 fw3 ta kt ft tt wA wL wS (by first | assumption | omega) (by first | assumption | omega) (by first | assumption | omega) (by first | assumption | omega)) (cwV 1 hts (uV (uc11 _ (List.mem_of_getElem? (i := 4) rfl)) (uc11 _ (List.mem_of_getElem? (i := 5) rfl)) (uc11 _ (List.mem_of_getElem? (i := 6) rfl)) (uc1 _ (List.mem_of_getElem? (i := 18) rfl)) (uc11 _ (List.mem_of_getElem? (i := 7) rfl))) rfl rfl rfl (by decide +kernel) ⟨Nat.le_of_ble_eq_true rfl, Nat.le_of_ble_eq_true rfl⟩) (pVE hE hS hFc hK hPc hDc 0 rfl rfl) rfl rfl hl.1 rfl (lv_room (Nat.le_of_ble_eq_true rfl)) dX7_beginsWith_19 ⟨Nat.le_of_ble_eq_true rfl, Nat.le_of_ble_eq_true rfl⟩) hS (fun q _ h => hFc q h) hFc (fun r_8 u t H_9 L_10 ht hvm hw hB hz1 hk1 hS => ?_)
    obtain ⟨hP1, -, hD1⟩ := hB
    rw [ht] at hP1
    obtain ⟨hP, hD⟩ := va_join (wr := []) (w1 := [(h0, .inr (7, [.ref tl, .ref wa1, .ref wa2, .ref wa3, .ref wa4, .int (nI c), .int sc])), (wa1, .inl (cI, 300, .inl fw1)), (wa2, .inl (cI, 300, .inl fw2)), (wa3, .inl (cI, 300, .inl fw3)), (tl, .inr (5, [.ref ta, .int (nI kt)])), (ta, .inl (cB, 600, .inl ft))]) hP hD [0, 1, 2, 3, 4, 5] [] rfl rfl (by decide) (by decide) hk1 hFc hP1 hD1
    have hP : va_P D vwCl [(h0, .inr (7, [.ref tl, .ref wa1, .ref wa2, .ref wa3, .ref wa4, .int (nI c), .int sc])), (wa1, .inl (cI, 300, .inl fw1)), (wa2, .inl (cI, 300, .inl fw2)), (wa3, .inl (cI, 300, .inl fw3)), (tl, .inr (5, [.ref ta, .int (nI kt)])), (ta, .inl (cB, 600, .inl ft))] H_9 := hP.sub [0, 1, 2, 3, 4, 5] rfl
    have hD : va_D A [(h0, .inr (7, [.ref tl, .ref wa1, .ref wa2, .ref wa3, .ref wa4, .int (nI c), .int sc])), (wa1, .inl (cI, 300, .inl fw1)), (wa2, .inl (cI, 300, .inl fw2)), (wa3, .inl (cI, 300, .inl fw3)), (tl, .inr (5, [.ref ta, .int (nI kt)])), (ta, .inl (cB, 600, .inl ft))] := hD.sub [0, 1, 2, 3, 4, 5] (by decide) rfl
    try dsimp only at hw
    subst hw
    refine lv_aload_n hx hb dX7_beginsWith_22 rfl (lv_at hl 0 rfl) ?_
    refine va_get (D := D) (ci := 7) (v := .ref tl) (C := RX7) (T := TX7) (N := 7) hx hb hts hinX7 hown hK hP 0 rfl rfl 0 (by decide) (hts (.fieldLink RX7 14 "TaleReader$Words" "tale" "LTaleReader$Text;") (uc3 _ (List.mem_of_getElem? (i := 12) rfl))) (fun _ h9 => h9) rfl dX7_beginsWith_23 ?_
    refine lv_aload_n hx hb dX7_beginsWith_26 rfl (lv_at hl 0 rfl) ?_
    refine lv_iload_n hx hb dX7_beginsWith_27 rfl (lv_at hl 2 rfl) ?_
    have hPc := hP.sub (ws' := [(h0, .inr (7, [.ref tl, .ref wa1, .ref wa2, .ref wa3, .ref wa4, .int (nI c), .int sc])), (wa1, .inl (cI, 300, .inl fw1)), (wa2, .inl (cI, 300, .inl fw2)), (wa3, .inl (cI, 300, .inl fw3)), (tl, .inr (5, [.ref ta, .int (nI kt)])), (ta, .inl (cB, 600, .inl ft))]) [0, 1, 2, 3, 4, 5] rfl
    have hDc := hD.sub (ws' := [(h0, .inr (7, [.ref tl, .ref wa1, .ref wa2, .ref wa3, .ref wa4, .int (nI c), .int sc])), (wa1, .inl (cI, 300, .inl fw1)), (wa2, .inl (cI, 300, .inl fw2)), (wa3, .inl (cI, 300, .inl fw3)), (tl, .inr (5, [.ref ta, .int (nI kt)])), (ta, .inl (cB, 600, .inl ft))]) [0, 1, 2, 3, 4, 5] (by decide) rfl
    have hFc := va_free (wc := [(h0, .inr (7, [.ref tl, .ref wa1, .ref wa2, .ref wa3, .ref wa4, .int (nI c), .int sc])), (wa1, .inl (cI, 300, .inl fw1)), (wa2, .inl (cI, 300, .inl fw2)), (wa3, .inl (cI, 300, .inl fw3)), (tl, .inr (5, [.ref ta, .int (nI kt)])), (ta, .inl (cB, 600, .inl ft))]) hD hS hA [0, 1, 2, 3, 4, 5] rfl
    refine va_calli (va_runV (As := [.int (nI w0)]) (rest := [.ref tl, .int (nI (wA v0)), .ref tl]) ⟨hx, hb, hml, hown, hts⟩ (f_X7_placeOf l D cB cI cZ E H_9.size h0 w0 tl wa1 wa2 wa3 wa4 c sc fw1 fw2 fw3 ta kt ft tt wA wL wS (by first | assumption | omega) (by first | assumption | omega) (by first | assumption | omega) (by first | assumption | omega)) (cwV 1 hts (uV (uc11 _ (List.mem_of_getElem? (i := 4) rfl)) (uc11 _ (List.mem_of_getElem? (i := 5) rfl)) (uc11 _ (List.mem_of_getElem? (i := 6) rfl)) (uc1 _ (List.mem_of_getElem? (i := 18) rfl)) (uc11 _ (List.mem_of_getElem? (i := 7) rfl))) rfl rfl rfl (by decide +kernel) ⟨Nat.le_of_ble_eq_true rfl, Nat.le_of_ble_eq_true rfl⟩) (pVE hE hS hFc hK hPc hDc 0 rfl rfl) rfl rfl hl.1 rfl (lv_room (Nat.le_of_ble_eq_true rfl)) dX7_beginsWith_28 ⟨Nat.le_of_ble_eq_true rfl, Nat.le_of_ble_eq_true rfl⟩) hS (fun q _ h => hFc q h) hFc (fun r_11 u t H_12 L_13 ht hvm hw hB hz1 hk1 hS => ?_)
    obtain ⟨hP1, -, hD1⟩ := hB
    rw [ht] at hP1
    obtain ⟨hP, hD⟩ := va_join (wr := []) (w1 := [(h0, .inr (7, [.ref tl, .ref wa1, .ref wa2, .ref wa3, .ref wa4, .int (nI c), .int sc])), (wa1, .inl (cI, 300, .inl fw1)), (wa2, .inl (cI, 300, .inl fw2)), (wa3, .inl (cI, 300, .inl fw3)), (tl, .inr (5, [.ref ta, .int (nI kt)])), (ta, .inl (cB, 600, .inl ft))]) hP hD [0, 1, 2, 3, 4, 5] [] rfl rfl (by decide) (by decide) hk1 hFc hP1 hD1
    have hP : va_P D vwCl [(h0, .inr (7, [.ref tl, .ref wa1, .ref wa2, .ref wa3, .ref wa4, .int (nI c), .int sc])), (wa1, .inl (cI, 300, .inl fw1)), (wa2, .inl (cI, 300, .inl fw2)), (wa3, .inl (cI, 300, .inl fw3)), (tl, .inr (5, [.ref ta, .int (nI kt)])), (ta, .inl (cB, 600, .inl ft))] H_12 := hP.sub [0, 1, 2, 3, 4, 5] rfl
    have hD : va_D A [(h0, .inr (7, [.ref tl, .ref wa1, .ref wa2, .ref wa3, .ref wa4, .int (nI c), .int sc])), (wa1, .inl (cI, 300, .inl fw1)), (wa2, .inl (cI, 300, .inl fw2)), (wa3, .inl (cI, 300, .inl fw3)), (tl, .inr (5, [.ref ta, .int (nI kt)])), (ta, .inl (cB, 600, .inl ft))] := hD.sub [0, 1, 2, 3, 4, 5] (by decide) rfl
    try dsimp only at hw
    subst hw
    refine lv_aload_n hx hb dX7_beginsWith_31 rfl (lv_at hl 0 rfl) ?_
    refine lv_iload_n hx hb dX7_beginsWith_32 rfl (lv_at hl 2 rfl) ?_
    have hPc := hP.sub (ws' := [(h0, .inr (7, [.ref tl, .ref wa1, .ref wa2, .ref wa3, .ref wa4, .int (nI c), .int sc])), (wa1, .inl (cI, 300, .inl fw1)), (wa2, .inl (cI, 300, .inl fw2)), (wa3, .inl (cI, 300, .inl fw3)), (tl, .inr (5, [.ref ta, .int (nI kt)])), (ta, .inl (cB, 600, .inl ft))]) [0, 1, 2, 3, 4, 5] rfl
    have hDc := hD.sub (ws' := [(h0, .inr (7, [.ref tl, .ref wa1, .ref wa2, .ref wa3, .ref wa4, .int (nI c), .int sc])), (wa1, .inl (cI, 300, .inl fw1)), (wa2, .inl (cI, 300, .inl fw2)), (wa3, .inl (cI, 300, .inl fw3)), (tl, .inr (5, [.ref ta, .int (nI kt)])), (ta, .inl (cB, 600, .inl ft))]) [0, 1, 2, 3, 4, 5] (by decide) rfl
    have hFc := va_free (wc := [(h0, .inr (7, [.ref tl, .ref wa1, .ref wa2, .ref wa3, .ref wa4, .int (nI c), .int sc])), (wa1, .inl (cI, 300, .inl fw1)), (wa2, .inl (cI, 300, .inl fw2)), (wa3, .inl (cI, 300, .inl fw3)), (tl, .inr (5, [.ref ta, .int (nI kt)])), (ta, .inl (cB, 600, .inl ft))]) hD hS hA [0, 1, 2, 3, 4, 5] rfl
    refine va_calli (va_runV (As := [.int (nI w0)]) (rest := [.int (nI (wA w0)), .ref tl, .int (nI (wA v0)), .ref tl]) ⟨hx, hb, hml, hown, hts⟩ (f_X7_lengthOf l D cB cI cZ E H_12.size h0 w0 tl wa1 wa2 wa3 wa4 c sc fw1 fw2 fw3 ta kt ft tt wA wL wS (by first | assumption | omega) (by first | assumption | omega) (by first | assumption | omega) (by first | assumption | omega)) (cwV 1 hts (uV (uc11 _ (List.mem_of_getElem? (i := 12) rfl)) (uc11 _ (List.mem_of_getElem? (i := 13) rfl)) (uc11 _ (List.mem_of_getElem? (i := 14) rfl)) (uc1 _ (List.mem_of_getElem? (i := 18) rfl)) (uc11 _ (List.mem_of_getElem? (i := 15) rfl))) rfl rfl rfl (by decide +kernel) ⟨Nat.le_of_ble_eq_true rfl, Nat.le_of_ble_eq_true rfl⟩) (pVE hE hS hFc hK hPc hDc 0 rfl rfl) rfl rfl hl.1 rfl (lv_room (Nat.le_of_ble_eq_true rfl)) dX7_beginsWith_33 ⟨Nat.le_of_ble_eq_true rfl, Nat.le_of_ble_eq_true rfl⟩) hS (fun q _ h => hFc q h) hFc (fun r_14 u t H_15 L_16 ht hvm hw hB hz1 hk1 hS => ?_)
    obtain ⟨hP1, -, hD1⟩ := hB
    rw [ht] at hP1
    obtain ⟨hP, hD⟩ := va_join (wr := []) (w1 := [(h0, .inr (7, [.ref tl, .ref wa1, .ref wa2, .ref wa3, .ref wa4, .int (nI c), .int sc])), (wa1, .inl (cI, 300, .inl fw1)), (wa2, .inl (cI, 300, .inl fw2)), (wa3, .inl (cI, 300, .inl fw3)), (tl, .inr (5, [.ref ta, .int (nI kt)])), (ta, .inl (cB, 600, .inl ft))]) hP hD [0, 1, 2, 3, 4, 5] [] rfl rfl (by decide) (by decide) hk1 hFc hP1 hD1
    have hP : va_P D vwCl [(h0, .inr (7, [.ref tl, .ref wa1, .ref wa2, .ref wa3, .ref wa4, .int (nI c), .int sc])), (wa1, .inl (cI, 300, .inl fw1)), (wa2, .inl (cI, 300, .inl fw2)), (wa3, .inl (cI, 300, .inl fw3)), (tl, .inr (5, [.ref ta, .int (nI kt)])), (ta, .inl (cB, 600, .inl ft))] H_15 := hP.sub [0, 1, 2, 3, 4, 5] rfl
    have hD : va_D A [(h0, .inr (7, [.ref tl, .ref wa1, .ref wa2, .ref wa3, .ref wa4, .int (nI c), .int sc])), (wa1, .inl (cI, 300, .inl fw1)), (wa2, .inl (cI, 300, .inl fw2)), (wa3, .inl (cI, 300, .inl fw3)), (tl, .inr (5, [.ref ta, .int (nI kt)])), (ta, .inl (cB, 600, .inl ft))] := hD.sub [0, 1, 2, 3, 4, 5] (by decide) rfl
    try dsimp only at hw
    subst hw
    have hPc := hP.sub (ws' := [(tl, .inr (5, [.ref ta, .int (nI kt)])), (ta, .inl (cB, 600, .inl ft))]) [4, 5] rfl
    have hDc := hD.sub (ws' := [(tl, .inr (5, [.ref ta, .int (nI kt)])), (ta, .inl (cB, 600, .inl ft))]) [4, 5] (by decide) rfl
    have hFc := va_free (wc := [(tl, .inr (5, [.ref ta, .int (nI kt)])), (ta, .inl (cB, 600, .inl ft))]) hD hS hA [4, 5] rfl
    refine va_calli (va_runV (As := [.int (nI (wA v0)), .ref tl, .int (nI (wA w0)), .int (nI (wL w0))]) (rest := []) ⟨hx, hb, hml, hown, hts⟩ (f_X5_sameAs1 l D cB cI cZ E H_15.size tl (wA v0) (wA w0) (wL w0) ta kt 600 ft tt (by first | assumption | omega) (by first | assumption | omega) (by first | assumption | omega) (by first | assumption | omega) (by first | assumption | omega)) (cwV 4 hts (uV (uc15 _ (List.mem_of_getElem? (i := 5) rfl)) (uc15 _ (List.mem_of_getElem? (i := 6) rfl)) (uc15 _ (List.mem_of_getElem? (i := 7) rfl)) (uc1 _ (List.mem_of_getElem? (i := 14) rfl)) (uc15 _ (List.mem_of_getElem? (i := 8) rfl))) rfl rfl rfl (by decide +kernel) ⟨Nat.le_of_ble_eq_true rfl, Nat.le_of_ble_eq_true rfl⟩) (pVE hE hS hFc hK hPc hDc 0 rfl rfl) rfl rfl hl.1 rfl (lv_room (Nat.le_of_ble_eq_true rfl)) dX7_beginsWith_36 ⟨Nat.le_of_ble_eq_true rfl, Nat.le_of_ble_eq_true rfl⟩) hS (fun q _ h => hFc q h) hFc (fun r_17 u t H_18 L_19 ht hvm hw hB hz1 hk1 hS => ?_)
    obtain ⟨hP1, -, hD1⟩ := hB
    rw [ht] at hP1
    obtain ⟨hP, hD⟩ := va_join (wr := [(h0, .inr (7, [.ref tl, .ref wa1, .ref wa2, .ref wa3, .ref wa4, .int (nI c), .int sc])), (wa1, .inl (cI, 300, .inl fw1)), (wa2, .inl (cI, 300, .inl fw2)), (wa3, .inl (cI, 300, .inl fw3))]) (w1 := [(tl, .inr (5, [.ref ta, .int (nI kt)])), (ta, .inl (cB, 600, .inl ft))]) hP hD [4, 5] [0, 1, 2, 3] rfl rfl (by decide) (by decide) hk1 hFc hP1 hD1
    have hP : va_P D vwCl [(h0, .inr (7, [.ref tl, .ref wa1, .ref wa2, .ref wa3, .ref wa4, .int (nI c), .int sc])), (wa1, .inl (cI, 300, .inl fw1)), (wa2, .inl (cI, 300, .inl fw2)), (wa3, .inl (cI, 300, .inl fw3)), (tl, .inr (5, [.ref ta, .int (nI kt)])), (ta, .inl (cB, 600, .inl ft))] H_18 := hP.sub [0, 1, 2, 3, 4, 5] rfl
    have hD : va_D A [(h0, .inr (7, [.ref tl, .ref wa1, .ref wa2, .ref wa3, .ref wa4, .int (nI c), .int sc])), (wa1, .inl (cI, 300, .inl fw1)), (wa2, .inl (cI, 300, .inl fw2)), (wa3, .inl (cI, 300, .inl fw3)), (tl, .inr (5, [.ref ta, .int (nI kt)])), (ta, .inl (cB, 600, .inl ft))] := hD.sub [0, 1, 2, 3, 4, 5] (by decide) rfl
    try dsimp only at hw
    rcases hw with ⟨rfl, h_20⟩ | ⟨rfl, h_21⟩
    · have hs := h_20
      refine lv_if_eq (tgt := 46) hx hb dX7_beginsWith_39 (by decide) (fun c_22 => ?_) (fun c_22 => ?_)
      · exact False.elim (by revert c_22; decide)
      · refine lv_iconst (v := 1) hx hb dX7_beginsWith_42 (by decide) ?_
        refine lv_goto (tgt := 47) hx hb dX7_beginsWith_43 (by decide) ?_
        have hP9 := hP.sub (ws' := [(h0, .inr (7, [.ref tl, .ref wa1, .ref wa2, .ref wa3, .ref wa4, .int (nI c), .int sc])), (wa1, .inl (cI, 300, .inl fw1)), (wa2, .inl (cI, 300, .inl fw2)), (wa3, .inl (cI, 300, .inl fw3)), (tl, .inr (5, [.ref ta, .int (nI kt)])), (ta, .inl (cB, 600, .inl ft))]) [0, 1, 2, 3, 4, 5] rfl
        have hD9 := hD.sub (ws' := [(h0, .inr (7, [.ref tl, .ref wa1, .ref wa2, .ref wa3, .ref wa4, .int (nI c), .int sc])), (wa1, .inl (cI, 300, .inl fw1)), (wa2, .inl (cI, 300, .inl fw2)), (wa3, .inl (cI, 300, .inl fw3)), (tl, .inr (5, [.ref ta, .int (nI kt)])), (ta, .inl (cB, 600, .inl ft))]) [0, 1, 2, 3, 4, 5] (by decide) rfl
        exact W.zret (v := 1) hx hb hr (rfl) (fun t ht hW => ⟨⟨1, (), rfl, Or.inl (⟨rfl, hle, hs⟩), ⟨by rw [ht]; exact hP9, va_K.moved hW.alike hK, hD9⟩⟩, hS.F ht⟩) hS.2.2 dX7_beginsWith_47
    · have hs := h_21
      refine lv_if_eq (tgt := 46) hx hb dX7_beginsWith_39 (by decide) (fun c_23 => ?_) (fun c_23 => ?_)
      · refine lv_iconst (v := 0) hx hb dX7_beginsWith_46 (by decide) ?_
        have hP9 := hP.sub (ws' := [(h0, .inr (7, [.ref tl, .ref wa1, .ref wa2, .ref wa3, .ref wa4, .int (nI c), .int sc])), (wa1, .inl (cI, 300, .inl fw1)), (wa2, .inl (cI, 300, .inl fw2)), (wa3, .inl (cI, 300, .inl fw3)), (tl, .inr (5, [.ref ta, .int (nI kt)])), (ta, .inl (cB, 600, .inl ft))]) [0, 1, 2, 3, 4, 5] rfl
        have hD9 := hD.sub (ws' := [(h0, .inr (7, [.ref tl, .ref wa1, .ref wa2, .ref wa3, .ref wa4, .int (nI c), .int sc])), (wa1, .inl (cI, 300, .inl fw1)), (wa2, .inl (cI, 300, .inl fw2)), (wa3, .inl (cI, 300, .inl fw3)), (tl, .inr (5, [.ref ta, .int (nI kt)])), (ta, .inl (cB, 600, .inl ft))]) [0, 1, 2, 3, 4, 5] (by decide) rfl
        exact W.zret (v := 0) hx hb hr (rfl) (fun t ht hW => ⟨⟨0, (), rfl, Or.inr ((⟨rfl, by first | exact (fun q => hs q.2) | exact (fun q => absurd q.1 (by omega))⟩)), ⟨by rw [ht]; exact hP9, va_K.moved hW.alike hK, hD9⟩⟩, hS.F ht⟩) hS.2.2 dX7_beginsWith_47
      · exact False.elim (by revert c_23; decide)
set_option maxHeartbeats 4000000 in
set_option maxRecDepth 100000 in
theorem f_X7_isNameInsideSentence (l : Launch) (D : va_G) (cB cI cZ : ClassId) (E : pEt) (sz : Nat) (h0 : Nat) (w0 : Nat) (tl : Nat) (wa1 : Nat) (wa2 : Nat) (wa3 : Nat) (wa4 : Nat) (c : Nat) (sc : Int32) (fw1 : Nat → Int32) (fw2 : Nat → Int32) (fw3 : Nat → Int32) (ta : Nat) (kt : Nat) (ft : Nat → Int32) (fw4 : Nat → Int32) (tt : Nat → Nat) (wA : Nat → Nat) (wL : Nat → Nat) (wS : Nat → Nat) (hc : c ≤ 300) (hkt : kt ≤ 600) (hQw : qWg tt kt c fw1 fw2 fw3 wA wL wS) (hw0 : w0 < c) (hTx : qT kt ft tt) : Met l yX7_isNameInsideSentence (.code yX7_isNameInsideSentence cX7_isNameInsideSentence 3 (some .boolean) :: wsL_law) ({ frames := 3, cells := 0, slots := 0, locals := 64 } : Room) (va_Pc [.ref h0, .int (nI w0)] (pInE E D (pT cB cI cZ) sz [(h0, .inr (7, [.ref tl, .ref wa1, .ref wa2, .ref wa3, .ref wa4, .int (nI c), .int sc])), (wa1, .inl (cI, 300, .inl fw1)), (wa2, .inl (cI, 300, .inl fw2)), (wa3, .inl (cI, 300, .inl fw3)), (tl, .inr (5, [.ref ta, .int (nI kt)])), (ta, .inl (cB, 600, .inl ft)), (wa4, .inl (cI, 300, .inl fw4))])) (va_Qi (fun (r : Int32) (u : Unit) => ((1 = r) ∧ (∃ v, v < c ∧ fw4 v = 0 ∧ ¬ qFi wS v ∧ wL v = wL w0 ∧ qSam tt wA wL v w0)) ∨ ((0 = r) ∧ (¬ (∃ v, v < c ∧ fw4 v = 0 ∧ ¬ qFi wS v ∧ wL v = wL w0 ∧ qSam tt wA wL v w0)))) (fun (u : Unit) (t : State) => pAt D (pT cB cI cZ) (va_A [(h0, .inr (7, [.ref tl, .ref wa1, .ref wa2, .ref wa3, .ref wa4, .int (nI c), .int sc])), (wa1, .inl (cI, 300, .inl fw1)), (wa2, .inl (cI, 300, .inl fw2)), (wa3, .inl (cI, 300, .inl fw3)), (tl, .inr (5, [.ref ta, .int (nI kt)])), (ta, .inl (cB, 600, .inl ft)), (wa4, .inl (cI, 300, .inl fw4))] sz) [(h0, .inr (7, [.ref tl, .ref wa1, .ref wa2, .ref wa3, .ref wa4, .int (nI c), .int sc])), (wa1, .inl (cI, 300, .inl fw1)), (wa2, .inl (cI, 300, .inl fw2)), (wa3, .inl (cI, 300, .inl fw3)), (tl, .inr (5, [.ref ta, .int (nI kt)])), (ta, .inl (cB, 600, .inl ft)), (wa4, .inl (cI, 300, .inl fw4))] t) (va_A [(h0, .inr (7, [.ref tl, .ref wa1, .ref wa2, .ref wa3, .ref wa4, .int (nI c), .int sc])), (wa1, .inl (cI, 300, .inl fw1)), (wa2, .inl (cI, 300, .inl fw2)), (wa3, .inl (cI, 300, .inl fw3)), (tl, .inr (5, [.ref ta, .int (nI kt)])), (ta, .inl (cB, 600, .inl ft)), (wa4, .inl (cI, 300, .inl fw4))] sz)) 0 0 (va_A [(h0, .inr (7, [.ref tl, .ref wa1, .ref wa2, .ref wa3, .ref wa4, .int (nI c), .int sc])), (wa1, .inl (cI, 300, .inl fw1)), (wa2, .inl (cI, 300, .inl fw2)), (wa3, .inl (cI, 300, .inl fw3)), (tl, .inr (5, [.ref ta, .int (nI kt)])), (ta, .inl (cB, 600, .inl ft)), (wa4, .inl (cI, 300, .inl fw4))] sz) := by
  refine Met.ofW (cc := cX7_isNameInsideSentence) (maxL := 3) (ret := (some .boolean)) (by decide) rfl ?_
  intro p e s m args below meth cd s₁ B hml hv
  obtain ⟨rfl, hsz, hP, hK, hD0, hE⟩ := hv
  have hx := B.exec
  have hb := B.bytes
  have hr := B.returns
  have hts0 := atoms_spec (ws := .code yX7_isNameInsideSentence cX7_isNameInsideSentence 3 (some .boolean) :: wsL_law) B.pre
  have hts := fun (w : Cond) (h : w ∈ wsL_law) => hts0 w (List.mem_cons_of_mem _ h)
  have hown : s.vm.findClass RX7 = some m.cls := findClass_of_methodNamed B.named
  have hlocks := B.notSynchronized
  have hinX7 := inlX7
  subst hsz
  have hD := hD0.self (sz := s.heap.size)
  generalize hAe : va_A [(h0, .inr (7, [.ref tl, .ref wa1, .ref wa2, .ref wa3, .ref wa4, .int (nI c), .int sc])), (wa1, .inl (cI, 300, .inl fw1)), (wa2, .inl (cI, 300, .inl fw2)), (wa3, .inl (cI, 300, .inl fw3)), (tl, .inr (5, [.ref ta, .int (nI kt)])), (ta, .inl (cB, 600, .inl ft)), (wa4, .inl (cI, 300, .inl fw4))] s.heap.size = A at hD hE ⊢
  have hA : ∀ q : Nat, s.heap.size ≤ q → A q := fun q h => by rw [← hAe]; exact Or.inr h
  have hS : va_S A s.heap s.heap [] := va_S.rf
  have hP : va_P D vwCl [(h0, .inr (7, [.ref tl, .ref wa1, .ref wa2, .ref wa3, .ref wa4, .int (nI c), .int sc])), (wa1, .inl (cI, 300, .inl fw1)), (wa2, .inl (cI, 300, .inl fw2)), (wa3, .inl (cI, 300, .inl fw3)), (tl, .inr (5, [.ref ta, .int (nI kt)])), (ta, .inl (cB, 600, .inl ft)), (wa4, .inl (cI, 300, .inl fw4))] s.heap := hP
  have hl := lv_entry ([.ref h0, .int (nI w0)]) (n := 3) (Nat.le_of_ble_eq_true rfl)
  rw [lg_entry_eq]
  generalize (lg_sl ([.ref h0, .int (nI w0)]) ++ List.replicate (3 - (lg_sl ([.ref h0, .int (nI w0)])).length) Slot.unset).toArray = ls at hl ⊢
  have hl : lv_has ls 3 [(0, .ref h0), (1, .int (nI w0))] := hl
  generalize hQ : MQ below _ _ _ _ _ _ = Q
  have b0 := (hQw w0 hw0).2.2.2.1
  refine lv_iconst (v := 0) hx hb dX7_isNameInsideSentence_0 (by decide) ?_
  refine lv_istore_n (lv' := [(2, .int 0), (0, .ref h0), (1, .int (nI w0))]) hx hb dX7_isNameInsideSentence_1 rfl hl (by decide) rfl (fun ls hl => ?_)
  have loop_1 : ∀ (nn_3 : Nat) (i : Nat), (i ≤ c) → (∀ v, v < i → ¬ (fw4 v = 0 ∧ ¬ qFi wS v ∧ wL v = wL w0 ∧ qSam tt wA wL v w0)) → (c - i < nn_3) → ∀ (H : Heap) (locs : List Loc) (ls : Array Slot), va_P D vwCl [(h0, .inr (7, [.ref tl, .ref wa1, .ref wa2, .ref wa3, .ref wa4, .int (nI c), .int sc])), (wa1, .inl (cI, 300, .inl fw1)), (wa2, .inl (cI, 300, .inl fw2)), (wa3, .inl (cI, 300, .inl fw3)), (tl, .inr (5, [.ref ta, .int (nI kt)])), (ta, .inl (cB, 600, .inl ft)), (wa4, .inl (cI, 300, .inl fw4))] H → va_D A [(h0, .inr (7, [.ref tl, .ref wa1, .ref wa2, .ref wa3, .ref wa4, .int (nI c), .int sc])), (wa1, .inl (cI, 300, .inl fw1)), (wa2, .inl (cI, 300, .inl fw2)), (wa3, .inl (cI, 300, .inl fw3)), (tl, .inr (5, [.ref ta, .int (nI kt)])), (ta, .inl (cB, 600, .inl ft)), (wa4, .inl (cI, 300, .inl fw4))] → va_S A s.heap H locs → lv_has ls 3 [(0, .ref h0), (1, .int (nI w0)), (2, .int (nI i))] → W p l e ({ frames := 3, cells := 0, slots := 0, locals := 64 } : Room) s m ([.ref h0, .int (nI w0)] : List Value).toArray below meth cd H locs 0 0 Q (F0 m 2 ls []) := by
    intro nn_3
    induction nn_3 with
    | zero => intros; exact absurd ‹_ < 0› (Nat.not_lt_zero _)
    | succ nn_3 ih_2 =>
      intro i hic hn_ hmu H locs ls hP hD hS hl
      refine lv_iload_n hx hb dX7_isNameInsideSentence_2 rfl (lv_at hl 2 rfl) ?_
      refine lv_aload_n hx hb dX7_isNameInsideSentence_3 rfl (lv_at hl 0 rfl) ?_
      refine va_get (D := D) (ci := 7) (v := .int (nI c)) (C := RX7) (T := TX7) (N := 7) hx hb hts hinX7 hown hK hP 0 rfl rfl 5 (by decide) (hts (.fieldLink RX7 33 "TaleReader$Words" "count" "I") (uc3 _ (List.mem_of_getElem? (i := 18) rfl))) (fun _ h9 => h9) rfl dX7_isNameInsideSentence_4 ?_
      refine lv_icmp_ge (tgt := 58) hx hb dX7_isNameInsideSentence_7 (by decide) (fun c_4 => ?_) (fun c_4 => ?_)
      · have hge := (nI_leI (by omega) (by omega)).mp c_4
        refine lv_iconst (v := 0) hx hb dX7_isNameInsideSentence_58 (by decide) ?_
        have hP9 := hP.sub (ws' := [(h0, .inr (7, [.ref tl, .ref wa1, .ref wa2, .ref wa3, .ref wa4, .int (nI c), .int sc])), (wa1, .inl (cI, 300, .inl fw1)), (wa2, .inl (cI, 300, .inl fw2)), (wa3, .inl (cI, 300, .inl fw3)), (tl, .inr (5, [.ref ta, .int (nI kt)])), (ta, .inl (cB, 600, .inl ft)), (wa4, .inl (cI, 300, .inl fw4))]) [0, 1, 2, 3, 4, 5, 6] rfl
        have hD9 := hD.sub (ws' := [(h0, .inr (7, [.ref tl, .ref wa1, .ref wa2, .ref wa3, .ref wa4, .int (nI c), .int sc])), (wa1, .inl (cI, 300, .inl fw1)), (wa2, .inl (cI, 300, .inl fw2)), (wa3, .inl (cI, 300, .inl fw3)), (tl, .inr (5, [.ref ta, .int (nI kt)])), (ta, .inl (cB, 600, .inl ft)), (wa4, .inl (cI, 300, .inl fw4))]) [0, 1, 2, 3, 4, 5, 6] (by decide) rfl
        rw [← hQ]
        exact W.zret (v := 0) hx hb hr (rfl) (fun t ht hW => ⟨⟨0, (), rfl, Or.inr ((⟨rfl, fun ⟨v, hv, q⟩ => hn_ v (by omega) q⟩)), ⟨by rw [ht]; exact hP9, va_K.moved hW.alike hK, hD9⟩⟩, hS.F ht⟩) hS.2.2 dX7_isNameInsideSentence_59
      · have hlt_i : i < c := Nat.lt_of_not_le (fun q => c_4 (nI_le q (by omega)))
        have b1 := (hQw i hlt_i).2.2.2.1
        refine lv_aload_n hx hb dX7_isNameInsideSentence_10 rfl (lv_at hl 0 rfl) ?_
        refine va_get (D := D) (ci := 7) (v := .ref wa4) (C := RX7) (T := TX7) (N := 7) hx hb hts hinX7 hown hK hP 0 rfl rfl 4 (by decide) (hts (.fieldLink RX7 30 "TaleReader$Words" "kinds" "[I") (uc3 _ (List.mem_of_getElem? (i := 17) rfl))) (fun _ h9 => h9) rfl dX7_isNameInsideSentence_11 ?_
        refine lv_iload_n hx hb dX7_isNameInsideSentence_14 rfl (lv_at hl 2 rfl) ?_
        refine va_iald (D := D) hx hb hK hP 6 1 rfl rfl (vp_in_nI (by omega) (by omega)) dX7_isNameInsideSentence_15 ?_
        refine lv_topi (fun z_5 ez_5 => ?_)
        obtain rfl : z_5 = fw4 i := ez_5.trans (congrArg fw4 (nI_clamp (by omega)))
        refine lv_if_ne (tgt := 52) hx hb dX7_isNameInsideSentence_16 (by decide) (fun c_6 => ?_) (fun c_6 => ?_)
        · have hq : ¬ (fw4 i = 0 ∧ ¬ qFi wS i ∧ wL i = wL w0 ∧ qSam tt wA wL i w0) := fun q => c_6 q.1
          refine lv_iinc (v := nI (i + 1)) (lv' := [(2, .int (nI (i + 1))), (0, .ref h0), (1, .int (nI w0))]) hx hb dX7_isNameInsideSentence_52 hl (k := 2) rfl (nI_add i 1) (by decide) rfl (fun ls hl => ?_)
          refine lv_goto (tgt := 2) hx hb dX7_isNameInsideSentence_55 (by decide) ?_
          exact ih_2 (i + 1) (by first | assumption | exact Or.inl rfl | exact Or.inr rfl | omega) (qStep hn_ hq) (by omega) H _ ls (hP.sub (ws' := [(h0, .inr (7, [.ref tl, .ref wa1, .ref wa2, .ref wa3, .ref wa4, .int (nI c), .int sc])), (wa1, .inl (cI, 300, .inl fw1)), (wa2, .inl (cI, 300, .inl fw2)), (wa3, .inl (cI, 300, .inl fw3)), (tl, .inr (5, [.ref ta, .int (nI kt)])), (ta, .inl (cB, 600, .inl ft)), (wa4, .inl (cI, 300, .inl fw4))]) [0, 1, 2, 3, 4, 5, 6] rfl) (hD.sub (ws' := [(h0, .inr (7, [.ref tl, .ref wa1, .ref wa2, .ref wa3, .ref wa4, .int (nI c), .int sc])), (wa1, .inl (cI, 300, .inl fw1)), (wa2, .inl (cI, 300, .inl fw2)), (wa3, .inl (cI, 300, .inl fw3)), (tl, .inr (5, [.ref ta, .int (nI kt)])), (ta, .inl (cB, 600, .inl ft)), (wa4, .inl (cI, 300, .inl fw4))]) [0, 1, 2, 3, 4, 5, 6] (by decide) rfl) hS (lv_sub hl [1, 2, 0] rfl)
        · have hz := c_6
          refine lv_aload_n hx hb dX7_isNameInsideSentence_19 rfl (lv_at hl 0 rfl) ?_
          refine lv_iload_n hx hb dX7_isNameInsideSentence_20 rfl (lv_at hl 2 rfl) ?_
          have hPc := hP.sub (ws' := [(h0, .inr (7, [.ref tl, .ref wa1, .ref wa2, .ref wa3, .ref wa4, .int (nI c), .int sc])), (wa1, .inl (cI, 300, .inl fw1)), (wa2, .inl (cI, 300, .inl fw2)), (wa3, .inl (cI, 300, .inl fw3)), (tl, .inr (5, [.ref ta, .int (nI kt)])), (ta, .inl (cB, 600, .inl ft))]) [0, 1, 2, 3, 4, 5] rfl
          have hDc := hD.sub (ws' := [(h0, .inr (7, [.ref tl, .ref wa1, .ref wa2, .ref wa3, .ref wa4, .int (nI c), .int sc])), (wa1, .inl (cI, 300, .inl fw1)), (wa2, .inl (cI, 300, .inl fw2)), (wa3, .inl (cI, 300, .inl fw3)), (tl, .inr (5, [.ref ta, .int (nI kt)])), (ta, .inl (cB, 600, .inl ft))]) [0, 1, 2, 3, 4, 5] (by decide) rfl
          have hFc := va_free (wc := [(h0, .inr (7, [.ref tl, .ref wa1, .ref wa2, .ref wa3, .ref wa4, .int (nI c), .int sc])), (wa1, .inl (cI, 300, .inl fw1)), (wa2, .inl (cI, 300, .inl fw2)), (wa3, .inl (cI, 300, .inl fw3)), (tl, .inr (5, [.ref ta, .int (nI kt)])), (ta, .inl (cB, 600, .inl ft))]) hD hS hA [0, 1, 2, 3, 4, 5] rfl
          refine va_calli (va_runV (As := [.int (nI i)]) (rest := []) ⟨hx, hb, hml, hown, hts⟩ (f_X7_isFirst l D cB cI cZ E H.size h0 i tl wa1 wa2 wa3 wa4 c sc fw1 fw2 fw3 ta kt ft tt wA wL wS (by first | assumption | omega) (by first | assumption | omega) (by first | assumption | omega) (by first | assumption | omega)) (cwV 1 hts (uV (uc14 _ (List.mem_of_getElem? (i := 5) rfl)) (uc14 _ (List.mem_of_getElem? (i := 6) rfl)) (uc14 _ (List.mem_of_getElem? (i := 7) rfl)) (uc1 _ (List.mem_of_getElem? (i := 18) rfl)) (uc14 _ (List.mem_of_getElem? (i := 8) rfl))) rfl rfl rfl (by decide +kernel) ⟨Nat.le_of_ble_eq_true rfl, Nat.le_of_ble_eq_true rfl⟩) (pVE hE hS hFc hK hPc hDc 0 rfl rfl) rfl rfl hl.1 rfl (lv_room (Nat.le_of_ble_eq_true rfl)) dX7_isNameInsideSentence_21 ⟨Nat.le_of_ble_eq_true rfl, Nat.le_of_ble_eq_true rfl⟩) hS (fun q _ h => hFc q h) hFc (fun r_7 u t H_8 L_9 ht hvm hw hB hz1 hk1 hS => ?_)
          obtain ⟨hP1, -, hD1⟩ := hB
          rw [ht] at hP1
          obtain ⟨hP, hD⟩ := va_join (wr := [(wa4, .inl (cI, 300, .inl fw4))]) (w1 := [(h0, .inr (7, [.ref tl, .ref wa1, .ref wa2, .ref wa3, .ref wa4, .int (nI c), .int sc])), (wa1, .inl (cI, 300, .inl fw1)), (wa2, .inl (cI, 300, .inl fw2)), (wa3, .inl (cI, 300, .inl fw3)), (tl, .inr (5, [.ref ta, .int (nI kt)])), (ta, .inl (cB, 600, .inl ft))]) hP hD [0, 1, 2, 3, 4, 5] [6] rfl rfl (by decide) (by decide) hk1 hFc hP1 hD1
          have hP : va_P D vwCl [(h0, .inr (7, [.ref tl, .ref wa1, .ref wa2, .ref wa3, .ref wa4, .int (nI c), .int sc])), (wa1, .inl (cI, 300, .inl fw1)), (wa2, .inl (cI, 300, .inl fw2)), (wa3, .inl (cI, 300, .inl fw3)), (tl, .inr (5, [.ref ta, .int (nI kt)])), (ta, .inl (cB, 600, .inl ft)), (wa4, .inl (cI, 300, .inl fw4))] H_8 := hP.sub [1, 2, 3, 4, 5, 6, 0] rfl
          have hD : va_D A [(h0, .inr (7, [.ref tl, .ref wa1, .ref wa2, .ref wa3, .ref wa4, .int (nI c), .int sc])), (wa1, .inl (cI, 300, .inl fw1)), (wa2, .inl (cI, 300, .inl fw2)), (wa3, .inl (cI, 300, .inl fw3)), (tl, .inr (5, [.ref ta, .int (nI kt)])), (ta, .inl (cB, 600, .inl ft)), (wa4, .inl (cI, 300, .inl fw4))] := hD.sub [1, 2, 3, 4, 5, 6, 0] (by decide) rfl
          try dsimp only at hw
          rcases hw with ⟨rfl, h_10⟩ | ⟨rfl, h_11⟩
          · have hF := h_10
            have hq : ¬ (fw4 i = 0 ∧ ¬ qFi wS i ∧ wL i = wL w0 ∧ qSam tt wA wL i w0) := fun q => q.2.1 hF
            refine lv_if_ne (tgt := 52) hx hb dX7_isNameInsideSentence_24 (by decide) (fun c_12 => ?_) (fun c_12 => ?_)
            · refine lv_iinc (v := nI (i + 1)) (lv' := [(2, .int (nI (i + 1))), (0, .ref h0), (1, .int (nI w0))]) hx hb dX7_isNameInsideSentence_52 hl (k := 2) rfl (nI_add i 1) (by decide) rfl (fun ls hl => ?_)
              refine lv_goto (tgt := 2) hx hb dX7_isNameInsideSentence_55 (by decide) ?_
              exact ih_2 (i + 1) (by first | assumption | exact Or.inl rfl | exact Or.inr rfl | omega) (qStep hn_ hq) (by omega) H_8 _ ls (hP.sub (ws' := [(h0, .inr (7, [.ref tl, .ref wa1, .ref wa2, .ref wa3, .ref wa4, .int (nI c), .int sc])), (wa1, .inl (cI, 300, .inl fw1)), (wa2, .inl (cI, 300, .inl fw2)), (wa3, .inl (cI, 300, .inl fw3)), (tl, .inr (5, [.ref ta, .int (nI kt)])), (ta, .inl (cB, 600, .inl ft)), (wa4, .inl (cI, 300, .inl fw4))]) [0, 1, 2, 3, 4, 5, 6] rfl) (hD.sub (ws' := [(h0, .inr (7, [.ref tl, .ref wa1, .ref wa2, .ref wa3, .ref wa4, .int (nI c), .int sc])), (wa1, .inl (cI, 300, .inl fw1)), (wa2, .inl (cI, 300, .inl fw2)), (wa3, .inl (cI, 300, .inl fw3)), (tl, .inr (5, [.ref ta, .int (nI kt)])), (ta, .inl (cB, 600, .inl ft)), (wa4, .inl (cI, 300, .inl fw4))]) [0, 1, 2, 3, 4, 5, 6] (by decide) rfl) hS (lv_sub hl [1, 2, 0] rfl)
            · exact False.elim (by revert c_12; decide)
          · have hF := h_11
            refine lv_if_ne (tgt := 52) hx hb dX7_isNameInsideSentence_24 (by decide) (fun c_13 => ?_) (fun c_13 => ?_)
            · exact False.elim (by revert c_13; decide)
            · refine lv_aload_n hx hb dX7_isNameInsideSentence_27 rfl (lv_at hl 0 rfl) ?_
              refine va_get (D := D) (ci := 7) (v := .ref wa2) (C := RX7) (T := TX7) (N := 7) hx hb hts hinX7 hown hK hP 0 rfl rfl 2 (by decide) (hts (.fieldLink RX7 24 "TaleReader$Words" "lengths" "[I") (uc3 _ (List.mem_of_getElem? (i := 15) rfl))) (fun _ h9 => h9) rfl dX7_isNameInsideSentence_28 ?_
              refine lv_iload_n hx hb dX7_isNameInsideSentence_31 rfl (lv_at hl 2 rfl) ?_
              refine va_iald (D := D) hx hb hK hP 2 1 rfl rfl (vp_in_nI (by omega) (by omega)) dX7_isNameInsideSentence_32 ?_
              refine lv_topi (fun z_14 ez_14 => ?_)
              obtain rfl : z_14 = nI (wL i) := ez_14.trans ((congrArg fw2 (nI_clamp (by omega))).trans (hQw i hlt_i).2.1)
              refine lv_aload_n hx hb dX7_isNameInsideSentence_33 rfl (lv_at hl 0 rfl) ?_
              refine lv_iload_n hx hb dX7_isNameInsideSentence_34 rfl (lv_at hl 1 rfl) ?_
              have hPc := hP.sub (ws' := [(h0, .inr (7, [.ref tl, .ref wa1, .ref wa2, .ref wa3, .ref wa4, .int (nI c), .int sc])), (wa1, .inl (cI, 300, .inl fw1)), (wa2, .inl (cI, 300, .inl fw2)), (wa3, .inl (cI, 300, .inl fw3)), (tl, .inr (5, [.ref ta, .int (nI kt)])), (ta, .inl (cB, 600, .inl ft))]) [0, 1, 2, 3, 4, 5] rfl
              have hDc := hD.sub (ws' := [(h0, .inr (7, [.ref tl, .ref wa1, .ref wa2, .ref wa3, .ref wa4, .int (nI c), .int sc])), (wa1, .inl (cI, 300, .inl fw1)), (wa2, .inl (cI, 300, .inl fw2)), (wa3, .inl (cI, 300, .inl fw3)), (tl, .inr (5, [.ref ta, .int (nI kt)])), (ta, .inl (cB, 600, .inl ft))]) [0, 1, 2, 3, 4, 5] (by decide) rfl
              have hFc := va_free (wc := [(h0, .inr (7, [.ref tl, .ref wa1, .ref wa2, .ref wa3, .ref wa4, .int (nI c), .int sc])), (wa1, .inl (cI, 300, .inl fw1)), (wa2, .inl (cI, 300, .inl fw2)), (wa3, .inl (cI, 300, .inl fw3)), (tl, .inr (5, [.ref ta, .int (nI kt)])), (ta, .inl (cB, 600, .inl ft))]) hD hS hA [0, 1, 2, 3, 4, 5] rfl
              refine va_calli (va_runV (As := [.int (nI w0)]) (rest := [.int (nI (wL i))]) ⟨hx, hb, hml, hown, hts⟩ (f_X7_lengthOf l D cB cI cZ E H_8.size h0 w0 tl wa1 wa2 wa3 wa4 c sc fw1 fw2 fw3 ta kt ft tt wA wL wS (by first | assumption | omega) (by first | assumption | omega) (by first | assumption | omega) (by first | assumption | omega)) (cwV 1 hts (uV (uc11 _ (List.mem_of_getElem? (i := 12) rfl)) (uc11 _ (List.mem_of_getElem? (i := 13) rfl)) (uc11 _ (List.mem_of_getElem? (i := 14) rfl)) (uc1 _ (List.mem_of_getElem? (i := 18) rfl)) (uc11 _ (List.mem_of_getElem? (i := 15) rfl))) rfl rfl rfl (by decide +kernel) ⟨Nat.le_of_ble_eq_true rfl, Nat.le_of_ble_eq_true rfl⟩) (pVE hE hS hFc hK hPc hDc 0 rfl rfl) rfl rfl hl.1 rfl (lv_room (Nat.le_of_ble_eq_true rfl)) dX7_isNameInsideSentence_35 ⟨Nat.le_of_ble_eq_true rfl, Nat.le_of_ble_eq_true rfl⟩) hS (fun q _ h => hFc q h) hFc (fun r_15 u t H_16 L_17 ht hvm hw hB hz1 hk1 hS => ?_)
              obtain ⟨hP1, -, hD1⟩ := hB
              rw [ht] at hP1
              obtain ⟨hP, hD⟩ := va_join (wr := [(wa4, .inl (cI, 300, .inl fw4))]) (w1 := [(h0, .inr (7, [.ref tl, .ref wa1, .ref wa2, .ref wa3, .ref wa4, .int (nI c), .int sc])), (wa1, .inl (cI, 300, .inl fw1)), (wa2, .inl (cI, 300, .inl fw2)), (wa3, .inl (cI, 300, .inl fw3)), (tl, .inr (5, [.ref ta, .int (nI kt)])), (ta, .inl (cB, 600, .inl ft))]) hP hD [0, 1, 2, 3, 4, 5] [6] rfl rfl (by decide) (by decide) hk1 hFc hP1 hD1
              have hP : va_P D vwCl [(h0, .inr (7, [.ref tl, .ref wa1, .ref wa2, .ref wa3, .ref wa4, .int (nI c), .int sc])), (wa1, .inl (cI, 300, .inl fw1)), (wa2, .inl (cI, 300, .inl fw2)), (wa3, .inl (cI, 300, .inl fw3)), (tl, .inr (5, [.ref ta, .int (nI kt)])), (ta, .inl (cB, 600, .inl ft)), (wa4, .inl (cI, 300, .inl fw4))] H_16 := hP.sub [1, 2, 3, 4, 5, 6, 0] rfl
              have hD : va_D A [(h0, .inr (7, [.ref tl, .ref wa1, .ref wa2, .ref wa3, .ref wa4, .int (nI c), .int sc])), (wa1, .inl (cI, 300, .inl fw1)), (wa2, .inl (cI, 300, .inl fw2)), (wa3, .inl (cI, 300, .inl fw3)), (tl, .inr (5, [.ref ta, .int (nI kt)])), (ta, .inl (cB, 600, .inl ft)), (wa4, .inl (cI, 300, .inl fw4))] := hD.sub [1, 2, 3, 4, 5, 6, 0] (by decide) rfl
              try dsimp only at hw
              subst hw
              refine lv_icmp_ne (tgt := 52) hx hb dX7_isNameInsideSentence_38 (by decide) (fun c_18 => ?_) (fun c_18 => ?_)
              · have hq : ¬ (fw4 i = 0 ∧ ¬ qFi wS i ∧ wL i = wL w0 ∧ qSam tt wA wL i w0) := fun q => c_18 (by rw [q.2.2.1])
                refine lv_iinc (v := nI (i + 1)) (lv' := [(2, .int (nI (i + 1))), (0, .ref h0), (1, .int (nI w0))]) hx hb dX7_isNameInsideSentence_52 hl (k := 2) rfl (nI_add i 1) (by decide) rfl (fun ls hl => ?_)
                refine lv_goto (tgt := 2) hx hb dX7_isNameInsideSentence_55 (by decide) ?_
                exact ih_2 (i + 1) (by first | assumption | exact Or.inl rfl | exact Or.inr rfl | omega) (qStep hn_ hq) (by omega) H_16 _ ls (hP.sub (ws' := [(h0, .inr (7, [.ref tl, .ref wa1, .ref wa2, .ref wa3, .ref wa4, .int (nI c), .int sc])), (wa1, .inl (cI, 300, .inl fw1)), (wa2, .inl (cI, 300, .inl fw2)), (wa3, .inl (cI, 300, .inl fw3)), (tl, .inr (5, [.ref ta, .int (nI kt)])), (ta, .inl (cB, 600, .inl ft)), (wa4, .inl (cI, 300, .inl fw4))]) [0, 1, 2, 3, 4, 5, 6] rfl) (hD.sub (ws' := [(h0, .inr (7, [.ref tl, .ref wa1, .ref wa2, .ref wa3, .ref wa4, .int (nI c), .int sc])), (wa1, .inl (cI, 300, .inl fw1)), (wa2, .inl (cI, 300, .inl fw2)), (wa3, .inl (cI, 300, .inl fw3)), (tl, .inr (5, [.ref ta, .int (nI kt)])), (ta, .inl (cB, 600, .inl ft)), (wa4, .inl (cI, 300, .inl fw4))]) [0, 1, 2, 3, 4, 5, 6] (by decide) rfl) hS (lv_sub hl [1, 2, 0] rfl)
              · have hle : wL i = wL w0 := (nI_eq (by omega) (by omega)).mp c_18
                refine lv_aload_n hx hb dX7_isNameInsideSentence_41 rfl (lv_at hl 0 rfl) ?_
                refine lv_iload_n hx hb dX7_isNameInsideSentence_42 rfl (lv_at hl 2 rfl) ?_
                refine lv_iload_n hx hb dX7_isNameInsideSentence_43 rfl (lv_at hl 1 rfl) ?_
                have hPc := hP.sub (ws' := [(h0, .inr (7, [.ref tl, .ref wa1, .ref wa2, .ref wa3, .ref wa4, .int (nI c), .int sc])), (wa1, .inl (cI, 300, .inl fw1)), (wa2, .inl (cI, 300, .inl fw2)), (wa3, .inl (cI, 300, .inl fw3)), (tl, .inr (5, [.ref ta, .int (nI kt)])), (ta, .inl (cB, 600, .inl ft))]) [0, 1, 2, 3, 4, 5] rfl
                have hDc := hD.sub (ws' := [(h0, .inr (7, [.ref tl, .ref wa1, .ref wa2, .ref wa3, .ref wa4, .int (nI c), .int sc])), (wa1, .inl (cI, 300, .inl fw1)), (wa2, .inl (cI, 300, .inl fw2)), (wa3, .inl (cI, 300, .inl fw3)), (tl, .inr (5, [.ref ta, .int (nI kt)])), (ta, .inl (cB, 600, .inl ft))]) [0, 1, 2, 3, 4, 5] (by decide) rfl
                have hFc := va_free (wc := [(h0, .inr (7, [.ref tl, .ref wa1, .ref wa2, .ref wa3, .ref wa4, .int (nI c), .int sc])), (wa1, .inl (cI, 300, .inl fw1)), (wa2, .inl (cI, 300, .inl fw2)), (wa3, .inl (cI, 300, .inl fw3)), (tl, .inr (5, [.ref ta, .int (nI kt)])), (ta, .inl (cB, 600, .inl ft))]) hD hS hA [0, 1, 2, 3, 4, 5] rfl
                refine va_calli (va_runV (As := [.int (nI i), .int (nI w0)]) (rest := []) ⟨hx, hb, hml, hown, hts⟩ (f_X7_beginsWith l D cB cI cZ E H_16.size h0 i w0 tl wa1 wa2 wa3 wa4 c sc fw1 fw2 fw3 ta kt ft tt wA wL wS (by first | assumption | omega) (by first | assumption | omega) (by first | assumption | omega) (by first | assumption | omega) (by first | assumption | omega) (by first | assumption | omega)) (cwV 2 hts (uV (uc15 _ (List.mem_of_getElem? (i := 1) rfl)) (uc15 _ (List.mem_of_getElem? (i := 2) rfl)) (uc15 _ (List.mem_of_getElem? (i := 3) rfl)) (uc1 _ (List.mem_of_getElem? (i := 18) rfl)) (uc15 _ (List.mem_of_getElem? (i := 4) rfl))) rfl rfl rfl (by decide +kernel) ⟨Nat.le_of_ble_eq_true rfl, Nat.le_of_ble_eq_true rfl⟩) (pVE hE hS hFc hK hPc hDc 0 rfl rfl) rfl rfl hl.1 rfl (lv_room (Nat.le_of_ble_eq_true rfl)) dX7_isNameInsideSentence_44 ⟨Nat.le_of_ble_eq_true rfl, Nat.le_of_ble_eq_true rfl⟩) hS (fun q _ h => hFc q h) hFc (fun r_19 u t H_20 L_21 ht hvm hw hB hz1 hk1 hS => ?_)
                obtain ⟨hP1, -, hD1⟩ := hB
                rw [ht] at hP1
                obtain ⟨hP, hD⟩ := va_join (wr := [(wa4, .inl (cI, 300, .inl fw4))]) (w1 := [(h0, .inr (7, [.ref tl, .ref wa1, .ref wa2, .ref wa3, .ref wa4, .int (nI c), .int sc])), (wa1, .inl (cI, 300, .inl fw1)), (wa2, .inl (cI, 300, .inl fw2)), (wa3, .inl (cI, 300, .inl fw3)), (tl, .inr (5, [.ref ta, .int (nI kt)])), (ta, .inl (cB, 600, .inl ft))]) hP hD [0, 1, 2, 3, 4, 5] [6] rfl rfl (by decide) (by decide) hk1 hFc hP1 hD1
                have hP : va_P D vwCl [(h0, .inr (7, [.ref tl, .ref wa1, .ref wa2, .ref wa3, .ref wa4, .int (nI c), .int sc])), (wa1, .inl (cI, 300, .inl fw1)), (wa2, .inl (cI, 300, .inl fw2)), (wa3, .inl (cI, 300, .inl fw3)), (tl, .inr (5, [.ref ta, .int (nI kt)])), (ta, .inl (cB, 600, .inl ft)), (wa4, .inl (cI, 300, .inl fw4))] H_20 := hP.sub [1, 2, 3, 4, 5, 6, 0] rfl
                have hD : va_D A [(h0, .inr (7, [.ref tl, .ref wa1, .ref wa2, .ref wa3, .ref wa4, .int (nI c), .int sc])), (wa1, .inl (cI, 300, .inl fw1)), (wa2, .inl (cI, 300, .inl fw2)), (wa3, .inl (cI, 300, .inl fw3)), (tl, .inr (5, [.ref ta, .int (nI kt)])), (ta, .inl (cB, 600, .inl ft)), (wa4, .inl (cI, 300, .inl fw4))] := hD.sub [1, 2, 3, 4, 5, 6, 0] (by decide) rfl
                try dsimp only at hw
                rcases hw with ⟨rfl, h_22, h_23⟩ | ⟨rfl, h_24⟩
                · have hsm := h_23
                  refine lv_if_eq (tgt := 52) hx hb dX7_isNameInsideSentence_47 (by decide) (fun c_25 => ?_) (fun c_25 => ?_)
                  · exact False.elim (by revert c_25; decide)
                  · refine lv_iconst (v := 1) hx hb dX7_isNameInsideSentence_50 (by decide) ?_
                    have hP9 := hP.sub (ws' := [(h0, .inr (7, [.ref tl, .ref wa1, .ref wa2, .ref wa3, .ref wa4, .int (nI c), .int sc])), (wa1, .inl (cI, 300, .inl fw1)), (wa2, .inl (cI, 300, .inl fw2)), (wa3, .inl (cI, 300, .inl fw3)), (tl, .inr (5, [.ref ta, .int (nI kt)])), (ta, .inl (cB, 600, .inl ft)), (wa4, .inl (cI, 300, .inl fw4))]) [0, 1, 2, 3, 4, 5, 6] rfl
                    have hD9 := hD.sub (ws' := [(h0, .inr (7, [.ref tl, .ref wa1, .ref wa2, .ref wa3, .ref wa4, .int (nI c), .int sc])), (wa1, .inl (cI, 300, .inl fw1)), (wa2, .inl (cI, 300, .inl fw2)), (wa3, .inl (cI, 300, .inl fw3)), (tl, .inr (5, [.ref ta, .int (nI kt)])), (ta, .inl (cB, 600, .inl ft)), (wa4, .inl (cI, 300, .inl fw4))]) [0, 1, 2, 3, 4, 5, 6] (by decide) rfl
                    rw [← hQ]
                    exact W.zret (v := 1) hx hb hr (rfl) (fun t ht hW => ⟨⟨1, (), rfl, Or.inl (⟨rfl, ⟨i, hlt_i, hz, hF, hle, hsm⟩⟩), ⟨by rw [ht]; exact hP9, va_K.moved hW.alike hK, hD9⟩⟩, hS.F ht⟩) hS.2.2 dX7_isNameInsideSentence_51
                · have hq : ¬ (fw4 i = 0 ∧ ¬ qFi wS i ∧ wL i = wL w0 ∧ qSam tt wA wL i w0) := fun q => h_24 ⟨by omega, q.2.2.2⟩
                  refine lv_if_eq (tgt := 52) hx hb dX7_isNameInsideSentence_47 (by decide) (fun c_26 => ?_) (fun c_26 => ?_)
                  · refine lv_iinc (v := nI (i + 1)) (lv' := [(2, .int (nI (i + 1))), (0, .ref h0), (1, .int (nI w0))]) hx hb dX7_isNameInsideSentence_52 hl (k := 2) rfl (nI_add i 1) (by decide) rfl (fun ls hl => ?_)
                    refine lv_goto (tgt := 2) hx hb dX7_isNameInsideSentence_55 (by decide) ?_
                    exact ih_2 (i + 1) (by first | assumption | exact Or.inl rfl | exact Or.inr rfl | omega) (qStep hn_ hq) (by omega) H_20 _ ls (hP.sub (ws' := [(h0, .inr (7, [.ref tl, .ref wa1, .ref wa2, .ref wa3, .ref wa4, .int (nI c), .int sc])), (wa1, .inl (cI, 300, .inl fw1)), (wa2, .inl (cI, 300, .inl fw2)), (wa3, .inl (cI, 300, .inl fw3)), (tl, .inr (5, [.ref ta, .int (nI kt)])), (ta, .inl (cB, 600, .inl ft)), (wa4, .inl (cI, 300, .inl fw4))]) [0, 1, 2, 3, 4, 5, 6] rfl) (hD.sub (ws' := [(h0, .inr (7, [.ref tl, .ref wa1, .ref wa2, .ref wa3, .ref wa4, .int (nI c), .int sc])), (wa1, .inl (cI, 300, .inl fw1)), (wa2, .inl (cI, 300, .inl fw2)), (wa3, .inl (cI, 300, .inl fw3)), (tl, .inr (5, [.ref ta, .int (nI kt)])), (ta, .inl (cB, 600, .inl ft)), (wa4, .inl (cI, 300, .inl fw4))]) [0, 1, 2, 3, 4, 5, 6] (by decide) rfl) hS (lv_sub hl [1, 2, 0] rfl)
                  · exact False.elim (by revert c_26; decide)
  exact loop_1 _ 0 (by first | assumption | exact Or.inl rfl | exact Or.inr rfl | omega) (qNil) (Nat.lt_succ_self _) s.heap _ ls (hP.sub (ws' := [(h0, .inr (7, [.ref tl, .ref wa1, .ref wa2, .ref wa3, .ref wa4, .int (nI c), .int sc])), (wa1, .inl (cI, 300, .inl fw1)), (wa2, .inl (cI, 300, .inl fw2)), (wa3, .inl (cI, 300, .inl fw3)), (tl, .inr (5, [.ref ta, .int (nI kt)])), (ta, .inl (cB, 600, .inl ft)), (wa4, .inl (cI, 300, .inl fw4))]) [0, 1, 2, 3, 4, 5, 6] rfl) (hD.sub (ws' := [(h0, .inr (7, [.ref tl, .ref wa1, .ref wa2, .ref wa3, .ref wa4, .int (nI c), .int sc])), (wa1, .inl (cI, 300, .inl fw1)), (wa2, .inl (cI, 300, .inl fw2)), (wa3, .inl (cI, 300, .inl fw3)), (tl, .inr (5, [.ref ta, .int (nI kt)])), (ta, .inl (cB, 600, .inl ft)), (wa4, .inl (cI, 300, .inl fw4))]) [0, 1, 2, 3, 4, 5, 6] (by decide) rfl) hS (lv_sub hl [1, 2, 0] rfl)
