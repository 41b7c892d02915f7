set_option maxHeartbeats 4000000 in
set_option maxRecDepth 100000 in
theorem f_X5_addNumber (l : Launch) (D : va_G) (cB cI cZ : ClassId) (E : pEt) (sz : Nat) (h0 : Nat) (a : Nat) (n : Nat) (k : Nat) (f : Nat → Int32) (x : Int32) (hk : k + 4 ≤ n) (hn : n ≤ 600) : Met l yX5_addNumber (.code yX5_addNumber cX5_addNumber 3 none :: wsL_law) ({ frames := 1, cells := 0, slots := 0, locals := 21 } : Room) (va_Pc [.ref h0, .int x] (pInE E D (pT cB cI cZ) sz [(h0, .inr (5, [.ref a, .int (nI k)])), (a, .inl (cB, n, .inl f))])) (va_Qv (fun (u : (Nat → Int32)) => qA4 f k x = u) (fun (u : (Nat → Int32)) (t : State) => pAt D (pT cB cI cZ) (va_A [(h0, .inr (5, [.ref a, .int (nI k)])), (a, .inl (cB, n, .inl f))] sz) [(h0, .inr (5, [.ref a, .int (nI (k + 4))])), (a, .inl (cB, n, .inl u))] t) (va_A [(h0, .inr (5, [.ref a, .int (nI k)])), (a, .inl (cB, n, .inl f))] sz)) 0 0 (va_A [(h0, .inr (5, [.ref a, .int (nI k)])), (a, .inl (cB, n, .inl f))] sz) := by
  refine Met.ofW (cc := cX5_addNumber) (maxL := 3) (ret := none) (by decide) rfl ?_
  intro p e s m args below meth cd s₁ B hml hv
  obtain ⟨rfl, hsz, hP, hK, hD0, hE⟩ := hv
  have hx := B.exec
  have hb := B.bytes
  have hr := B.returns
  have hts0 := atoms_spec (ws := .code yX5_addNumber cX5_addNumber 3 none :: wsL_law) B.pre
  have hts := fun (w : Cond) (h : w ∈ wsL_law) => hts0 w (List.mem_cons_of_mem _ h)
  have hown : s.vm.findClass RX5 = some m.cls := findClass_of_methodNamed B.named
  have hlocks := B.notSynchronized
  subst hsz
  have hD := hD0.self (sz := s.heap.size)
  generalize hAe : va_A [(h0, .inr (5, [.ref a, .int (nI k)])), (a, .inl (cB, n, .inl f))] s.heap.size = A at hD hE ⊢
  have hA : ∀ q : Nat, s.heap.size ≤ q → A q := fun q h => by rw [← hAe]; exact Or.inr h
  have hS : va_S A s.heap s.heap [] := va_S.rf
  have hP : va_P D vwCl [(h0, .inr (5, [.ref a, .int (nI k)])), (a, .inl (cB, n, .inl f))] s.heap := hP
  have hl := lv_entry ([.ref h0, .int x]) (n := 3) (Nat.le_of_ble_eq_true rfl)
  rw [lg_entry_eq]
  generalize (lg_sl ([.ref h0, .int x]) ++ List.replicate (3 - (lg_sl ([.ref h0, .int x])).length) Slot.unset).toArray = ls at hl ⊢
  have hl : lv_has ls 3 [(0, .ref h0), (1, .int x)] := hl
  refine lv_bipush (v := 24) hx hb dX5_addNumber_0 (by decide) ?_
  refine lv_istore_n (lv' := [(2, .int 24), (0, .ref h0), (1, .int x)]) hx hb dX5_addNumber_2 rfl hl (by decide) rfl (fun ls hl => ?_)
  refine lv_iload_n hx hb dX5_addNumber_3 rfl (lv_at hl 0 rfl) ?_
  refine lv_if_lt (tgt := 20) hx hb dX5_addNumber_4 (by decide) (fun c_1 => ?_) (fun c_1 => ?_)
  · exact False.elim (by revert c_1; decide)
  · refine lv_aload_n hx hb dX5_addNumber_7 rfl (lv_at hl 1 rfl) ?_
    refine lv_iload_n hx hb dX5_addNumber_8 rfl (lv_at hl 2 rfl) ?_
    refine lv_iload_n hx hb dX5_addNumber_9 rfl (lv_at hl 0 rfl) ?_
    refine lv_iushr (v := (x.toUInt32 >>> ((Int32.toUInt32 24) &&& Int32.toUInt32 31)).toInt32) hx hb dX5_addNumber_10 rfl ?_
    have hPc := hP.sub (ws' := [(h0, .inr (5, [.ref a, .int (nI k)])), (a, .inl (cB, n, .inl f))]) [0, 1] rfl
    have hDc := hD.sub (ws' := [(h0, .inr (5, [.ref a, .int (nI k)])), (a, .inl (cB, n, .inl f))]) [0, 1] (by decide) rfl
    have hFc := va_free (wc := [(h0, .inr (5, [.ref a, .int (nI k)])), (a, .inl (cB, n, .inl f))]) hD hS hA [0, 1] rfl
    refine va_callv (va_runV (As := [.int ((x.toUInt32 >>> ((Int32.toUInt32 24) &&& Int32.toUInt32 31)).toInt32)]) (rest := []) ⟨hx, hb, hml, hown, hts⟩ (s_X5_addSign l D cB cI cZ E s.heap.size h0 a n k f ((x.toUInt32 >>> ((Int32.toUInt32 24) &&& Int32.toUInt32 31)).toInt32) (by first | assumption | omega) (by first | assumption | omega)) (cwV 1 hts (uV (uc8 _ (List.mem_of_getElem? (i := 5) rfl)) (uc8 _ (List.mem_of_getElem? (i := 6) rfl)) (uc8 _ (List.mem_of_getElem? (i := 7) rfl)) (uc1 _ (List.mem_of_getElem? (i := 14) rfl)) (uc8 _ (List.mem_of_getElem? (i := 8) rfl))) rfl rfl rfl (by decide +kernel) ⟨Nat.le_of_ble_eq_true rfl, Nat.le_of_ble_eq_true rfl⟩) (pVE hE hS hFc hK hPc hDc 0 rfl rfl) rfl rfl hl.1 rfl (lv_room (Nat.le_of_ble_eq_true rfl)) dX5_addNumber_11 ⟨Nat.le_of_ble_eq_true rfl, Nat.le_of_ble_eq_true rfl⟩) hS (fun q _ h => hFc q h) hFc (fun u t H_3 L_4 ht hvm hw hB hz1 hk1 hS => ?_)
    obtain ⟨k_5, f_6⟩ := u
    obtain ⟨hP1, -, hD1⟩ := hB
    rw [ht] at hP1
    obtain ⟨hP, hD⟩ := va_join (wr := []) (w1 := [(h0, .inr (5, [.ref a, .int (nI k_5)])), (a, .inl (cB, n, .inl f_6))]) hP hD [0, 1] [] rfl rfl (by decide) (by decide) hk1 hFc hP1 hD1
    have hP : va_P D vwCl [(h0, .inr (5, [.ref a, .int (nI k_5)])), (a, .inl (cB, n, .inl f_6))] H_3 := hP.sub [0, 1] rfl
    have hD : va_D A [(h0, .inr (5, [.ref a, .int (nI k_5)])), (a, .inl (cB, n, .inl f_6))] := hD.sub [0, 1] (by decide) rfl
    try dsimp only at hw
    rcases hw with ⟨h_7, rfl, rfl⟩ | ⟨h_8, rfl, rfl⟩
    · refine lv_iinc (v := 16) (lv' := [(2, .int 16), (0, .ref h0), (1, .int x)]) hx hb dX5_addNumber_14 hl (k := 0) rfl (by decide) (by decide) rfl (fun ls hl => ?_)
      refine lv_goto (tgt := 3) hx hb dX5_addNumber_17 (by decide) ?_
      refine lv_iload_n hx hb dX5_addNumber_3 rfl (lv_at hl 0 rfl) ?_
      refine lv_if_lt (tgt := 20) hx hb dX5_addNumber_4 (by decide) (fun c_9 => ?_) (fun c_9 => ?_)
      · exact False.elim (by revert c_9; decide)
      · refine lv_aload_n hx hb dX5_addNumber_7 rfl (lv_at hl 1 rfl) ?_
        refine lv_iload_n hx hb dX5_addNumber_8 rfl (lv_at hl 2 rfl) ?_
        refine lv_iload_n hx hb dX5_addNumber_9 rfl (lv_at hl 0 rfl) ?_
        refine lv_iushr (v := (x.toUInt32 >>> ((Int32.toUInt32 16) &&& Int32.toUInt32 31)).toInt32) hx hb dX5_addNumber_10 rfl ?_
        have hPc := hP.sub (ws' := [(h0, .inr (5, [.ref a, .int (nI (k + 1))])), (a, .inl (cB, n, .inl (upd f k ((x.toUInt32 >>> ((Int32.toUInt32 24) &&& Int32.toUInt32 31)).toInt32).toInt8.toInt32)))]) [0, 1] rfl
        have hDc := hD.sub (ws' := [(h0, .inr (5, [.ref a, .int (nI (k + 1))])), (a, .inl (cB, n, .inl (upd f k ((x.toUInt32 >>> ((Int32.toUInt32 24) &&& Int32.toUInt32 31)).toInt32).toInt8.toInt32)))]) [0, 1] (by decide) rfl
        have hFc := va_free (wc := [(h0, .inr (5, [.ref a, .int (nI (k + 1))])), (a, .inl (cB, n, .inl (upd f k ((x.toUInt32 >>> ((Int32.toUInt32 24) &&& Int32.toUInt32 31)).toInt32).toInt8.toInt32)))]) hD hS hA [0, 1] rfl
        refine va_callv (va_runV (As := [.int ((x.toUInt32 >>> ((Int32.toUInt32 16) &&& Int32.toUInt32 31)).toInt32)]) (rest := []) ⟨hx, hb, hml, hown, hts⟩ (s_X5_addSign l D cB cI cZ E H_3.size h0 a n (k + 1) (upd f k ((x.toUInt32 >>> ((Int32.toUInt32 24) &&& Int32.toUInt32 31)).toInt32).toInt8.toInt32) ((x.toUInt32 >>> ((Int32.toUInt32 16) &&& Int32.toUInt32 31)).toInt32) (by first | assumption | omega) (by first | assumption | omega)) (cwV 1 hts (uV (uc8 _ (List.mem_of_getElem? (i := 5) rfl)) (uc8 _ (List.mem_of_getElem? (i := 6) rfl)) (uc8 _ (List.mem_of_getElem? (i := 7) rfl)) (uc1 _ (List.mem_of_getElem? (i := 14) rfl)) (uc8 _ (List.mem_of_getElem? (i := 8) rfl))) rfl rfl rfl (by decide +kernel) ⟨Nat.le_of_ble_eq_true rfl, Nat.le_of_ble_eq_true rfl⟩) (pVE hE hS hFc hK hPc hDc 0 rfl rfl) rfl rfl hl.1 rfl (lv_room (Nat.le_of_ble_eq_true rfl)) dX5_addNumber_11 ⟨Nat.le_of_ble_eq_true rfl, Nat.le_of_ble_eq_true rfl⟩) hS (fun q _ h => hFc q h) hFc (fun u t H_11 L_12 ht hvm hw hB hz1 hk1 hS => ?_)
        obtain ⟨k_13, f_14⟩ := u
        obtain ⟨hP1, -, hD1⟩ := hB
        rw [ht] at hP1
        obtain ⟨hP, hD⟩ := va_join (wr := []) (w1 := [(h0, .inr (5, [.ref a, .int (nI k_13)])), (a, .inl (cB, n, .inl f_14))]) hP hD [0, 1] [] rfl rfl (by decide) (by decide) hk1 hFc hP1 hD1
        have hP : va_P D vwCl [(h0, .inr (5, [.ref a, .int (nI k_13)])), (a, .inl (cB, n, .inl f_14))] H_11 := hP.sub [0, 1] rfl
        have hD : va_D A [(h0, .inr (5, [.ref a, .int (nI k_13)])), (a, .inl (cB, n, .inl f_14))] := hD.sub [0, 1] (by decide) rfl
        try dsimp only at hw
        rcases hw with ⟨h_15, rfl, rfl⟩ | ⟨h_16, rfl, rfl⟩
        · refine lv_iinc (v := 8) (lv' := [(2, .int 8), (0, .ref h0), (1, .int x)]) hx hb dX5_addNumber_14 hl (k := 0) rfl (by decide) (by decide) rfl (fun ls hl => ?_)
          refine lv_goto (tgt := 3) hx hb dX5_addNumber_17 (by decide) ?_
          refine lv_iload_n hx hb dX5_addNumber_3 rfl (lv_at hl 0 rfl) ?_
          refine lv_if_lt (tgt := 20) hx hb dX5_addNumber_4 (by decide) (fun c_17 => ?_) (fun c_17 => ?_)
          · exact False.elim (by revert c_17; decide)
          · refine lv_aload_n hx hb dX5_addNumber_7 rfl (lv_at hl 1 rfl) ?_
            refine lv_iload_n hx hb dX5_addNumber_8 rfl (lv_at hl 2 rfl) ?_
            refine lv_iload_n hx hb dX5_addNumber_9 rfl (lv_at hl 0 rfl) ?_
            refine lv_iushr (v := (x.toUInt32 >>> ((Int32.toUInt32 8) &&& Int32.toUInt32 31)).toInt32) hx hb dX5_addNumber_10 rfl ?_
            have hPc := hP.sub (ws' := [(h0, .inr (5, [.ref a, .int (nI (k + 2))])), (a, .inl (cB, n, .inl (upd (upd f k ((x.toUInt32 >>> ((Int32.toUInt32 24) &&& Int32.toUInt32 31)).toInt32).toInt8.toInt32) (k + 1) ((x.toUInt32 >>> ((Int32.toUInt32 16) &&& Int32.toUInt32 31)).toInt32).toInt8.toInt32)))]) [0, 1] rfl
            have hDc := hD.sub (ws' := [(h0, .inr (5, [.ref a, .int (nI (k + 2))])), (a, .inl (cB, n, .inl (upd (upd f k ((x.toUInt32 >>> ((Int32.toUInt32 24) &&& Int32.toUInt32 31)).toInt32).toInt8.toInt32) (k + 1) ((x.toUInt32 >>> ((Int32.toUInt32 16) &&& Int32.toUInt32 31)).toInt32).toInt8.toInt32)))]) [0, 1] (by decide) rfl
            have hFc := va_free (wc := [(h0, .inr (5, [.ref a, .int (nI (k + 2))])), (a, .inl (cB, n, .inl (upd (upd f k ((x.toUInt32 >>> ((Int32.toUInt32 24) &&& Int32.toUInt32 31)).toInt32).toInt8.toInt32) (k + 1) ((x.toUInt32 >>> ((Int32.toUInt32 16) &&& Int32.toUInt32 31)).toInt32).toInt8.toInt32)))]) hD hS hA [0, 1] rfl
            refine va_callv (va_runV (As := [.int ((x.toUInt32 >>> ((Int32.toUInt32 8) &&& Int32.toUInt32 31)).toInt32)]) (rest := []) ⟨hx, hb, hml, hown, hts⟩ (s_X5_addSign l D cB cI cZ E H_11.size h0 a n (k + 2) (upd (upd f k ((x.toUInt32 >>> ((Int32.toUInt32 24) &&& Int32.toUInt32 31)).toInt32).toInt8.toInt32) (k + 1) ((x.toUInt32 >>> ((Int32.toUInt32 16) &&& Int32.toUInt32 31)).toInt32).toInt8.toInt32) ((x.toUInt32 >>> ((Int32.toUInt32 8) &&& Int32.toUInt32 31)).toInt32) (by first | assumption | omega) (by first | assumption | omega)) (cwV 1 hts (uV (uc8 _ (List.mem_of_getElem? (i := 5) rfl)) (uc8 _ (List.mem_of_getElem? (i := 6) rfl)) (uc8 _ (List.mem_of_getElem? (i := 7) rfl)) (uc1 _ (List.mem_of_getElem? (i := 14) rfl)) (uc8 _ (List.mem_of_getElem? (i := 8) rfl))) rfl rfl rfl (by decide +kernel) ⟨Nat.le_of_ble_eq_true rfl, Nat.le_of_ble_eq_true rfl⟩) (pVE hE hS hFc hK hPc hDc 0 rfl rfl) rfl rfl hl.1 rfl (lv_room (Nat.le_of_ble_eq_true rfl)) dX5_addNumber_11 ⟨Nat.le_of_ble_eq_true rfl, Nat.le_of_ble_eq_true rfl⟩) hS (fun q _ h => hFc q h) hFc (fun u t H_19 L_20 ht hvm hw hB hz1 hk1 hS => ?_)
            obtain ⟨k_21, f_22⟩ := u
            obtain ⟨hP1, -, hD1⟩ := hB
            rw [ht] at hP1
            obtain ⟨hP, hD⟩ := va_join (wr := []) (w1 := [(h0, .inr (5, [.ref a, .int (nI k_21)])), (a, .inl (cB, n, .inl f_22))]) hP hD [0, 1] [] rfl rfl (by decide) (by decide) hk1 hFc hP1 hD1
            have hP : va_P D vwCl [(h0, .inr (5, [.ref a, .int (nI k_21)])), (a, .inl (cB, n, .inl f_22))] H_19 := hP.sub [0, 1] rfl
            have hD : va_D A [(h0, .inr (5, [.ref a, .int (nI k_21)])), (a, .inl (cB, n, .inl f_22))] := hD.sub [0, 1] (by decide) rfl
            try dsimp only at hw
            rcases hw with ⟨h_23, rfl, rfl⟩ | ⟨h_24, rfl, rfl⟩
            · refine lv_iinc (v := 0) (lv' := [(2, .int 0), (0, .ref h0), (1, .int x)]) hx hb dX5_addNumber_14 hl (k := 0) rfl (by decide) (by decide) rfl (fun ls hl => ?_)
              refine lv_goto (tgt := 3) hx hb dX5_addNumber_17 (by decide) ?_
              refine lv_iload_n hx hb dX5_addNumber_3 rfl (lv_at hl 0 rfl) ?_
              refine lv_if_lt (tgt := 20) hx hb dX5_addNumber_4 (by decide) (fun c_25 => ?_) (fun c_25 => ?_)
              · exact False.elim (by revert c_25; decide)
              · refine lv_aload_n hx hb dX5_addNumber_7 rfl (lv_at hl 1 rfl) ?_
                refine lv_iload_n hx hb dX5_addNumber_8 rfl (lv_at hl 2 rfl) ?_
                refine lv_iload_n hx hb dX5_addNumber_9 rfl (lv_at hl 0 rfl) ?_
                refine lv_iushr (v := (x.toUInt32 >>> ((Int32.toUInt32 0) &&& Int32.toUInt32 31)).toInt32) hx hb dX5_addNumber_10 rfl ?_
                have hPc := hP.sub (ws' := [(h0, .inr (5, [.ref a, .int (nI (k + 3))])), (a, .inl (cB, n, .inl (upd (upd (upd f k ((x.toUInt32 >>> ((Int32.toUInt32 24) &&& Int32.toUInt32 31)).toInt32).toInt8.toInt32) (k + 1) ((x.toUInt32 >>> ((Int32.toUInt32 16) &&& Int32.toUInt32 31)).toInt32).toInt8.toInt32) (k + 2) ((x.toUInt32 >>> ((Int32.toUInt32 8) &&& Int32.toUInt32 31)).toInt32).toInt8.toInt32)))]) [0, 1] rfl
                have hDc := hD.sub (ws' := [(h0, .inr (5, [.ref a, .int (nI (k + 3))])), (a, .inl (cB, n, .inl (upd (upd (upd f k ((x.toUInt32 >>> ((Int32.toUInt32 24) &&& Int32.toUInt32 31)).toInt32).toInt8.toInt32) (k + 1) ((x.toUInt32 >>> ((Int32.toUInt32 16) &&& Int32.toUInt32 31)).toInt32).toInt8.toInt32) (k + 2) ((x.toUInt32 >>> ((Int32.toUInt32 8) &&& Int32.toUInt32 31)).toInt32).toInt8.toInt32)))]) [0, 1] (by decide) rfl
                have hFc := va_free (wc := [(h0, .inr (5, [.ref a, .int (nI (k + 3))])), (a, .inl (cB, n, .inl (upd (upd (upd f k ((x.toUInt32 >>> ((Int32.toUInt32 24) &&& Int32.toUInt32 31)).toInt32).toInt8.toInt32) (k + 1) ((x.toUInt32 >>> ((Int32.toUInt32 16) &&& Int32.toUInt32 31)).toInt32).toInt8.toInt32) (k + 2) ((x.toUInt32 >>> ((Int32.toUInt32 8) &&& Int32.toUInt32 31)).toInt32).toInt8.toInt32)))]) hD hS hA [0, 1] rfl
                refine va_callv (va_runV (As := [.int ((x.toUInt32 >>> ((Int32.toUInt32 0) &&& Int32.toUInt32 31)).toInt32)]) (rest := []) ⟨hx, hb, hml, hown, hts⟩ (s_X5_addSign l D cB cI cZ E H_19.size h0 a n (k + 3) (upd (upd (upd f k ((x.toUInt32 >>> ((Int32.toUInt32 24) &&& Int32.toUInt32 31)).toInt32).toInt8.toInt32) (k + 1) ((x.toUInt32 >>> ((Int32.toUInt32 16) &&& Int32.toUInt32 31)).toInt32).toInt8.toInt32) (k + 2) ((x.toUInt32 >>> ((Int32.toUInt32 8) &&& Int32.toUInt32 31)).toInt32).toInt8.toInt32) ((x.toUInt32 >>> ((Int32.toUInt32 0) &&& Int32.toUInt32 31)).toInt32) (by first | assumption | omega) (by first | assumption | omega)) (cwV 1 hts (uV (uc8 _ (List.mem_of_getElem? (i := 5) rfl)) (uc8 _ (List.mem_of_getElem? (i := 6) rfl)) (uc8 _ (List.mem_of_getElem? (i := 7) rfl)) (uc1 _ (List.mem_of_getElem? (i := 14) rfl)) (uc8 _ (List.mem_of_getElem? (i := 8) rfl))) rfl rfl rfl (by decide +kernel) ⟨Nat.le_of_ble_eq_true rfl, Nat.le_of_ble_eq_true rfl⟩) (pVE hE hS hFc hK hPc hDc 0 rfl rfl) rfl rfl hl.1 rfl (lv_room (Nat.le_of_ble_eq_true rfl)) dX5_addNumber_11 ⟨Nat.le_of_ble_eq_true rfl, Nat.le_of_ble_eq_true rfl⟩) hS (fun q _ h => hFc q h) hFc (fun u t H_27 L_28 ht hvm hw hB hz1 hk1 hS => ?_)
                obtain ⟨k_29, f_30⟩ := u
                obtain ⟨hP1, -, hD1⟩ := hB
                rw [ht] at hP1
                obtain ⟨hP, hD⟩ := va_join (wr := []) (w1 := [(h0, .inr (5, [.ref a, .int (nI k_29)])), (a, .inl (cB, n, .inl f_30))]) hP hD [0, 1] [] rfl rfl (by decide) (by decide) hk1 hFc hP1 hD1
                have hP : va_P D vwCl [(h0, .inr (5, [.ref a, .int (nI k_29)])), (a, .inl (cB, n, .inl f_30))] H_27 := hP.sub [0, 1] rfl
                have hD : va_D A [(h0, .inr (5, [.ref a, .int (nI k_29)])), (a, .inl (cB, n, .inl f_30))] := hD.sub [0, 1] (by decide) rfl
                try dsimp only at hw
                rcases hw with ⟨h_31, rfl, rfl⟩ | ⟨h_32, rfl, rfl⟩
                · refine lv_iinc (v := (-8)) (lv' := [(2, .int (-8)), (0, .ref h0), (1, .int x)]) hx hb dX5_addNumber_14 hl (k := 0) rfl (by decide) (by decide) rfl (fun ls hl => ?_)
                  refine lv_goto (tgt := 3) hx hb dX5_addNumber_17 (by decide) ?_
                  refine lv_iload_n hx hb dX5_addNumber_3 rfl (lv_at hl 0 rfl) ?_
                  refine lv_if_lt (tgt := 20) hx hb dX5_addNumber_4 (by decide) (fun c_33 => ?_) (fun c_33 => ?_)
                  · have hP9 := hP.sub (ws' := [(h0, .inr (5, [.ref a, .int (nI (k + 4))])), (a, .inl (cB, n, .inl (upd (upd (upd (upd f k ((x.toUInt32 >>> ((Int32.toUInt32 24) &&& Int32.toUInt32 31)).toInt32).toInt8.toInt32) (k + 1) ((x.toUInt32 >>> ((Int32.toUInt32 16) &&& Int32.toUInt32 31)).toInt32).toInt8.toInt32) (k + 2) ((x.toUInt32 >>> ((Int32.toUInt32 8) &&& Int32.toUInt32 31)).toInt32).toInt8.toInt32) (k + 3) ((x.toUInt32 >>> ((Int32.toUInt32 0) &&& Int32.toUInt32 31)).toInt32).toInt8.toInt32)))]) [0, 1] rfl
                    have hD9 := hD.sub (ws' := [(h0, .inr (5, [.ref a, .int (nI (k + 4))])), (a, .inl (cB, n, .inl (upd (upd (upd (upd f k ((x.toUInt32 >>> ((Int32.toUInt32 24) &&& Int32.toUInt32 31)).toInt32).toInt8.toInt32) (k + 1) ((x.toUInt32 >>> ((Int32.toUInt32 16) &&& Int32.toUInt32 31)).toInt32).toInt8.toInt32) (k + 2) ((x.toUInt32 >>> ((Int32.toUInt32 8) &&& Int32.toUInt32 31)).toInt32).toInt8.toInt32) (k + 3) ((x.toUInt32 >>> ((Int32.toUInt32 0) &&& Int32.toUInt32 31)).toInt32).toInt8.toInt32)))]) [0, 1] (by decide) rfl
                    exact W.vret hx hb hr (fun t ht hW => ⟨⟨(upd (upd (upd (upd f k ((x.toUInt32 >>> ((Int32.toUInt32 24) &&& Int32.toUInt32 31)).toInt32).toInt8.toInt32) (k + 1) ((x.toUInt32 >>> ((Int32.toUInt32 16) &&& Int32.toUInt32 31)).toInt32).toInt8.toInt32) (k + 2) ((x.toUInt32 >>> ((Int32.toUInt32 8) &&& Int32.toUInt32 31)).toInt32).toInt8.toInt32) (k + 3) ((x.toUInt32 >>> ((Int32.toUInt32 0) &&& Int32.toUInt32 31)).toInt32).toInt8.toInt32), rfl, rfl, ⟨by rw [ht]; exact hP9, va_K.moved hW.alike hK, hD9⟩⟩, hS.F ht⟩) hS.2.2 dX5_addNumber_20
                  · exact False.elim (by revert c_33; decide)
                · exact False.elim (by exact h_32 (by omega))
            · exact False.elim (by exact h_24 (by omega))
        · exact False.elim (by exact h_16 (by omega))
    · exact False.elim (by exact h_8 (by omega))
set_option maxHeartbeats 4000000 in
set_option maxRecDepth 100000 in
theorem f_X5_signAt (l : Launch) (D : va_G) (cB cI cZ : ClassId) (E : pEt) (sz : Nat) (h0 : Nat) (X : Nat) (a : Nat) (k : Nat) (n : Nat) (f : Nat → Int32) (hk : k ≤ n) (hn : n ≤ 600) (hX : X < k) : Met l yX5_signAt (.code yX5_signAt cX5_signAt 2 (some .int) :: wsL_law) ({ frames := 1, cells := 0, slots := 0, locals := 22 } : Room) (va_Pc [.ref h0, .int (nI X)] (pInE E D (pT cB cI cZ) sz [(h0, .inr (5, [.ref a, .int (nI k)])), (a, .inl (cB, n, .inl f))])) (va_Qi (fun (r : Int32) (u : Unit) => (f X) = r) (fun (u : Unit) (t : State) => pAt D (pT cB cI cZ) (va_A [(h0, .inr (5, [.ref a, .int (nI k)])), (a, .inl (cB, n, .inl f))] sz) [(h0, .inr (5, [.ref a, .int (nI k)])), (a, .inl (cB, n, .inl f))] t) (va_A [(h0, .inr (5, [.ref a, .int (nI k)])), (a, .inl (cB, n, .inl f))] sz)) 0 0 (va_A [(h0, .inr (5, [.ref a, .int (nI k)])), (a, .inl (cB, n, .inl f))] sz) := by
  refine Met.ofW (cc := cX5_signAt) (maxL := 2) (ret := (some .int)) (by decide) rfl ?_
  intro p e s m args below meth cd s₁ B hml hv
  obtain ⟨rfl, hsz, hP, hK, hD0, hE⟩ := hv
  have hx := B.exec
  have hb := B.bytes
  have hr := B.returns
  have hts0 := atoms_spec (ws := .code yX5_signAt cX5_signAt 2 (some .int) :: wsL_law) B.pre
  have hts := fun (w : Cond) (h : w ∈ wsL_law) => hts0 w (List.mem_cons_of_mem _ h)
  have hown : s.vm.findClass RX5 = some m.cls := findClass_of_methodNamed B.named
  have hlocks := B.notSynchronized
  have hinX5 := inlX5
  subst hsz
  have hD := hD0.self (sz := s.heap.size)
  generalize hAe : va_A [(h0, .inr (5, [.ref a, .int (nI k)])), (a, .inl (cB, n, .inl f))] s.heap.size = A at hD hE ⊢
  have hA : ∀ q : Nat, s.heap.size ≤ q → A q := fun q h => by rw [← hAe]; exact Or.inr h
  have hS : va_S A s.heap s.heap [] := va_S.rf
  have hP : va_P D vwCl [(h0, .inr (5, [.ref a, .int (nI k)])), (a, .inl (cB, n, .inl f))] s.heap := hP
  have hl := lv_entry ([.ref h0, .int (nI X)]) (n := 2) (Nat.le_of_ble_eq_true rfl)
  rw [lg_entry_eq]
  generalize (lg_sl ([.ref h0, .int (nI X)]) ++ List.replicate (2 - (lg_sl ([.ref h0, .int (nI X)])).length) Slot.unset).toArray = ls at hl ⊢
  have hl : lv_has ls 2 [(0, .ref h0), (1, .int (nI X))] := hl
  refine lv_aload_n hx hb dX5_signAt_0 rfl (lv_at hl 0 rfl) ?_
  refine lv_iload_n hx hb dX5_signAt_1 rfl (lv_at hl 1 rfl) ?_
  refine lv_iconst (v := 1) hx hb dX5_signAt_2 (by decide) ?_
  have hPc := hP.sub (ws' := [(h0, .inr (5, [.ref a, .int (nI k)]))]) [0] rfl
  have hDc := hD.sub (ws' := [(h0, .inr (5, [.ref a, .int (nI k)]))]) [0] (by decide) rfl
  have hFc := va_free (wc := [(h0, .inr (5, [.ref a, .int (nI k)]))]) hD hS hA [0] rfl
  refine va_calli (va_runV (As := [.int (nI X), .int 1]) (rest := []) ⟨hx, hb, hml, hown, hts⟩ (s_X5_holds l D cB cI cZ E s.heap.size h0 a k (nI X) 1 (by first | assumption | omega)) (cwV 2 hts (uV (uc10 _ (List.mem_of_getElem? (i := 1) rfl)) (uc10 _ (List.mem_of_getElem? (i := 2) rfl)) (uc10 _ (List.mem_of_getElem? (i := 3) rfl)) (uc1 _ (List.mem_of_getElem? (i := 14) rfl)) (uc10 _ (List.mem_of_getElem? (i := 4) rfl))) rfl rfl rfl (by decide +kernel) ⟨Nat.le_of_ble_eq_true rfl, Nat.le_of_ble_eq_true rfl⟩) (pVE hE hS hFc hK hPc hDc 0 rfl rfl) rfl rfl hl.1 rfl (lv_room (Nat.le_of_ble_eq_true rfl)) dX5_signAt_3 ⟨Nat.le_of_ble_eq_true rfl, Nat.le_of_ble_eq_true rfl⟩) hS (fun q _ h => hFc q h) hFc (fun r_1 u t H_2 L_3 ht hvm hw hB hz1 hk1 hS => ?_)
  obtain ⟨hP1, -, hD1⟩ := hB
  rw [ht] at hP1
  obtain ⟨hP, hD⟩ := va_join (wr := [(a, .inl (cB, n, .inl f))]) (w1 := [(h0, .inr (5, [.ref a, .int (nI k)]))]) hP hD [0] [1] rfl rfl (by decide) (by decide) hk1 hFc hP1 hD1
  have hP : va_P D vwCl [(h0, .inr (5, [.ref a, .int (nI k)])), (a, .inl (cB, n, .inl f))] H_2 := hP.sub [1, 0] rfl
  have hD : va_D A [(h0, .inr (5, [.ref a, .int (nI k)])), (a, .inl (cB, n, .inl f))] := hD.sub [1, 0] (by decide) rfl
  try dsimp only at hw
  rcases hw with ⟨rfl, h_4⟩ | ⟨rfl, h_5⟩
  · refine lv_if_eq (tgt := 18) hx hb dX5_signAt_6 (by decide) (fun c_6 => ?_) (fun c_6 => ?_)
    · exact False.elim (by revert c_6; decide)
    · refine lv_aload_n hx hb dX5_signAt_9 rfl (lv_at hl 0 rfl) ?_
      refine va_get (D := D) (ci := 5) (v := .ref a) (C := RX5) (T := TX5) (N := 2) hx hb hts hinX5 hown hK hP 0 rfl rfl 0 (by decide) (hts (.fieldLink RX5 15 "TaleReader$Text" "signs" "[B") (uc3 _ (List.mem_of_getElem? (i := 5) rfl))) (fun _ h9 => h9) rfl dX5_signAt_10 ?_
      refine lv_iload_n hx hb dX5_signAt_13 rfl (lv_at hl 1 rfl) ?_
      refine va_bald (D := D) hx hb hK hP 1 0 rfl rfl (vp_in_nI (by omega) (by omega)) dX5_signAt_14 ?_
      refine lv_topi (fun z_7 ez_7 => ?_)
      obtain rfl : z_7 = f X := ez_7.trans (congrArg f (nI_clamp (by omega)))
      refine lv_goto (tgt := 19) hx hb dX5_signAt_15 (by decide) ?_
      have hP9 := hP.sub (ws' := [(h0, .inr (5, [.ref a, .int (nI k)])), (a, .inl (cB, n, .inl f))]) [0, 1] rfl
      have hD9 := hD.sub (ws' := [(h0, .inr (5, [.ref a, .int (nI k)])), (a, .inl (cB, n, .inl f))]) [0, 1] (by decide) rfl
      exact W.iret (v := f X) hx hb hr (fun t ht hW => ⟨⟨f X, (), rfl, rfl, ⟨by rw [ht]; exact hP9, va_K.moved hW.alike hK, hD9⟩⟩, hS.F ht⟩) hS.2.2 dX5_signAt_19
  · exact False.elim (by exact h_5 ⟨X, 1, rfl, rfl, by omega⟩)
set_option maxHeartbeats 4000000 in
set_option maxRecDepth 100000 in
theorem f_X5_addAll (l : Launch) (D : va_G) (cB cI cZ : ClassId) (E : pEt) (sz : Nat) (h0 : Nat) (h1 : Nat) (a : Nat) (k : Nat) (n : Nat) (f : Nat → Int32) (a1 : Nat) (k1 : Nat) (n1 : Nat) (f1 : Nat → Int32) (tg : Nat → Nat) (hkk : k + k1 ≤ n) (hn : n ≤ 600) (hk1 : k1 ≤ n1) (hn1 : n1 ≤ 600) (hT1 : qT k1 f1 tg) : Met l yX5_addAll (.code yX5_addAll cX5_addAll 3 none :: wsL_law) ({ frames := 2, cells := 0, slots := 0, locals := 43 } : Room) (va_Pc [.ref h0, .ref h1] (pInE E D (pT cB cI cZ) sz [(h0, .inr (5, [.ref a, .int (nI k)])), (a, .inl (cB, n, .inl f)), (h1, .inr (5, [.ref a1, .int (nI k1)])), (a1, .inl (cB, n1, .inl f1))])) (va_Qv (fun (u : Nat × (Nat → Int32)) => (k + k1 = u.1) ∧ (∀ j, j < k → u.2 j = f j) ∧ (∀ j, j < k1 → u.2 (k + j) = sb_b (tg j))) (fun (u : Nat × (Nat → Int32)) (t : State) => pAt D (pT cB cI cZ) (va_A [(h0, .inr (5, [.ref a, .int (nI k)])), (a, .inl (cB, n, .inl f)), (h1, .inr (5, [.ref a1, .int (nI k1)])), (a1, .inl (cB, n1, .inl f1))] sz) [(h0, .inr (5, [.ref a, .int (nI u.1)])), (a, .inl (cB, n, .inl u.2)), (h1, .inr (5, [.ref a1, .int (nI k1)])), (a1, .inl (cB, n1, .inl f1))] t) (va_A [(h0, .inr (5, [.ref a, .int (nI k)])), (a, .inl (cB, n, .inl f)), (h1, .inr (5, [.ref a1, .int (nI k1)])), (a1, .inl (cB, n1, .inl f1))] sz)) 0 0 (va_A [(h0, .inr (5, [.ref a, .int (nI k)])), (a, .inl (cB, n, .inl f)), (h1, .inr (5, [.ref a1, .int (nI k1)])), (a1, .inl (cB, n1, .inl f1))] sz) := by
  refine Met.ofW (cc := cX5_addAll) (maxL := 3) (ret := none) (by decide) rfl ?_
  intro p e s m args below meth cd s₁ B hml hv
  obtain ⟨rfl, hsz, hP, hK, hD0, hE⟩ := hv
  have hx := B.exec
  have hb := B.bytes
  have hr := B.returns
  have hts0 := atoms_spec (ws := .code yX5_addAll cX5_addAll 3 none :: wsL_law) B.pre
  have hts := fun (w : Cond) (h : w ∈ wsL_law) => hts0 w (List.mem_cons_of_mem _ h)
  have hown : s.vm.findClass RX5 = some m.cls := findClass_of_methodNamed B.named
  have hlocks := B.notSynchronized
  have hinX5 := inlX5
  subst hsz
  have hD := hD0.self (sz := s.heap.size)
  generalize hAe : va_A [(h0, .inr (5, [.ref a, .int (nI k)])), (a, .inl (cB, n, .inl f)), (h1, .inr (5, [.ref a1, .int (nI k1)])), (a1, .inl (cB, n1, .inl f1))] s.heap.size = A at hD hE ⊢
  have hA : ∀ q : Nat, s.heap.size ≤ q → A q := fun q h => by rw [← hAe]; exact Or.inr h
  have hS : va_S A s.heap s.heap [] := va_S.rf
  have hP : va_P D vwCl [(h0, .inr (5, [.ref a, .int (nI k)])), (a, .inl (cB, n, .inl f)), (h1, .inr (5, [.ref a1, .int (nI k1)])), (a1, .inl (cB, n1, .inl f1))] s.heap := hP
  have hl := lv_entry ([.ref h0, .ref h1]) (n := 3) (Nat.le_of_ble_eq_true rfl)
  rw [lg_entry_eq]
  generalize (lg_sl ([.ref h0, .ref h1]) ++ List.replicate (3 - (lg_sl ([.ref h0, .ref h1])).length) Slot.unset).toArray = ls at hl ⊢
  have hl : lv_has ls 3 [(0, .ref h0), (1, .ref h1)] := hl
  generalize hQ : MQ below _ _ _ _ _ _ = Q
  refine lv_iconst (v := 0) hx hb dX5_addAll_0 (by decide) ?_
  refine lv_istore_n (lv' := [(2, .int 0), (0, .ref h0), (1, .ref h1)]) hx hb dX5_addAll_1 rfl hl (by decide) rfl (fun ls hl => ?_)
  have loop_1 : ∀ (nn_3 : Nat) (i : Nat) (g : Nat → Int32), (i ≤ k1) → (∀ j, j < k → g j = f j) → (∀ j, j < i → g (k + j) = sb_b (tg j)) → (k1 - i < nn_3) → ∀ (H : Heap) (locs : List Loc) (ls : Array Slot), va_P D vwCl [(h0, .inr (5, [.ref a, .int (nI (k + i))])), (a, .inl (cB, n, .inl g)), (h1, .inr (5, [.ref a1, .int (nI k1)])), (a1, .inl (cB, n1, .inl f1))] H → va_D A [(h0, .inr (5, [.ref a, .int (nI (k + i))])), (a, .inl (cB, n, .inl g)), (h1, .inr (5, [.ref a1, .int (nI k1)])), (a1, .inl (cB, n1, .inl f1))] → va_S A s.heap H locs → lv_has ls 3 [(0, .ref h0), (1, .ref h1), (2, .int (nI i))] → W p l e ({ frames := 2, cells := 0, slots := 0, locals := 43 } : Room) s m ([.ref h0, .ref h1] : List Value).toArray below meth cd H locs 0 0 Q (F0 m 2 ls []) := by
    intro nn_3
    induction nn_3 with
    | zero => intros; exact absurd ‹_ < 0› (Nat.not_lt_zero _)
    | succ nn_3 ih_2 =>
      intro i g hi hg1 hg2 hmu H locs ls hP hD hS hl
      refine lv_iload_n hx hb dX5_addAll_2 rfl (lv_at hl 2 rfl) ?_
      refine lv_aload_n hx hb dX5_addAll_3 rfl (lv_at hl 1 rfl) ?_
      refine va_get (D := D) (ci := 5) (v := .int (nI k1)) (C := RX5) (T := TX5) (N := 2) hx hb hts hinX5 hown hK hP 2 rfl rfl 1 (by decide) (hts (.fieldLink RX5 21 "TaleReader$Text" "size" "I") (uc3 _ (List.mem_of_getElem? (i := 6) rfl))) (fun _ h9 => h9) rfl dX5_addAll_4 ?_
      refine lv_icmp_ge (tgt := 25) hx hb dX5_addAll_7 (by decide) (fun c_4 => ?_) (fun c_4 => ?_)
      · have hge := (nI_leI (by omega) (by omega)).mp c_4
        have hik1 : i = k1 := by omega
        have hP9 := hP.sub (ws' := [(h0, .inr (5, [.ref a, .int (nI (k + i))])), (a, .inl (cB, n, .inl g)), (h1, .inr (5, [.ref a1, .int (nI k1)])), (a1, .inl (cB, n1, .inl f1))]) [0, 1, 2, 3] rfl
        have hD9 := hD.sub (ws' := [(h0, .inr (5, [.ref a, .int (nI (k + i))])), (a, .inl (cB, n, .inl g)), (h1, .inr (5, [.ref a1, .int (nI k1)])), (a1, .inl (cB, n1, .inl f1))]) [0, 1, 2, 3] (by decide) rfl
        rw [← hQ]
        exact W.vret hx hb hr (fun t ht hW => ⟨⟨(k + i, g), rfl, ⟨by omega, hg1, fun j hj => hg2 j (by omega)⟩, ⟨by rw [ht]; exact hP9, va_K.moved hW.alike hK, hD9⟩⟩, hS.F ht⟩) hS.2.2 dX5_addAll_25
      · have hik : i < k1 := Nat.lt_of_not_le (fun q => c_4 (nI_le q (by omega)))
        refine lv_aload_n hx hb dX5_addAll_10 rfl (lv_at hl 0 rfl) ?_
        refine lv_aload_n hx hb dX5_addAll_11 rfl (lv_at hl 1 rfl) ?_
        refine lv_iload_n hx hb dX5_addAll_12 rfl (lv_at hl 2 rfl) ?_
        have hPc := hP.sub (ws' := [(h1, .inr (5, [.ref a1, .int (nI k1)])), (a1, .inl (cB, n1, .inl f1))]) [2, 3] rfl
        have hDc := hD.sub (ws' := [(h1, .inr (5, [.ref a1, .int (nI k1)])), (a1, .inl (cB, n1, .inl f1))]) [2, 3] (by decide) rfl
        have hFc := va_free (wc := [(h1, .inr (5, [.ref a1, .int (nI k1)])), (a1, .inl (cB, n1, .inl f1))]) hD hS hA [2, 3] rfl
        refine va_calli (va_runV (As := [.int (nI i)]) (rest := [.ref h0]) ⟨hx, hb, hml, hown, hts⟩ (f_X5_signAt l D cB cI cZ E H.size h1 i a1 k1 n1 f1 (by first | assumption | omega) (by first | assumption | omega) (by first | assumption | omega)) (cwV 1 hts (uV (uc9 _ (List.mem_of_getElem? (i := 21) rfl)) (uc9 _ (List.mem_of_getElem? (i := 22) rfl)) (uc9 _ (List.mem_of_getElem? (i := 23) rfl)) (uc1 _ (List.mem_of_getElem? (i := 14) rfl)) (uc10 _ (List.mem_of_getElem? (i := 0) rfl))) rfl rfl rfl (by decide +kernel) ⟨Nat.le_of_ble_eq_true rfl, Nat.le_of_ble_eq_true rfl⟩) (pVE hE hS hFc hK hPc hDc 0 rfl rfl) rfl rfl hl.1 rfl (lv_room (Nat.le_of_ble_eq_true rfl)) dX5_addAll_13 ⟨Nat.le_of_ble_eq_true rfl, Nat.le_of_ble_eq_true rfl⟩) hS (fun q _ h => hFc q h) hFc (fun r_5 u t H_6 L_7 ht hvm hw hB hz1 hk1 hS => ?_)
        obtain ⟨hP1, -, hD1⟩ := hB
        rw [ht] at hP1
        obtain ⟨hP, hD⟩ := va_join (wr := [(h0, .inr (5, [.ref a, .int (nI (k + i))])), (a, .inl (cB, n, .inl g))]) (w1 := [(h1, .inr (5, [.ref a1, .int (nI k1)])), (a1, .inl (cB, n1, .inl f1))]) hP hD [2, 3] [0, 1] rfl rfl (by decide) (by decide) hk1 hFc hP1 hD1
        have hP : va_P D vwCl [(h0, .inr (5, [.ref a, .int (nI (k + i))])), (a, .inl (cB, n, .inl g)), (h1, .inr (5, [.ref a1, .int (nI k1)])), (a1, .inl (cB, n1, .inl f1))] H_6 := hP.sub [0, 1, 2, 3] rfl
        have hD : va_D A [(h0, .inr (5, [.ref a, .int (nI (k + i))])), (a, .inl (cB, n, .inl g)), (h1, .inr (5, [.ref a1, .int (nI k1)])), (a1, .inl (cB, n1, .inl f1))] := hD.sub [0, 1, 2, 3] (by decide) rfl
        try dsimp only at hw
        subst hw
        have hPc := hP.sub (ws' := [(h0, .inr (5, [.ref a, .int (nI (k + i))])), (a, .inl (cB, n, .inl g))]) [0, 1] rfl
        have hDc := hD.sub (ws' := [(h0, .inr (5, [.ref a, .int (nI (k + i))])), (a, .inl (cB, n, .inl g))]) [0, 1] (by decide) rfl
        have hFc := va_free (wc := [(h0, .inr (5, [.ref a, .int (nI (k + i))])), (a, .inl (cB, n, .inl g))]) hD hS hA [0, 1] rfl
        refine va_callv (va_runV (As := [.int (f1 i)]) (rest := []) ⟨hx, hb, hml, hown, hts⟩ (s_X5_addSign l D cB cI cZ E H_6.size h0 a n (k + i) g (f1 i) (by first | assumption | omega) (by first | assumption | omega)) (cwV 1 hts (uV (uc8 _ (List.mem_of_getElem? (i := 5) rfl)) (uc8 _ (List.mem_of_getElem? (i := 6) rfl)) (uc8 _ (List.mem_of_getElem? (i := 7) rfl)) (uc1 _ (List.mem_of_getElem? (i := 14) rfl)) (uc8 _ (List.mem_of_getElem? (i := 8) rfl))) rfl rfl rfl (by decide +kernel) ⟨Nat.le_of_ble_eq_true rfl, Nat.le_of_ble_eq_true rfl⟩) (pVE hE hS hFc hK hPc hDc 0 rfl rfl) rfl rfl hl.1 rfl (lv_room (Nat.le_of_ble_eq_true rfl)) dX5_addAll_16 ⟨Nat.le_of_ble_eq_true rfl, Nat.le_of_ble_eq_true rfl⟩) hS (fun q _ h => hFc q h) hFc (fun u t H_9 L_10 ht hvm hw hB hz1 hk1 hS => ?_)
        obtain ⟨k_11, f_12⟩ := u
        obtain ⟨hP1, -, hD1⟩ := hB
        rw [ht] at hP1
        obtain ⟨hP, hD⟩ := va_join (wr := [(h1, .inr (5, [.ref a1, .int (nI k1)])), (a1, .inl (cB, n1, .inl f1))]) (w1 := [(h0, .inr (5, [.ref a, .int (nI k_11)])), (a, .inl (cB, n, .inl f_12))]) hP hD [0, 1] [2, 3] rfl rfl (by decide) (by decide) hk1 hFc hP1 hD1
        have hP : va_P D vwCl [(h0, .inr (5, [.ref a, .int (nI k_11)])), (a, .inl (cB, n, .inl f_12)), (h1, .inr (5, [.ref a1, .int (nI k1)])), (a1, .inl (cB, n1, .inl f1))] H_9 := hP.sub [2, 3, 0, 1] rfl
        have hD : va_D A [(h0, .inr (5, [.ref a, .int (nI k_11)])), (a, .inl (cB, n, .inl f_12)), (h1, .inr (5, [.ref a1, .int (nI k1)])), (a1, .inl (cB, n1, .inl f1))] := hD.sub [2, 3, 0, 1] (by decide) rfl
        try dsimp only at hw
        rcases hw with ⟨h_13, rfl, rfl⟩ | ⟨h_14, rfl, rfl⟩
        · refine lv_iinc (v := nI (i + 1)) (lv' := [(2, .int (nI (i + 1))), (0, .ref h0), (1, .ref h1)]) hx hb dX5_addAll_19 hl (k := 2) rfl (nI_add i 1) (by decide) rfl (fun ls hl => ?_)
          refine lv_goto (tgt := 2) hx hb dX5_addAll_22 (by decide) ?_
          exact ih_2 (i + 1) (upd g (k + i) (f1 i).toInt8.toInt32) (by first | assumption | exact Or.inl rfl | exact Or.inr rfl | omega) (fun j hj => by rw [pk_un (by omega)]; exact hg1 j hj) (qAllS hg2 (hT1 i hik)) (by omega) H_9 _ ls (hP.sub (ws' := [(h0, .inr (5, [.ref a, .int (nI (k + i + 1))])), (a, .inl (cB, n, .inl (upd g (k + i) (f1 i).toInt8.toInt32))), (h1, .inr (5, [.ref a1, .int (nI k1)])), (a1, .inl (cB, n1, .inl f1))]) [0, 1, 2, 3] rfl) (hD.sub (ws' := [(h0, .inr (5, [.ref a, .int (nI (k + i + 1))])), (a, .inl (cB, n, .inl (upd g (k + i) (f1 i).toInt8.toInt32))), (h1, .inr (5, [.ref a1, .int (nI k1)])), (a1, .inl (cB, n1, .inl f1))]) [0, 1, 2, 3] (by decide) rfl) hS (lv_sub hl [1, 2, 0] rfl)
        · exact False.elim (by exact h_14 (by omega))
  exact loop_1 _ 0 f (by first | assumption | exact Or.inl rfl | exact Or.inr rfl | omega) (fun j _ => rfl) (qNil) (Nat.lt_succ_self _) s.heap _ ls (hP.sub (ws' := [(h0, .inr (5, [.ref a, .int (nI k)])), (a, .inl (cB, n, .inl f)), (h1, .inr (5, [.ref a1, .int (nI k1)])), (a1, .inl (cB, n1, .inl f1))]) [0, 1, 2, 3] rfl) (hD.sub (ws' := [(h0, .inr (5, [.ref a, .int (nI k)])), (a, .inl (cB, n, .inl f)), (h1, .inr (5, [.ref a1, .int (nI k1)])), (a1, .inl (cB, n1, .inl f1))]) [0, 1, 2, 3] (by decide) rfl) hS (lv_sub hl [1, 2, 0] rfl)
set_option maxHeartbeats 4000000 in
set_option maxRecDepth 100000 in
theorem f_X5_looksLikeName (l : Launch) (D : va_G) (cB cI cZ : ClassId) (E : pEt) (sz : Nat) (h0 : Nat) (X : Nat) (Y : Nat) (a : Nat) (k : Nat) (n : Nat) (f : Nat → Int32) (tt : Nat → Nat) (hk : k ≤ n) (hn : n ≤ 600) (hT : qT k f tt) (hXY : X + Y ≤ k) : Met l yX5_looksLikeName (.code yX5_looksLikeName cX5_looksLikeName 4 (some .boolean) :: wsL_law) ({ frames := 1, cells := 0, slots := 0, locals := 22 } : Room) (va_Pc [.ref h0, .int (nI X), .int (nI Y)] (pInE E D (pT cB cI cZ) sz [(h0, .inr (5, [.ref a, .int (nI k)])), (a, .inl (cB, n, .inl f))])) (va_Qi (fun (r : Int32) (u : Unit) => ((1 = r) ∧ (qNm tt X Y)) ∨ ((0 = r) ∧ (¬ qNm tt X Y))) (fun (u : Unit) (t : State) => pAt D (pT cB cI cZ) (va_A [(h0, .inr (5, [.ref a, .int (nI k)])), (a, .inl (cB, n, .inl f))] sz) [(h0, .inr (5, [.ref a, .int (nI k)])), (a, .inl (cB, n, .inl f))] t) (va_A [(h0, .inr (5, [.ref a, .int (nI k)])), (a, .inl (cB, n, .inl f))] sz)) 0 0 (va_A [(h0, .inr (5, [.ref a, .int (nI k)])), (a, .inl (cB, n, .inl f))] sz) := by
  refine Met.ofW (cc := cX5_looksLikeName) (maxL := 4) (ret := (some .boolean)) (by decide) rfl ?_
  intro p e s m args below meth cd s₁ B hml hv
  obtain ⟨rfl, hsz, hP, hK, hD0, hE⟩ := hv
  have hx := B.exec
  have hb := B.bytes
  have hr := B.returns
  have hts0 := atoms_spec (ws := .code yX5_looksLikeName cX5_looksLikeName 4 (some .boolean) :: wsL_law) B.pre
  have hts := fun (w : Cond) (h : w ∈ wsL_law) => hts0 w (List.mem_cons_of_mem _ h)
  have hown : s.vm.findClass RX5 = some m.cls := findClass_of_methodNamed B.named
  have hlocks := B.notSynchronized
  have hinX5 := inlX5
  subst hsz
  have hD := hD0.self (sz := s.heap.size)
  generalize hAe : va_A [(h0, .inr (5, [.ref a, .int (nI k)])), (a, .inl (cB, n, .inl f))] s.heap.size = A at hD hE ⊢
  have hA : ∀ q : Nat, s.heap.size ≤ q → A q := fun q h => by rw [← hAe]; exact Or.inr h
  have hS : va_S A s.heap s.heap [] := va_S.rf
  have hP : va_P D vwCl [(h0, .inr (5, [.ref a, .int (nI k)])), (a, .inl (cB, n, .inl f))] s.heap := hP
  have hl := lv_entry ([.ref h0, .int (nI X), .int (nI Y)]) (n := 4) (Nat.le_of_ble_eq_true rfl)
  rw [lg_entry_eq]
  generalize (lg_sl ([.ref h0, .int (nI X), .int (nI Y)]) ++ List.replicate (4 - (lg_sl ([.ref h0, .int (nI X), .int (nI Y)])).length) Slot.unset).toArray = ls at hl ⊢
  have hl : lv_has ls 4 [(0, .ref h0), (1, .int (nI X)), (2, .int (nI Y))] := hl
  generalize hQ : MQ below _ _ _ _ _ _ = Q
  refine lv_iload_n hx hb dX5_looksLikeName_0 rfl (lv_at hl 2 rfl) ?_
  refine lv_iconst (v := 2) hx hb dX5_looksLikeName_1 (by decide) ?_
  refine lv_icmp_lt (tgt := 20) hx hb dX5_looksLikeName_2 (by decide) (fun c_1 => ?_) (fun c_1 => ?_)
  · have hY2 : Y < 2 := (nI_ltI (b := 2) (by omega) (by decide)).mp c_1
    refine lv_iconst (v := 0) hx hb dX5_looksLikeName_20 (by decide) ?_
    have hP9 := hP.sub (ws' := [(h0, .inr (5, [.ref a, .int (nI k)])), (a, .inl (cB, n, .inl f))]) [0, 1] rfl
    have hD9 := hD.sub (ws' := [(h0, .inr (5, [.ref a, .int (nI k)])), (a, .inl (cB, n, .inl f))]) [0, 1] (by decide) rfl
    rw [← hQ]
    exact W.zret (v := 0) hx hb hr (rfl) (fun t ht hW => ⟨⟨0, (), rfl, Or.inr ((⟨rfl, fun q => by have := q.1; omega⟩)), ⟨by rw [ht]; exact hP9, va_K.moved hW.alike hK, hD9⟩⟩, hS.F ht⟩) hS.2.2 dX5_looksLikeName_21
  · have hY2 : 2 ≤ Y := Nat.le_of_not_lt (fun q => c_1 (nI_lt (b := 2) q (by decide)))
    refine lv_iload_n hx hb dX5_looksLikeName_5 rfl (lv_at hl 2 rfl) ?_
    refine lv_bipush (v := 10) hx hb dX5_looksLikeName_6 (by decide) ?_
    refine lv_icmp_gt (tgt := 20) hx hb dX5_looksLikeName_8 (by decide) (fun c_2 => ?_) (fun c_2 => ?_)
    · have hY10 : 10 < Y := (nI_ltI (a := 10) (by decide) (by omega)).mp c_2
      refine lv_iconst (v := 0) hx hb dX5_looksLikeName_20 (by decide) ?_
      have hP9 := hP.sub (ws' := [(h0, .inr (5, [.ref a, .int (nI k)])), (a, .inl (cB, n, .inl f))]) [0, 1] rfl
      have hD9 := hD.sub (ws' := [(h0, .inr (5, [.ref a, .int (nI k)])), (a, .inl (cB, n, .inl f))]) [0, 1] (by decide) rfl
      rw [← hQ]
      exact W.zret (v := 0) hx hb hr (rfl) (fun t ht hW => ⟨⟨0, (), rfl, Or.inr ((⟨rfl, fun q => by have := q.2.1; omega⟩)), ⟨by rw [ht]; exact hP9, va_K.moved hW.alike hK, hD9⟩⟩, hS.F ht⟩) hS.2.2 dX5_looksLikeName_21
    · have hY10 : Y ≤ 10 := Nat.le_of_not_lt (fun q => c_2 (nI_lt (a := 10) q (by omega)))
      refine lv_aload_n hx hb dX5_looksLikeName_11 rfl (lv_at hl 0 rfl) ?_
      refine lv_iload_n hx hb dX5_looksLikeName_12 rfl (lv_at hl 1 rfl) ?_
      refine lv_iload_n hx hb dX5_looksLikeName_13 rfl (lv_at hl 2 rfl) ?_
      have hPc := hP.sub (ws' := [(h0, .inr (5, [.ref a, .int (nI k)]))]) [0] rfl
      have hDc := hD.sub (ws' := [(h0, .inr (5, [.ref a, .int (nI k)]))]) [0] (by decide) rfl
      have hFc := va_free (wc := [(h0, .inr (5, [.ref a, .int (nI k)]))]) hD hS hA [0] rfl
      refine va_calli (va_runV (As := [.int (nI X), .int (nI Y)]) (rest := []) ⟨hx, hb, hml, hown, hts⟩ (s_X5_holds l D cB cI cZ E s.heap.size h0 a k (nI X) (nI Y) (by first | assumption | omega)) (cwV 2 hts (uV (uc10 _ (List.mem_of_getElem? (i := 1) rfl)) (uc10 _ (List.mem_of_getElem? (i := 2) rfl)) (uc10 _ (List.mem_of_getElem? (i := 3) rfl)) (uc1 _ (List.mem_of_getElem? (i := 14) rfl)) (uc10 _ (List.mem_of_getElem? (i := 4) rfl))) rfl rfl rfl (by decide +kernel) ⟨Nat.le_of_ble_eq_true rfl, Nat.le_of_ble_eq_true rfl⟩) (pVE hE hS hFc hK hPc hDc 0 rfl rfl) rfl rfl hl.1 rfl (lv_room (Nat.le_of_ble_eq_true rfl)) dX5_looksLikeName_14 ⟨Nat.le_of_ble_eq_true rfl, Nat.le_of_ble_eq_true rfl⟩) hS (fun q _ h => hFc q h) hFc (fun r_3 u t H_4 L_5 ht hvm hw hB hz1 hk1 hS => ?_)
      obtain ⟨hP1, -, hD1⟩ := hB
      rw [ht] at hP1
      obtain ⟨hP, hD⟩ := va_join (wr := [(a, .inl (cB, n, .inl f))]) (w1 := [(h0, .inr (5, [.ref a, .int (nI k)]))]) hP hD [0] [1] rfl rfl (by decide) (by decide) hk1 hFc hP1 hD1
      have hP : va_P D vwCl [(h0, .inr (5, [.ref a, .int (nI k)])), (a, .inl (cB, n, .inl f))] H_4 := hP.sub [1, 0] rfl
      have hD : va_D A [(h0, .inr (5, [.ref a, .int (nI k)])), (a, .inl (cB, n, .inl f))] := hD.sub [1, 0] (by decide) rfl
      try dsimp only at hw
      rcases hw with ⟨rfl, h_6⟩ | ⟨rfl, h_7⟩
      · refine lv_if_ne (tgt := 22) hx hb dX5_looksLikeName_17 (by decide) (fun c_8 => ?_) (fun c_8 => ?_)
        · refine lv_aload_n hx hb dX5_looksLikeName_22 rfl (lv_at hl 0 rfl) ?_
          refine va_get (D := D) (ci := 5) (v := .ref a) (C := RX5) (T := TX5) (N := 2) hx hb hts hinX5 hown hK hP 0 rfl rfl 0 (by decide) (hts (.fieldLink RX5 15 "TaleReader$Text" "signs" "[B") (uc3 _ (List.mem_of_getElem? (i := 5) rfl))) (fun _ h9 => h9) rfl dX5_looksLikeName_23 ?_
          refine lv_iload_n hx hb dX5_looksLikeName_26 rfl (lv_at hl 1 rfl) ?_
          refine va_bald (D := D) hx hb hK hP 1 0 rfl rfl (vp_in_nI (by omega) (by omega)) dX5_looksLikeName_27 ?_
          refine lv_topi (fun z_9 ez_9 => ?_)
          obtain rfl : z_9 = sb_b (tt (X)) := ez_9.trans ((congrArg f (nI_clamp (by omega))).trans (hT (X) (by omega)).1)
          have hPc := hP.sub (ws' := []) [] rfl
          have hDc := hD.sub (ws' := []) [] (by decide) rfl
          have hFc := va_free (wc := []) hD hS hA [] rfl
          refine va_calli (va_runSN (As := [.int (sb_b (tt (X)))]) (rest := []) ⟨hx, hb, hml, hown, hts⟩ (s_isCapital l D cB cI cZ E H_4.size (sb_b (tt (X)))) ⟨va_cnB 1 hts (uI (uc10 _ (List.mem_of_getElem? (i := 18) rfl))) rfl rfl rfl (pN_RX5_41 hE) (hts (.initialized RX8) (uc1 _ (List.mem_of_getElem? (i := 2) rfl))) (by decide +kernel) ⟨Nat.le_of_ble_eq_true rfl, Nat.le_of_ble_eq_true rfl⟩, (hts (.static yX8_isCapital) (uc10 _ (List.mem_of_getElem? (i := 17) rfl))), trivial⟩ (pSE hE hS hFc hK hPc hDc) rfl rfl hl.1 rfl (lv_room (Nat.le_of_ble_eq_true rfl)) dX5_looksLikeName_28 ⟨Nat.le_of_ble_eq_true rfl, Nat.le_of_ble_eq_true rfl⟩) hS (fun q _ h => hFc q h) hFc (fun r_10 u t H_11 L_12 ht hvm hw hB hz1 hk1 hS => ?_)
          obtain ⟨hP1, -, hD1⟩ := hB
          rw [ht] at hP1
          obtain ⟨hP, hD⟩ := va_join (wr := [(h0, .inr (5, [.ref a, .int (nI k)])), (a, .inl (cB, n, .inl f))]) (w1 := []) hP hD [] [0, 1] rfl rfl (by decide) (by decide) hk1 hFc hP1 hD1
          have hP : va_P D vwCl [(h0, .inr (5, [.ref a, .int (nI k)])), (a, .inl (cB, n, .inl f))] H_11 := hP.sub [0, 1] rfl
          have hD : va_D A [(h0, .inr (5, [.ref a, .int (nI k)])), (a, .inl (cB, n, .inl f))] := hD.sub [0, 1] (by decide) rfl
          try dsimp only at hw
          rcases hw with ⟨rfl, h_13⟩ | ⟨rfl, h_14, h_15⟩
          · have hnc := qb_cap0 (hT X (by omega)).2 h_13
            refine lv_if_ne (tgt := 36) hx hb dX5_looksLikeName_31 (by decide) (fun c_16 => ?_) (fun c_16 => ?_)
            · exact False.elim (by revert c_16; decide)
            · refine lv_iconst (v := 0) hx hb dX5_looksLikeName_34 (by decide) ?_
              have hP9 := hP.sub (ws' := [(h0, .inr (5, [.ref a, .int (nI k)])), (a, .inl (cB, n, .inl f))]) [0, 1] rfl
              have hD9 := hD.sub (ws' := [(h0, .inr (5, [.ref a, .int (nI k)])), (a, .inl (cB, n, .inl f))]) [0, 1] (by decide) rfl
              rw [← hQ]
              exact W.zret (v := 0) hx hb hr (rfl) (fun t ht hW => ⟨⟨0, (), rfl, Or.inr ((⟨rfl, fun q => hnc q.2.2.1⟩)), ⟨by rw [ht]; exact hP9, va_K.moved hW.alike hK, hD9⟩⟩, hS.F ht⟩) hS.2.2 dX5_looksLikeName_35
          · have hcp := qb_cap1 (hT X (by omega)).2 h_14 h_15
            refine lv_if_ne (tgt := 36) hx hb dX5_looksLikeName_31 (by decide) (fun c_17 => ?_) (fun c_17 => ?_)
            · refine lv_iconst (v := 1) hx hb dX5_looksLikeName_36 (by decide) ?_
              refine lv_istore_n (lv' := [(3, .int 1), (0, .ref h0), (1, .int (nI X)), (2, .int (nI Y))]) hx hb dX5_looksLikeName_37 rfl hl (by decide) rfl (fun ls hl => ?_)
              have loop_18 : ∀ (nn_20 : Nat) (i : Nat), (1 ≤ i) → (i ≤ Y) → (∀ j, 1 ≤ j → j < i → qSm (tt (X + j))) → (Y - i < nn_20) → ∀ (H : Heap) (locs : List Loc) (ls : Array Slot), va_P D vwCl [(h0, .inr (5, [.ref a, .int (nI k)])), (a, .inl (cB, n, .inl f))] H → va_D A [(h0, .inr (5, [.ref a, .int (nI k)])), (a, .inl (cB, n, .inl f))] → va_S A s.heap H locs → lv_has ls 4 [(0, .ref h0), (1, .int (nI X)), (2, .int (nI Y)), (3, .int (nI i))] → W p l e ({ frames := 1, cells := 0, slots := 0, locals := 22 } : Room) s m ([.ref h0, .int (nI X), .int (nI Y)] : List Value).toArray below meth cd H locs 0 0 Q (F0 m 38 ls []) := by
                intro nn_20
                induction nn_20 with
                | zero => intros; exact absurd ‹_ < 0› (Nat.not_lt_zero _)
                | succ nn_20 ih_19 =>
                  intro i h1i hiY hs hmu H locs ls hP hD hS hl
                  refine lv_iload_n hx hb dX5_looksLikeName_38 rfl (lv_at hl 3 rfl) ?_
                  refine lv_iload_n hx hb dX5_looksLikeName_39 rfl (lv_at hl 2 rfl) ?_
                  refine lv_icmp_ge (tgt := 65) hx hb dX5_looksLikeName_40 (by decide) (fun c_21 => ?_) (fun c_21 => ?_)
                  · have hge := (nI_leI (by omega) (by omega)).mp c_21
                    refine lv_iconst (v := 1) hx hb dX5_looksLikeName_65 (by decide) ?_
                    have hP9 := hP.sub (ws' := [(h0, .inr (5, [.ref a, .int (nI k)])), (a, .inl (cB, n, .inl f))]) [0, 1] rfl
                    have hD9 := hD.sub (ws' := [(h0, .inr (5, [.ref a, .int (nI k)])), (a, .inl (cB, n, .inl f))]) [0, 1] (by decide) rfl
                    rw [← hQ]
                    exact W.zret (v := 1) hx hb hr (rfl) (fun t ht hW => ⟨⟨1, (), rfl, Or.inl (⟨rfl, ⟨hY2, hY10, hcp, fun j h1 hj => hs j h1 (by omega)⟩⟩), ⟨by rw [ht]; exact hP9, va_K.moved hW.alike hK, hD9⟩⟩, hS.F ht⟩) hS.2.2 dX5_looksLikeName_66
                  · have hiY2 : i < Y := Nat.lt_of_not_le (fun q => c_21 (nI_le q (by omega)))
                    refine lv_aload_n hx hb dX5_looksLikeName_43 rfl (lv_at hl 0 rfl) ?_
                    refine va_get (D := D) (ci := 5) (v := .ref a) (C := RX5) (T := TX5) (N := 2) hx hb hts hinX5 hown hK hP 0 rfl rfl 0 (by decide) (hts (.fieldLink RX5 15 "TaleReader$Text" "signs" "[B") (uc3 _ (List.mem_of_getElem? (i := 5) rfl))) (fun _ h9 => h9) rfl dX5_looksLikeName_44 ?_
                    refine lv_iload_n hx hb dX5_looksLikeName_47 rfl (lv_at hl 1 rfl) ?_
                    refine lv_iload_n hx hb dX5_looksLikeName_48 rfl (lv_at hl 3 rfl) ?_
                    refine lv_iadd hx hb dX5_looksLikeName_49 ?_
                    refine lv_topi (fun z_22 ez_22 => ?_)
                    obtain rfl : z_22 = nI (X + i) := ez_22.trans (nI_add X i)
                    refine va_bald (D := D) hx hb hK hP 1 0 rfl rfl (vp_in_nI (by omega) (by omega)) dX5_looksLikeName_50 ?_
                    refine lv_topi (fun z_23 ez_23 => ?_)
                    obtain rfl : z_23 = sb_b (tt (X + i)) := ez_23.trans ((congrArg f (nI_clamp (by omega))).trans (hT (X + i) (by omega)).1)
                    have hPc := hP.sub (ws' := []) [] rfl
                    have hDc := hD.sub (ws' := []) [] (by decide) rfl
                    have hFc := va_free (wc := []) hD hS hA [] rfl
                    refine va_calli (va_runSN (As := [.int (sb_b (tt (X + i)))]) (rest := []) ⟨hx, hb, hml, hown, hts⟩ (s_isSmall l D cB cI cZ E H.size (sb_b (tt (X + i)))) ⟨va_cnB 1 hts (uI (uc10 _ (List.mem_of_getElem? (i := 16) rfl))) rfl rfl rfl (pN_RX5_37 hE) (hts (.initialized RX8) (uc1 _ (List.mem_of_getElem? (i := 2) rfl))) (by decide +kernel) ⟨Nat.le_of_ble_eq_true rfl, Nat.le_of_ble_eq_true rfl⟩, (hts (.static yX8_isSmall) (uc10 _ (List.mem_of_getElem? (i := 15) rfl))), trivial⟩ (pSE hE hS hFc hK hPc hDc) rfl rfl hl.1 rfl (lv_room (Nat.le_of_ble_eq_true rfl)) dX5_looksLikeName_51 ⟨Nat.le_of_ble_eq_true rfl, Nat.le_of_ble_eq_true rfl⟩) hS (fun q _ h => hFc q h) hFc (fun r_24 u t H_25 L_26 ht hvm hw hB hz1 hk1 hS => ?_)
                    obtain ⟨hP1, -, hD1⟩ := hB
                    rw [ht] at hP1
                    obtain ⟨hP, hD⟩ := va_join (wr := [(h0, .inr (5, [.ref a, .int (nI k)])), (a, .inl (cB, n, .inl f))]) (w1 := []) hP hD [] [0, 1] rfl rfl (by decide) (by decide) hk1 hFc hP1 hD1
                    have hP : va_P D vwCl [(h0, .inr (5, [.ref a, .int (nI k)])), (a, .inl (cB, n, .inl f))] H_25 := hP.sub [0, 1] rfl
                    have hD : va_D A [(h0, .inr (5, [.ref a, .int (nI k)])), (a, .inl (cB, n, .inl f))] := hD.sub [0, 1] (by decide) rfl
                    try dsimp only at hw
                    rcases hw with ⟨rfl, h_27⟩ | ⟨rfl, h_28, h_29⟩
                    · have hns := qb_sm0 (hT (X + i) (by omega)).2 h_27
                      refine lv_if_ne (tgt := 59) hx hb dX5_looksLikeName_54 (by decide) (fun c_30 => ?_) (fun c_30 => ?_)
                      · exact False.elim (by revert c_30; decide)
                      · refine lv_iconst (v := 0) hx hb dX5_looksLikeName_57 (by decide) ?_
                        have hP9 := hP.sub (ws' := [(h0, .inr (5, [.ref a, .int (nI k)])), (a, .inl (cB, n, .inl f))]) [0, 1] rfl
                        have hD9 := hD.sub (ws' := [(h0, .inr (5, [.ref a, .int (nI k)])), (a, .inl (cB, n, .inl f))]) [0, 1] (by decide) rfl
                        rw [← hQ]
                        exact W.zret (v := 0) hx hb hr (rfl) (fun t ht hW => ⟨⟨0, (), rfl, Or.inr ((⟨rfl, fun q => hns (q.2.2.2 i h1i hiY2)⟩)), ⟨by rw [ht]; exact hP9, va_K.moved hW.alike hK, hD9⟩⟩, hS.F ht⟩) hS.2.2 dX5_looksLikeName_58
                    · have hsm := qb_sm1 (hT (X + i) (by omega)).2 h_28 h_29
                      refine lv_if_ne (tgt := 59) hx hb dX5_looksLikeName_54 (by decide) (fun c_31 => ?_) (fun c_31 => ?_)
                      · refine lv_iinc (v := nI (i + 1)) (lv' := [(3, .int (nI (i + 1))), (0, .ref h0), (1, .int (nI X)), (2, .int (nI Y))]) hx hb dX5_looksLikeName_59 hl (k := 3) rfl (nI_add i 1) (by decide) rfl (fun ls hl => ?_)
                        refine lv_goto (tgt := 38) hx hb dX5_looksLikeName_62 (by decide) ?_
                        exact ih_19 (i + 1) (by first | assumption | exact Or.inl rfl | exact Or.inr rfl | omega) (by first | assumption | exact Or.inl rfl | exact Or.inr rfl | omega) (qStep1 hs hsm) (by omega) H_25 _ ls (hP.sub (ws' := [(h0, .inr (5, [.ref a, .int (nI k)])), (a, .inl (cB, n, .inl f))]) [0, 1] rfl) (hD.sub (ws' := [(h0, .inr (5, [.ref a, .int (nI k)])), (a, .inl (cB, n, .inl f))]) [0, 1] (by decide) rfl) hS (lv_sub hl [1, 2, 3, 0] rfl)
                      · exact False.elim (by revert c_31; decide)
              exact loop_18 _ 1 (by first | assumption | exact Or.inl rfl | exact Or.inr rfl | omega) (by first | assumption | exact Or.inl rfl | exact Or.inr rfl | omega) (qNil1) (Nat.lt_succ_self _) H_11 _ ls (hP.sub (ws' := [(h0, .inr (5, [.ref a, .int (nI k)])), (a, .inl (cB, n, .inl f))]) [0, 1] rfl) (hD.sub (ws' := [(h0, .inr (5, [.ref a, .int (nI k)])), (a, .inl (cB, n, .inl f))]) [0, 1] (by decide) rfl) hS (lv_sub hl [1, 2, 3, 0] rfl)
            · exact False.elim (by revert c_17; decide)
        · exact False.elim (by revert c_8; decide)
      · exact False.elim (by exact h_7 ⟨X, Y, rfl, rfl, by omega⟩)
set_option maxHeartbeats 4000000 in
set_option maxRecDepth 100000 in
theorem f_X5_spellsWithAnyFirst (l : Launch) (D : va_G) (cB cI cZ : ClassId) (E : pEt) (sz : Nat) (h0 : Nat) (X : Nat) (Y : Nat) (i : Nat) (a : Nat) (k : Nat) (n : Nat) (f : Nat → Int32) (tt : Nat → Nat) (hk : k ≤ n) (hn : n ≤ 600) (hT : qT k f tt) (hXY : X + Y ≤ k) (hi14 : i < 14) : Met l yX5_spellsWithAnyFirst (.code yX5_spellsWithAnyFirst cX5_spellsWithAnyFirst 7 (some .boolean) :: wsL_law) ({ frames := 4, cells := 0, slots := 0, locals := 85 } : Room) (va_Pc [.ref h0, .int (nI X), .int (nI Y), .ref (E.1 i)] (pInE E D (pT cB cI cZ) sz [(h0, .inr (5, [.ref a, .int (nI k)])), (a, .inl (cB, n, .inl f))])) (va_Qi (fun (r : Int32) (u : Unit) => ((1 = r) ∧ (qSp tt X Y i)) ∨ ((0 = r) ∧ (¬ qSp tt X Y i))) (fun (u : Unit) (t : State) => pAt D (pT cB cI cZ) (va_A [(h0, .inr (5, [.ref a, .int (nI k)])), (a, .inl (cB, n, .inl f))] sz) [(h0, .inr (5, [.ref a, .int (nI k)])), (a, .inl (cB, n, .inl f))] t) (va_A [(h0, .inr (5, [.ref a, .int (nI k)])), (a, .inl (cB, n, .inl f))] sz)) 0 0 (va_A [(h0, .inr (5, [.ref a, .int (nI k)])), (a, .inl (cB, n, .inl f))] sz) := by
  refine Met.ofW (cc := cX5_spellsWithAnyFirst) (maxL := 7) (ret := (some .boolean)) (by decide) rfl ?_
  intro p e s m args below meth cd s₁ B hml hv
  obtain ⟨rfl, hsz, hP, hK, hD0, hE⟩ := hv
  have hx := B.exec
  have hb := B.bytes
  have hr := B.returns
  have hts0 := atoms_spec (ws := .code yX5_spellsWithAnyFirst cX5_spellsWithAnyFirst 7 (some .boolean) :: wsL_law) B.pre
  have hts := fun (w : Cond) (h : w ∈ wsL_law) => hts0 w (List.mem_cons_of_mem _ h)
  have hown : s.vm.findClass RX5 = some m.cls := findClass_of_methodNamed B.named
  have hlocks := B.notSynchronized
  have hinX5 := inlX5
  subst hsz
  have hD := hD0.self (sz := s.heap.size)
  generalize hAe : va_A [(h0, .inr (5, [.ref a, .int (nI k)])), (a, .inl (cB, n, .inl f))] s.heap.size = A at hD hE ⊢
  have hA : ∀ q : Nat, s.heap.size ≤ q → A q := fun q h => by rw [← hAe]; exact Or.inr h
  have hS : va_S A s.heap s.heap [] := va_S.rf
  have hP : va_P D vwCl [(h0, .inr (5, [.ref a, .int (nI k)])), (a, .inl (cB, n, .inl f))] s.heap := hP
  have hl := lv_entry ([.ref h0, .int (nI X), .int (nI Y), .ref (E.1 i)]) (n := 7) (Nat.le_of_ble_eq_true rfl)
  rw [lg_entry_eq]
  generalize (lg_sl ([.ref h0, .int (nI X), .int (nI Y), .ref (E.1 i)]) ++ List.replicate (7 - (lg_sl ([.ref h0, .int (nI X), .int (nI Y), .ref (E.1 i)])).length) Slot.unset).toArray = ls at hl ⊢
  have hl : lv_has ls 7 [(0, .ref h0), (1, .int (nI X)), (2, .int (nI Y)), (3, .ref (E.1 i))] := hl
  generalize hQ : MQ below _ _ _ _ _ _ = Q
  have hLen := pLenB hi14
  refine lv_iload_n hx hb dX5_spellsWithAnyFirst_0 rfl (lv_at hl 2 rfl) ?_
  refine lv_aload_n hx hb dX5_spellsWithAnyFirst_1 rfl (lv_at hl 3 rfl) ?_
  have hPc := hP.sub (ws' := []) [] rfl
  have hDc := hD.sub (ws' := []) [] (by decide) rfl
  have hFc := va_free (wc := []) hD hS hA [] rfl
  refine va_calli (va_runV (As := []) (rest := [.int (nI Y)]) ⟨hx, hb, hml, hown, hts⟩ (s_length l D cB cI cZ E s.heap.size i (by first | assumption | omega)) (cwV 0 hts (uV (uc12 _ (List.mem_of_getElem? (i := 4) rfl)) (uc12 _ (List.mem_of_getElem? (i := 5) rfl)) (uc12 _ (List.mem_of_getElem? (i := 6) rfl)) (uc12 _ (List.mem_of_getElem? (i := 7) rfl)) (uc12 _ (List.mem_of_getElem? (i := 8) rfl))) rfl rfl rfl (by decide +kernel) ⟨Nat.le_of_ble_eq_true rfl, Nat.le_of_ble_eq_true rfl⟩) (pVS hE hS hFc hK hPc hDc (i := i) (by omega)) rfl rfl hl.1 rfl (lv_room (Nat.le_of_ble_eq_true rfl)) dX5_spellsWithAnyFirst_2 ⟨Nat.le_of_ble_eq_true rfl, Nat.le_of_ble_eq_true rfl⟩) hS (fun q _ h => hFc q h) hFc (fun r_1 u t H_2 L_3 ht hvm hw hB hz1 hk1 hS => ?_)
  obtain ⟨hP1, -, hD1⟩ := hB
  rw [ht] at hP1
  obtain ⟨hP, hD⟩ := va_join (wr := [(h0, .inr (5, [.ref a, .int (nI k)])), (a, .inl (cB, n, .inl f))]) (w1 := []) hP hD [] [0, 1] rfl rfl (by decide) (by decide) hk1 hFc hP1 hD1
  have hP : va_P D vwCl [(h0, .inr (5, [.ref a, .int (nI k)])), (a, .inl (cB, n, .inl f))] H_2 := hP.sub [0, 1] rfl
  have hD : va_D A [(h0, .inr (5, [.ref a, .int (nI k)])), (a, .inl (cB, n, .inl f))] := hD.sub [0, 1] (by decide) rfl
  try dsimp only at hw
  subst hw
  refine lv_icmp_ne (tgt := 21) hx hb dX5_spellsWithAnyFirst_5 (by decide) (fun c_4 => ?_) (fun c_4 => ?_)
  · have hYn : ¬ Y = pLen.getD i 0 := fun q => c_4 (by rw [q])
    refine lv_iconst (v := 0) hx hb dX5_spellsWithAnyFirst_21 (by decide) ?_
    have hP9 := hP.sub (ws' := [(h0, .inr (5, [.ref a, .int (nI k)])), (a, .inl (cB, n, .inl f))]) [0, 1] rfl
    have hD9 := hD.sub (ws' := [(h0, .inr (5, [.ref a, .int (nI k)])), (a, .inl (cB, n, .inl f))]) [0, 1] (by decide) rfl
    rw [← hQ]
    exact W.zret (v := 0) hx hb hr (rfl) (fun t ht hW => ⟨⟨0, (), rfl, Or.inr ((⟨rfl, fun q => hYn q.1⟩)), ⟨by rw [ht]; exact hP9, va_K.moved hW.alike hK, hD9⟩⟩, hS.F ht⟩) hS.2.2 dX5_spellsWithAnyFirst_22
  · have hYl : Y = pLen.getD i 0 := (nI_eq (by omega) (by omega)).mp c_4
    refine lv_iload_n hx hb dX5_spellsWithAnyFirst_8 rfl (lv_at hl 2 rfl) ?_
    refine lv_if_eq (tgt := 21) hx hb dX5_spellsWithAnyFirst_9 (by decide) (fun c_5 => ?_) (fun c_5 => ?_)
    · exact False.elim (by exact nI_ne0 (by omega) (by omega) c_5)
    · refine lv_aload_n hx hb dX5_spellsWithAnyFirst_12 rfl (lv_at hl 0 rfl) ?_
      refine lv_iload_n hx hb dX5_spellsWithAnyFirst_13 rfl (lv_at hl 1 rfl) ?_
      refine lv_iload_n hx hb dX5_spellsWithAnyFirst_14 rfl (lv_at hl 2 rfl) ?_
      have hPc := hP.sub (ws' := [(h0, .inr (5, [.ref a, .int (nI k)]))]) [0] rfl
      have hDc := hD.sub (ws' := [(h0, .inr (5, [.ref a, .int (nI k)]))]) [0] (by decide) rfl
      have hFc := va_free (wc := [(h0, .inr (5, [.ref a, .int (nI k)]))]) hD hS hA [0] rfl
      refine va_calli (va_runV (As := [.int (nI X), .int (nI Y)]) (rest := []) ⟨hx, hb, hml, hown, hts⟩ (s_X5_holds l D cB cI cZ E H_2.size h0 a k (nI X) (nI Y) (by first | assumption | omega)) (cwV 2 hts (uV (uc10 _ (List.mem_of_getElem? (i := 1) rfl)) (uc10 _ (List.mem_of_getElem? (i := 2) rfl)) (uc10 _ (List.mem_of_getElem? (i := 3) rfl)) (uc1 _ (List.mem_of_getElem? (i := 14) rfl)) (uc10 _ (List.mem_of_getElem? (i := 4) rfl))) rfl rfl rfl (by decide +kernel) ⟨Nat.le_of_ble_eq_true rfl, Nat.le_of_ble_eq_true rfl⟩) (pVE hE hS hFc hK hPc hDc 0 rfl rfl) rfl rfl hl.1 rfl (lv_room (Nat.le_of_ble_eq_true rfl)) dX5_spellsWithAnyFirst_15 ⟨Nat.le_of_ble_eq_true rfl, Nat.le_of_ble_eq_true rfl⟩) hS (fun q _ h => hFc q h) hFc (fun r_6 u t H_7 L_8 ht hvm hw hB hz1 hk1 hS => ?_)
      obtain ⟨hP1, -, hD1⟩ := hB
      rw [ht] at hP1
      obtain ⟨hP, hD⟩ := va_join (wr := [(a, .inl (cB, n, .inl f))]) (w1 := [(h0, .inr (5, [.ref a, .int (nI k)]))]) hP hD [0] [1] rfl rfl (by decide) (by decide) hk1 hFc hP1 hD1
      have hP : va_P D vwCl [(h0, .inr (5, [.ref a, .int (nI k)])), (a, .inl (cB, n, .inl f))] H_7 := hP.sub [1, 0] rfl
      have hD : va_D A [(h0, .inr (5, [.ref a, .int (nI k)])), (a, .inl (cB, n, .inl f))] := hD.sub [1, 0] (by decide) rfl
      try dsimp only at hw
      rcases hw with ⟨rfl, h_9⟩ | ⟨rfl, h_10⟩
      · refine lv_if_ne (tgt := 23) hx hb dX5_spellsWithAnyFirst_18 (by decide) (fun c_11 => ?_) (fun c_11 => ?_)
        · have join_12 : ∀ (w4 : Int32) (w5 : Int32) (H : Heap) (locs : List Loc) (ls : Array Slot), (qLow (tt X) = qW i 0) → va_P D vwCl [(h0, .inr (5, [.ref a, .int (nI k)])), (a, .inl (cB, n, .inl f))] H → va_D A [(h0, .inr (5, [.ref a, .int (nI k)])), (a, .inl (cB, n, .inl f))] → va_S A s.heap H locs → lv_has ls 7 [(0, .ref h0), (1, .int (nI X)), (2, .int (nI Y)), (3, .ref (E.1 i)), (4, .int w4), (5, .int w5)] → W p l e ({ frames := 4, cells := 0, slots := 0, locals := 85 } : Room) s m ([.ref h0, .int (nI X), .int (nI Y), .ref (E.1 i)] : List Value).toArray below meth cd H locs 0 0 Q (F0 m 66 ls []) := by
            intro w4 w5 H locs ls hf hP hD hS hl
            refine lv_iconst (v := 1) hx hb dX5_spellsWithAnyFirst_66 (by decide) ?_
            refine lv_istore (lv' := [(6, .int 1), (0, .ref h0), (1, .int (nI X)), (2, .int (nI Y)), (3, .ref (E.1 i)), (4, .int w4), (5, .int w5)]) hx hb dX5_spellsWithAnyFirst_67 hl (by decide) rfl (fun ls hl => ?_)
            have loop_13 : ∀ (nn_15 : Nat) (j : Nat), (1 ≤ j) → (j ≤ Y) → (∀ q, 1 ≤ q → q < j → tt (X + q) = qW i q) → (Y - j < nn_15) → ∀ (H : Heap) (locs : List Loc) (ls : Array Slot), va_P D vwCl [(h0, .inr (5, [.ref a, .int (nI k)])), (a, .inl (cB, n, .inl f))] H → va_D A [(h0, .inr (5, [.ref a, .int (nI k)])), (a, .inl (cB, n, .inl f))] → va_S A s.heap H locs → lv_has ls 7 [(0, .ref h0), (1, .int (nI X)), (2, .int (nI Y)), (3, .ref (E.1 i)), (4, .int w4), (5, .int w5), (6, .int (nI j))] → W p l e ({ frames := 4, cells := 0, slots := 0, locals := 85 } : Room) s m ([.ref h0, .int (nI X), .int (nI Y), .ref (E.1 i)] : List Value).toArray below meth cd H locs 0 0 Q (F0 m 69 ls []) := by
              intro nn_15
              induction nn_15 with
              | zero => intros; exact absurd ‹_ < 0› (Nat.not_lt_zero _)
              | succ nn_15 ih_14 =>
                intro j h1j hjY hs hmu H locs ls hP hD hS hl
                refine lv_iload hx hb dX5_spellsWithAnyFirst_69 (lv_at hl 6 rfl) ?_
                refine lv_iload_n hx hb dX5_spellsWithAnyFirst_71 rfl (lv_at hl 2 rfl) ?_
                refine lv_icmp_ge (tgt := 101) hx hb dX5_spellsWithAnyFirst_72 (by decide) (fun c_16 => ?_) (fun c_16 => ?_)
                · have hge := (nI_leI (by omega) (by omega)).mp c_16
                  refine lv_iconst (v := 1) hx hb dX5_spellsWithAnyFirst_101 (by decide) ?_
                  have hP9 := hP.sub (ws' := [(h0, .inr (5, [.ref a, .int (nI k)])), (a, .inl (cB, n, .inl f))]) [0, 1] rfl
                  have hD9 := hD.sub (ws' := [(h0, .inr (5, [.ref a, .int (nI k)])), (a, .inl (cB, n, .inl f))]) [0, 1] (by decide) rfl
                  rw [← hQ]
                  exact W.zret (v := 1) hx hb hr (rfl) (fun t ht hW => ⟨⟨1, (), rfl, Or.inl (⟨rfl, ⟨hYl, hf, fun q h1 hq => hs q h1 (by omega)⟩⟩), ⟨by rw [ht]; exact hP9, va_K.moved hW.alike hK, hD9⟩⟩, hS.F ht⟩) hS.2.2 dX5_spellsWithAnyFirst_102
                · have hjY2 : j < Y := Nat.lt_of_not_le (fun q => c_16 (nI_le q (by omega)))
                  refine lv_aload_n hx hb dX5_spellsWithAnyFirst_75 rfl (lv_at hl 0 rfl) ?_
                  refine va_get (D := D) (ci := 5) (v := .ref a) (C := RX5) (T := TX5) (N := 2) hx hb hts hinX5 hown hK hP 0 rfl rfl 0 (by decide) (hts (.fieldLink RX5 15 "TaleReader$Text" "signs" "[B") (uc3 _ (List.mem_of_getElem? (i := 5) rfl))) (fun _ h9 => h9) rfl dX5_spellsWithAnyFirst_76 ?_
                  refine lv_iload_n hx hb dX5_spellsWithAnyFirst_79 rfl (lv_at hl 1 rfl) ?_
                  refine lv_iload hx hb dX5_spellsWithAnyFirst_80 (lv_at hl 6 rfl) ?_
                  refine lv_iadd hx hb dX5_spellsWithAnyFirst_82 ?_
                  refine lv_topi (fun z_17 ez_17 => ?_)
                  obtain rfl : z_17 = nI (X + j) := ez_17.trans (nI_add X j)
                  refine va_bald (D := D) hx hb hK hP 1 0 rfl rfl (vp_in_nI (by omega) (by omega)) dX5_spellsWithAnyFirst_83 ?_
                  refine lv_topi (fun z_18 ez_18 => ?_)
                  obtain rfl : z_18 = sb_b (tt (X + j)) := ez_18.trans ((congrArg f (nI_clamp (by omega))).trans (hT (X + j) (by omega)).1)
                  refine lv_aload_n hx hb dX5_spellsWithAnyFirst_84 rfl (lv_at hl 3 rfl) ?_
                  refine lv_iload hx hb dX5_spellsWithAnyFirst_85 (lv_at hl 6 rfl) ?_
                  have hPc := hP.sub (ws' := []) [] rfl
                  have hDc := hD.sub (ws' := []) [] (by decide) rfl
                  have hFc := va_free (wc := []) hD hS hA [] rfl
                  refine va_calli (va_runV (As := [.int (nI j)]) (rest := [.int (sb_b (tt (X + j)))]) ⟨hx, hb, hml, hown, hts⟩ (s_charAt l D cB cI cZ E H.size i j (by first | assumption | omega) (by omega) (by omega)) (cwV 1 hts (uV (uc12 _ (List.mem_of_getElem? (i := 16) rfl)) (uc12 _ (List.mem_of_getElem? (i := 17) rfl)) (uc12 _ (List.mem_of_getElem? (i := 18) rfl)) (uc12 _ (List.mem_of_getElem? (i := 7) rfl)) (uc12 _ (List.mem_of_getElem? (i := 19) rfl))) rfl rfl rfl (by decide +kernel) ⟨Nat.le_of_ble_eq_true rfl, Nat.le_of_ble_eq_true rfl⟩) (pVS hE hS hFc hK hPc hDc (i := i) (by omega)) rfl rfl hl.1 rfl (lv_room (Nat.le_of_ble_eq_true rfl)) dX5_spellsWithAnyFirst_87 ⟨Nat.le_of_ble_eq_true rfl, Nat.le_of_ble_eq_true rfl⟩) hS (fun q _ h => hFc q h) hFc (fun r_19 u t H_20 L_21 ht hvm hw hB hz1 hk1 hS => ?_)
                  obtain ⟨hP1, -, hD1⟩ := hB
                  rw [ht] at hP1
                  obtain ⟨hP, hD⟩ := va_join (wr := [(h0, .inr (5, [.ref a, .int (nI k)])), (a, .inl (cB, n, .inl f))]) (w1 := []) hP hD [] [0, 1] rfl rfl (by decide) (by decide) hk1 hFc hP1 hD1
                  have hP : va_P D vwCl [(h0, .inr (5, [.ref a, .int (nI k)])), (a, .inl (cB, n, .inl f))] H_20 := hP.sub [0, 1] rfl
                  have hD : va_D A [(h0, .inr (5, [.ref a, .int (nI k)])), (a, .inl (cB, n, .inl f))] := hD.sub [0, 1] (by decide) rfl
                  try dsimp only at hw
                  subst hw
                  refine lv_icmp_eq (tgt := 95) hx hb dX5_spellsWithAnyFirst_90 (by decide) (fun c_22 => ?_) (fun c_22 => ?_)
                  · have hjq : tt (X + j) = qW i j := (qFj (hT (X + j) (by omega)).2 hi14 (by omega)).mp c_22
                    refine lv_iinc (v := nI (j + 1)) (lv' := [(6, .int (nI (j + 1))), (0, .ref h0), (1, .int (nI X)), (2, .int (nI Y)), (3, .ref (E.1 i)), (4, .int w4), (5, .int w5)]) hx hb dX5_spellsWithAnyFirst_95 hl (k := 6) rfl (nI_add j 1) (by decide) rfl (fun ls hl => ?_)
                    refine lv_goto (tgt := 69) hx hb dX5_spellsWithAnyFirst_98 (by decide) ?_
                    exact ih_14 (j + 1) (by first | assumption | exact Or.inl rfl | exact Or.inr rfl | omega) (by first | assumption | exact Or.inl rfl | exact Or.inr rfl | omega) (qStep1 hs hjq) (by omega) H_20 _ ls (hP.sub (ws' := [(h0, .inr (5, [.ref a, .int (nI k)])), (a, .inl (cB, n, .inl f))]) [0, 1] rfl) (hD.sub (ws' := [(h0, .inr (5, [.ref a, .int (nI k)])), (a, .inl (cB, n, .inl f))]) [0, 1] (by decide) rfl) hS (lv_sub hl [1, 2, 3, 4, 5, 6, 0] rfl)
                  · have hnj : ¬ tt (X + j) = qW i j := fun q => c_22 ((qFj (hT (X + j) (by omega)).2 hi14 (by omega)).mpr q)
                    refine lv_iconst (v := 0) hx hb dX5_spellsWithAnyFirst_93 (by decide) ?_
                    have hP9 := hP.sub (ws' := [(h0, .inr (5, [.ref a, .int (nI k)])), (a, .inl (cB, n, .inl f))]) [0, 1] rfl
                    have hD9 := hD.sub (ws' := [(h0, .inr (5, [.ref a, .int (nI k)])), (a, .inl (cB, n, .inl f))]) [0, 1] (by decide) rfl
                    rw [← hQ]
                    exact W.zret (v := 0) hx hb hr (rfl) (fun t ht hW => ⟨⟨0, (), rfl, Or.inr ((⟨rfl, fun q => hnj (q.2.2 j h1j hjY2)⟩)), ⟨by rw [ht]; exact hP9, va_K.moved hW.alike hK, hD9⟩⟩, hS.F ht⟩) hS.2.2 dX5_spellsWithAnyFirst_94
            exact loop_13 _ 1 (by first | assumption | exact Or.inl rfl | exact Or.inr rfl | omega) (by first | assumption | exact Or.inl rfl | exact Or.inr rfl | omega) (qNil1) (Nat.lt_succ_self _) H _ ls (hP.sub (ws' := [(h0, .inr (5, [.ref a, .int (nI k)])), (a, .inl (cB, n, .inl f))]) [0, 1] rfl) (hD.sub (ws' := [(h0, .inr (5, [.ref a, .int (nI k)])), (a, .inl (cB, n, .inl f))]) [0, 1] (by decide) rfl) hS (lv_sub hl [1, 2, 3, 4, 5, 6, 0] rfl)
          refine lv_aload_n hx hb dX5_spellsWithAnyFirst_23 rfl (lv_at hl 0 rfl) ?_
          refine va_get (D := D) (ci := 5) (v := .ref a) (C := RX5) (T := TX5) (N := 2) hx hb hts hinX5 hown hK hP 0 rfl rfl 0 (by decide) (hts (.fieldLink RX5 15 "TaleReader$Text" "signs" "[B") (uc3 _ (List.mem_of_getElem? (i := 5) rfl))) (fun _ h9 => h9) rfl dX5_spellsWithAnyFirst_24 ?_
          refine lv_iload_n hx hb dX5_spellsWithAnyFirst_27 rfl (lv_at hl 1 rfl) ?_
          refine va_bald (D := D) hx hb hK hP 1 0 rfl rfl (vp_in_nI (by omega) (by omega)) dX5_spellsWithAnyFirst_28 ?_
          refine lv_topi (fun z_23 ez_23 => ?_)
          obtain rfl : z_23 = sb_b (tt (X)) := ez_23.trans ((congrArg f (nI_clamp (by omega))).trans (hT (X) (by omega)).1)
          refine lv_istore (lv' := [(4, .int (sb_b (tt (X)))), (0, .ref h0), (1, .int (nI X)), (2, .int (nI Y)), (3, .ref (E.1 i))]) hx hb dX5_spellsWithAnyFirst_29 hl (by decide) rfl (fun ls hl => ?_)
          refine lv_iload hx hb dX5_spellsWithAnyFirst_31 (lv_at hl 0 rfl) ?_
          have hPc := hP.sub (ws' := []) [] rfl
          have hDc := hD.sub (ws' := []) [] (by decide) rfl
          have hFc := va_free (wc := []) hD hS hA [] rfl
          refine va_calli (va_runSN (As := [.int (sb_b (tt (X)))]) (rest := []) ⟨hx, hb, hml, hown, hts⟩ (s_isCapital l D cB cI cZ E H_7.size (sb_b (tt (X)))) ⟨va_cnB 1 hts (uI (uc10 _ (List.mem_of_getElem? (i := 18) rfl))) rfl rfl rfl (pN_RX5_41 hE) (hts (.initialized RX8) (uc1 _ (List.mem_of_getElem? (i := 2) rfl))) (by decide +kernel) ⟨Nat.le_of_ble_eq_true rfl, Nat.le_of_ble_eq_true rfl⟩, (hts (.static yX8_isCapital) (uc10 _ (List.mem_of_getElem? (i := 17) rfl))), trivial⟩ (pSE hE hS hFc hK hPc hDc) rfl rfl hl.1 rfl (lv_room (Nat.le_of_ble_eq_true rfl)) dX5_spellsWithAnyFirst_33 ⟨Nat.le_of_ble_eq_true rfl, Nat.le_of_ble_eq_true rfl⟩) hS (fun q _ h => hFc q h) hFc (fun r_24 u t H_25 L_26 ht hvm hw hB hz1 hk1 hS => ?_)
          obtain ⟨hP1, -, hD1⟩ := hB
          rw [ht] at hP1
          obtain ⟨hP, hD⟩ := va_join (wr := [(h0, .inr (5, [.ref a, .int (nI k)])), (a, .inl (cB, n, .inl f))]) (w1 := []) hP hD [] [0, 1] rfl rfl (by decide) (by decide) hk1 hFc hP1 hD1
          have hP : va_P D vwCl [(h0, .inr (5, [.ref a, .int (nI k)])), (a, .inl (cB, n, .inl f))] H_25 := hP.sub [0, 1] rfl
          have hD : va_D A [(h0, .inr (5, [.ref a, .int (nI k)])), (a, .inl (cB, n, .inl f))] := hD.sub [0, 1] (by decide) rfl
          try dsimp only at hw
          rcases hw with ⟨rfl, h_27⟩ | ⟨rfl, h_28, h_29⟩
          · have hlo := qb_cap0 (hT X (by omega)).2 h_27
            refine lv_if_eq (tgt := 50) hx hb dX5_spellsWithAnyFirst_36 (by decide) (fun c_30 => ?_) (fun c_30 => ?_)
            · refine lv_iload hx hb dX5_spellsWithAnyFirst_50 (lv_at hl 0 rfl) ?_
              refine lv_istore (lv' := [(5, .int (sb_b (tt (X)))), (4, .int (sb_b (tt (X)))), (0, .ref h0), (1, .int (nI X)), (2, .int (nI Y)), (3, .ref (E.1 i))]) hx hb dX5_spellsWithAnyFirst_52 hl (by decide) rfl (fun ls hl => ?_)
              refine lv_iload hx hb dX5_spellsWithAnyFirst_54 (lv_at hl 0 rfl) ?_
              refine lv_aload_n hx hb dX5_spellsWithAnyFirst_56 rfl (lv_at hl 5 rfl) ?_
              refine lv_iconst (v := 0) hx hb dX5_spellsWithAnyFirst_57 (by decide) ?_
              have hPc := hP.sub (ws' := []) [] rfl
              have hDc := hD.sub (ws' := []) [] (by decide) rfl
              have hFc := va_free (wc := []) hD hS hA [] rfl
              refine va_calli (va_runV (As := [.int 0]) (rest := [.int (sb_b (tt (X)))]) ⟨hx, hb, hml, hown, hts⟩ (s_charAt l D cB cI cZ E H_25.size i 0 (by first | assumption | omega) (by omega) (by omega)) (cwV 1 hts (uV (uc12 _ (List.mem_of_getElem? (i := 16) rfl)) (uc12 _ (List.mem_of_getElem? (i := 17) rfl)) (uc12 _ (List.mem_of_getElem? (i := 18) rfl)) (uc12 _ (List.mem_of_getElem? (i := 7) rfl)) (uc12 _ (List.mem_of_getElem? (i := 19) rfl))) rfl rfl rfl (by decide +kernel) ⟨Nat.le_of_ble_eq_true rfl, Nat.le_of_ble_eq_true rfl⟩) (pVS hE hS hFc hK hPc hDc (i := i) (by omega)) rfl rfl hl.1 rfl (lv_room (Nat.le_of_ble_eq_true rfl)) dX5_spellsWithAnyFirst_58 ⟨Nat.le_of_ble_eq_true rfl, Nat.le_of_ble_eq_true rfl⟩) hS (fun q _ h => hFc q h) hFc (fun r_31 u t H_32 L_33 ht hvm hw hB hz1 hk1 hS => ?_)
              obtain ⟨hP1, -, hD1⟩ := hB
              rw [ht] at hP1
              obtain ⟨hP, hD⟩ := va_join (wr := [(h0, .inr (5, [.ref a, .int (nI k)])), (a, .inl (cB, n, .inl f))]) (w1 := []) hP hD [] [0, 1] rfl rfl (by decide) (by decide) hk1 hFc hP1 hD1
              have hP : va_P D vwCl [(h0, .inr (5, [.ref a, .int (nI k)])), (a, .inl (cB, n, .inl f))] H_32 := hP.sub [0, 1] rfl
              have hD : va_D A [(h0, .inr (5, [.ref a, .int (nI k)])), (a, .inl (cB, n, .inl f))] := hD.sub [0, 1] (by decide) rfl
              try dsimp only at hw
              subst hw
              refine lv_icmp_eq (tgt := 66) hx hb dX5_spellsWithAnyFirst_61 (by decide) (fun c_34 => ?_) (fun c_34 => ?_)
              · have hf := (qFn (hT X (by omega)).2 hlo hi14).mp c_34
                exact join_12 (sb_b (tt (X))) (sb_b (tt (X))) H_32 _ ls (by first | assumption | omega) (hP.sub (ws' := [(h0, .inr (5, [.ref a, .int (nI k)])), (a, .inl (cB, n, .inl f))]) [0, 1] rfl) (hD.sub (ws' := [(h0, .inr (5, [.ref a, .int (nI k)])), (a, .inl (cB, n, .inl f))]) [0, 1] (by decide) rfl) hS (lv_sub hl [2, 3, 4, 5, 1, 0] rfl)
              · have hnf : ¬ qLow (tt X) = qW i 0 := fun q => c_34 ((qFn (hT X (by omega)).2 hlo hi14).mpr q)
                refine lv_iconst (v := 0) hx hb dX5_spellsWithAnyFirst_64 (by decide) ?_
                have hP9 := hP.sub (ws' := [(h0, .inr (5, [.ref a, .int (nI k)])), (a, .inl (cB, n, .inl f))]) [0, 1] rfl
                have hD9 := hD.sub (ws' := [(h0, .inr (5, [.ref a, .int (nI k)])), (a, .inl (cB, n, .inl f))]) [0, 1] (by decide) rfl
                rw [← hQ]
                exact W.zret (v := 0) hx hb hr (rfl) (fun t ht hW => ⟨⟨0, (), rfl, Or.inr ((⟨rfl, fun q => hnf q.2.1⟩)), ⟨by rw [ht]; exact hP9, va_K.moved hW.alike hK, hD9⟩⟩, hS.F ht⟩) hS.2.2 dX5_spellsWithAnyFirst_65
            · exact False.elim (by revert c_30; decide)
          · have hcp := qb_cap1 (hT X (by omega)).2 h_28 h_29
            refine lv_if_eq (tgt := 50) hx hb dX5_spellsWithAnyFirst_36 (by decide) (fun c_35 => ?_) (fun c_35 => ?_)
            · exact False.elim (by revert c_35; decide)
            · refine lv_iload hx hb dX5_spellsWithAnyFirst_39 (lv_at hl 0 rfl) ?_
              refine lv_bipush (v := 65) hx hb dX5_spellsWithAnyFirst_41 (by decide) ?_
              refine lv_isub hx hb dX5_spellsWithAnyFirst_43 ?_
              refine lv_topi (fun z_36 ez_36 => ?_)
              obtain rfl : z_36 = sb_b (tt X) - 65 := ez_36.trans (rfl)
              refine lv_bipush (v := 97) hx hb dX5_spellsWithAnyFirst_44 (by decide) ?_
              refine lv_iadd hx hb dX5_spellsWithAnyFirst_46 ?_
              refine lv_topi (fun z_37 ez_37 => ?_)
              obtain rfl : z_37 = nI (tt X + 32) := ez_37.trans (qb_low _ (hT X (by omega)).2 hcp)
              refine lv_goto (tgt := 52) hx hb dX5_spellsWithAnyFirst_47 (by decide) ?_
              refine lv_istore (lv' := [(5, .int (nI (tt X + 32))), (4, .int (sb_b (tt (X)))), (0, .ref h0), (1, .int (nI X)), (2, .int (nI Y)), (3, .ref (E.1 i))]) hx hb dX5_spellsWithAnyFirst_52 hl (by decide) rfl (fun ls hl => ?_)
              refine lv_iload hx hb dX5_spellsWithAnyFirst_54 (lv_at hl 0 rfl) ?_
              refine lv_aload_n hx hb dX5_spellsWithAnyFirst_56 rfl (lv_at hl 5 rfl) ?_
              refine lv_iconst (v := 0) hx hb dX5_spellsWithAnyFirst_57 (by decide) ?_
              have hPc := hP.sub (ws' := []) [] rfl
              have hDc := hD.sub (ws' := []) [] (by decide) rfl
              have hFc := va_free (wc := []) hD hS hA [] rfl
              refine va_calli (va_runV (As := [.int 0]) (rest := [.int (nI (tt X + 32))]) ⟨hx, hb, hml, hown, hts⟩ (s_charAt l D cB cI cZ E H_25.size i 0 (by first | assumption | omega) (by omega) (by omega)) (cwV 1 hts (uV (uc12 _ (List.mem_of_getElem? (i := 16) rfl)) (uc12 _ (List.mem_of_getElem? (i := 17) rfl)) (uc12 _ (List.mem_of_getElem? (i := 18) rfl)) (uc12 _ (List.mem_of_getElem? (i := 7) rfl)) (uc12 _ (List.mem_of_getElem? (i := 19) rfl))) rfl rfl rfl (by decide +kernel) ⟨Nat.le_of_ble_eq_true rfl, Nat.le_of_ble_eq_true rfl⟩) (pVS hE hS hFc hK hPc hDc (i := i) (by omega)) rfl rfl hl.1 rfl (lv_room (Nat.le_of_ble_eq_true rfl)) dX5_spellsWithAnyFirst_58 ⟨Nat.le_of_ble_eq_true rfl, Nat.le_of_ble_eq_true rfl⟩) hS (fun q _ h => hFc q h) hFc (fun r_38 u t H_39 L_40 ht hvm hw hB hz1 hk1 hS => ?_)
              obtain ⟨hP1, -, hD1⟩ := hB
              rw [ht] at hP1
              obtain ⟨hP, hD⟩ := va_join (wr := [(h0, .inr (5, [.ref a, .int (nI k)])), (a, .inl (cB, n, .inl f))]) (w1 := []) hP hD [] [0, 1] rfl rfl (by decide) (by decide) hk1 hFc hP1 hD1
              have hP : va_P D vwCl [(h0, .inr (5, [.ref a, .int (nI k)])), (a, .inl (cB, n, .inl f))] H_39 := hP.sub [0, 1] rfl
              have hD : va_D A [(h0, .inr (5, [.ref a, .int (nI k)])), (a, .inl (cB, n, .inl f))] := hD.sub [0, 1] (by decide) rfl
              try dsimp only at hw
              subst hw
              refine lv_icmp_eq (tgt := 66) hx hb dX5_spellsWithAnyFirst_61 (by decide) (fun c_41 => ?_) (fun c_41 => ?_)
              · have hf := (qFc hcp hi14).mp c_41
                exact join_12 (sb_b (tt (X))) (nI (tt X + 32)) H_39 _ ls (by first | assumption | omega) (hP.sub (ws' := [(h0, .inr (5, [.ref a, .int (nI k)])), (a, .inl (cB, n, .inl f))]) [0, 1] rfl) (hD.sub (ws' := [(h0, .inr (5, [.ref a, .int (nI k)])), (a, .inl (cB, n, .inl f))]) [0, 1] (by decide) rfl) hS (lv_sub hl [2, 3, 4, 5, 1, 0] rfl)
              · have hnf : ¬ qLow (tt X) = qW i 0 := fun q => c_41 ((qFc hcp hi14).mpr q)
                refine lv_iconst (v := 0) hx hb dX5_spellsWithAnyFirst_64 (by decide) ?_
                have hP9 := hP.sub (ws' := [(h0, .inr (5, [.ref a, .int (nI k)])), (a, .inl (cB, n, .inl f))]) [0, 1] rfl
                have hD9 := hD.sub (ws' := [(h0, .inr (5, [.ref a, .int (nI k)])), (a, .inl (cB, n, .inl f))]) [0, 1] (by decide) rfl
                rw [← hQ]
                exact W.zret (v := 0) hx hb hr (rfl) (fun t ht hW => ⟨⟨0, (), rfl, Or.inr ((⟨rfl, fun q => hnf q.2.1⟩)), ⟨by rw [ht]; exact hP9, va_K.moved hW.alike hK, hD9⟩⟩, hS.F ht⟩) hS.2.2 dX5_spellsWithAnyFirst_65
        · exact False.elim (by revert c_11; decide)
      · exact False.elim (by exact h_10 ⟨X, Y, rfl, rfl, by omega⟩)
set_option maxHeartbeats 4000000 in
set_option maxRecDepth 100000 in
theorem f_X5_spellsOne (l : Launch) (D : va_G) (cB cI cZ : ClassId) (E : pEt) (sz : Nat) (h0 : Nat) (X : Nat) (Y : Nat) (i1 : Nat) (i2 : Nat) (i3 : Nat) (a : Nat) (k : Nat) (n : Nat) (f : Nat → Int32) (tt : Nat → Nat) (hk : k ≤ n) (hn : n ≤ 600) (hT : qT k f tt) (hXY : X + Y ≤ k) (hi1 : i1 < 14) (hi2 : i2 < 14) (hi3 : i3 < 14) : Met l yX5_spellsOne (.code yX5_spellsOne cX5_spellsOne 6 (some .boolean) :: wsL_law) ({ frames := 5, cells := 0, slots := 0, locals := 111 } : Room) (va_Pc [.ref h0, .int (nI X), .int (nI Y), .ref (E.1 i1), .ref (E.1 i2), .ref (E.1 i3)] (pInE E D (pT cB cI cZ) sz [(h0, .inr (5, [.ref a, .int (nI k)])), (a, .inl (cB, n, .inl f))])) (va_Qi (fun (r : Int32) (u : Unit) => ((1 = r) ∧ (qSp tt X Y i1 ∨ qSp tt X Y i2 ∨ qSp tt X Y i3)) ∨ ((0 = r) ∧ (¬ qSp tt X Y i1) ∧ (¬ qSp tt X Y i2) ∧ (¬ qSp tt X Y i3))) (fun (u : Unit) (t : State) => pAt D (pT cB cI cZ) (va_A [(h0, .inr (5, [.ref a, .int (nI k)])), (a, .inl (cB, n, .inl f))] sz) [(h0, .inr (5, [.ref a, .int (nI k)])), (a, .inl (cB, n, .inl f))] t) (va_A [(h0, .inr (5, [.ref a, .int (nI k)])), (a, .inl (cB, n, .inl f))] sz)) 0 0 (va_A [(h0, .inr (5, [.ref a, .int (nI k)])), (a, .inl (cB, n, .inl f))] sz) := by
  refine Met.ofW (cc := cX5_spellsOne) (maxL := 6) (ret := (some .boolean)) (by decide) rfl ?_
  intro p e s m args below meth cd s₁ B hml hv
  obtain ⟨rfl, hsz, hP, hK, hD0, hE⟩ := hv
  have hx := B.exec
  have hb := B.bytes
  have hr := B.returns
  have hts0 := atoms_spec (ws := .code yX5_spellsOne cX5_spellsOne 6 (some .boolean) :: wsL_law) B.pre
  have hts := fun (w : Cond) (h : w ∈ wsL_law) => hts0 w (List.mem_cons_of_mem _ h)
  have hown : s.vm.findClass RX5 = some m.cls := findClass_of_methodNamed B.named
  have hlocks := B.notSynchronized
  subst hsz
  have hD := hD0.self (sz := s.heap.size)
  generalize hAe : va_A [(h0, .inr (5, [.ref a, .int (nI k)])), (a, .inl (cB, n, .inl f))] s.heap.size = A at hD hE ⊢
  have hA : ∀ q : Nat, s.heap.size ≤ q → A q := fun q h => by rw [← hAe]; exact Or.inr h
  have hS : va_S A s.heap s.heap [] := va_S.rf
  have hP : va_P D vwCl [(h0, .inr (5, [.ref a, .int (nI k)])), (a, .inl (cB, n, .inl f))] s.heap := hP
  have hl := lv_entry ([.ref h0, .int (nI X), .int (nI Y), .ref (E.1 i1), .ref (E.1 i2), .ref (E.1 i3)]) (n := 6) (Nat.le_of_ble_eq_true rfl)
  rw [lg_entry_eq]
  generalize (lg_sl ([.ref h0, .int (nI X), .int (nI Y), .ref (E.1 i1), .ref (E.1 i2), .ref (E.1 i3)]) ++ List.replicate (6 - (lg_sl ([.ref h0, .int (nI X), .int (nI Y), .ref (E.1 i1), .ref (E.1 i2), .ref (E.1 i3)])).length) Slot.unset).toArray = ls at hl ⊢
  have hl : lv_has ls 6 [(0, .ref h0), (1, .int (nI X)), (2, .int (nI Y)), (3, .ref (E.1 i1)), (4, .ref (E.1 i2)), (5, .ref (E.1 i3))] := hl
  refine lv_aload_n hx hb dX5_spellsOne_0 rfl (lv_at hl 0 rfl) ?_
  refine lv_iload_n hx hb dX5_spellsOne_1 rfl (lv_at hl 1 rfl) ?_
  refine lv_iload_n hx hb dX5_spellsOne_2 rfl (lv_at hl 2 rfl) ?_
  refine lv_aload_n hx hb dX5_spellsOne_3 rfl (lv_at hl 3 rfl) ?_
  have hPc := hP.sub (ws' := [(h0, .inr (5, [.ref a, .int (nI k)])), (a, .inl (cB, n, .inl f))]) [0, 1] rfl
  have hDc := hD.sub (ws' := [(h0, .inr (5, [.ref a, .int (nI k)])), (a, .inl (cB, n, .inl f))]) [0, 1] (by decide) rfl
  have hFc := va_free (wc := [(h0, .inr (5, [.ref a, .int (nI k)])), (a, .inl (cB, n, .inl f))]) hD hS hA [0, 1] rfl
  refine va_calli (va_runV (As := [.int (nI X), .int (nI Y), .ref (E.1 i1)]) (rest := []) ⟨hx, hb, hml, hown, hts⟩ (f_X5_spellsWithAnyFirst l D cB cI cZ E s.heap.size h0 X Y i1 a k n f tt (by first | assumption | omega) (by first | assumption | omega) (by first | assumption | omega) (by first | assumption | omega) (by first | assumption | omega)) (cwV 3 hts (uV (uc12 _ (List.mem_of_getElem? (i := 0) rfl)) (uc12 _ (List.mem_of_getElem? (i := 1) rfl)) (uc12 _ (List.mem_of_getElem? (i := 2) rfl)) (uc1 _ (List.mem_of_getElem? (i := 14) rfl)) (uc12 _ (List.mem_of_getElem? (i := 3) rfl))) rfl rfl rfl (by decide +kernel) ⟨Nat.le_of_ble_eq_true rfl, Nat.le_of_ble_eq_true rfl⟩) (pVE hE hS hFc hK hPc hDc 0 rfl rfl) rfl rfl hl.1 rfl (lv_room (Nat.le_of_ble_eq_true rfl)) dX5_spellsOne_4 ⟨Nat.le_of_ble_eq_true rfl, Nat.le_of_ble_eq_true rfl⟩) hS (fun q _ h => hFc q h) hFc (fun r_1 u t H_2 L_3 ht hvm hw hB hz1 hk1 hS => ?_)
  obtain ⟨hP1, -, hD1⟩ := hB
  rw [ht] at hP1
  obtain ⟨hP, hD⟩ := va_join (wr := []) (w1 := [(h0, .inr (5, [.ref a, .int (nI k)])), (a, .inl (cB, n, .inl f))]) hP hD [0, 1] [] rfl rfl (by decide) (by decide) hk1 hFc hP1 hD1
  have hP : va_P D vwCl [(h0, .inr (5, [.ref a, .int (nI k)])), (a, .inl (cB, n, .inl f))] H_2 := hP.sub [0, 1] rfl
  have hD : va_D A [(h0, .inr (5, [.ref a, .int (nI k)])), (a, .inl (cB, n, .inl f))] := hD.sub [0, 1] (by decide) rfl
  try dsimp only at hw
  rcases hw with ⟨rfl, h_4⟩ | ⟨rfl, h_5⟩
  · have hp1 := h_4
    refine lv_if_ne (tgt := 32) hx hb dX5_spellsOne_7 (by decide) (fun c_6 => ?_) (fun c_6 => ?_)
    · refine lv_iconst (v := 1) hx hb dX5_spellsOne_32 (by decide) ?_
      refine lv_goto (tgt := 37) hx hb dX5_spellsOne_33 (by decide) ?_
      have hP9 := hP.sub (ws' := [(h0, .inr (5, [.ref a, .int (nI k)])), (a, .inl (cB, n, .inl f))]) [0, 1] rfl
      have hD9 := hD.sub (ws' := [(h0, .inr (5, [.ref a, .int (nI k)])), (a, .inl (cB, n, .inl f))]) [0, 1] (by decide) rfl
      exact W.zret (v := 1) hx hb hr (rfl) (fun t ht hW => ⟨⟨1, (), rfl, Or.inl (⟨rfl, by first | exact Or.inl hp1 | exact Or.inr (Or.inl hp2) | exact Or.inr (Or.inr hp3)⟩), ⟨by rw [ht]; exact hP9, va_K.moved hW.alike hK, hD9⟩⟩, hS.F ht⟩) hS.2.2 dX5_spellsOne_37
    · exact False.elim (by revert c_6; decide)
  · have hp1 := h_5
    refine lv_if_ne (tgt := 32) hx hb dX5_spellsOne_7 (by decide) (fun c_7 => ?_) (fun c_7 => ?_)
    · exact False.elim (by revert c_7; decide)
    · refine lv_aload_n hx hb dX5_spellsOne_10 rfl (lv_at hl 0 rfl) ?_
      refine lv_iload_n hx hb dX5_spellsOne_11 rfl (lv_at hl 1 rfl) ?_
      refine lv_iload_n hx hb dX5_spellsOne_12 rfl (lv_at hl 2 rfl) ?_
      refine lv_aload hx hb dX5_spellsOne_13 (lv_at hl 4 rfl) ?_
      have hPc := hP.sub (ws' := [(h0, .inr (5, [.ref a, .int (nI k)])), (a, .inl (cB, n, .inl f))]) [0, 1] rfl
      have hDc := hD.sub (ws' := [(h0, .inr (5, [.ref a, .int (nI k)])), (a, .inl (cB, n, .inl f))]) [0, 1] (by decide) rfl
      have hFc := va_free (wc := [(h0, .inr (5, [.ref a, .int (nI k)])), (a, .inl (cB, n, .inl f))]) hD hS hA [0, 1] rfl
      refine va_calli (va_runV (As := [.int (nI X), .int (nI Y), .ref (E.1 i2)]) (rest := []) ⟨hx, hb, hml, hown, hts⟩ (f_X5_spellsWithAnyFirst l D cB cI cZ E H_2.size h0 X Y i2 a k n f tt (by first | assumption | omega) (by first | assumption | omega) (by first | assumption | omega) (by first | assumption | omega) (by first | assumption | omega)) (cwV 3 hts (uV (uc12 _ (List.mem_of_getElem? (i := 0) rfl)) (uc12 _ (List.mem_of_getElem? (i := 1) rfl)) (uc12 _ (List.mem_of_getElem? (i := 2) rfl)) (uc1 _ (List.mem_of_getElem? (i := 14) rfl)) (uc12 _ (List.mem_of_getElem? (i := 3) rfl))) rfl rfl rfl (by decide +kernel) ⟨Nat.le_of_ble_eq_true rfl, Nat.le_of_ble_eq_true rfl⟩) (pVE hE hS hFc hK hPc hDc 0 rfl rfl) rfl rfl hl.1 rfl (lv_room (Nat.le_of_ble_eq_true rfl)) dX5_spellsOne_15 ⟨Nat.le_of_ble_eq_true rfl, Nat.le_of_ble_eq_true rfl⟩) hS (fun q _ h => hFc q h) hFc (fun r_8 u t H_9 L_10 ht hvm hw hB hz1 hk1 hS => ?_)
      obtain ⟨hP1, -, hD1⟩ := hB
      rw [ht] at hP1
      obtain ⟨hP, hD⟩ := va_join (wr := []) (w1 := [(h0, .inr (5, [.ref a, .int (nI k)])), (a, .inl (cB, n, .inl f))]) hP hD [0, 1] [] rfl rfl (by decide) (by decide) hk1 hFc hP1 hD1
      have hP : va_P D vwCl [(h0, .inr (5, [.ref a, .int (nI k)])), (a, .inl (cB, n, .inl f))] H_9 := hP.sub [0, 1] rfl
      have hD : va_D A [(h0, .inr (5, [.ref a, .int (nI k)])), (a, .inl (cB, n, .inl f))] := hD.sub [0, 1] (by decide) rfl
      try dsimp only at hw
      rcases hw with ⟨rfl, h_11⟩ | ⟨rfl, h_12⟩
      · have hp2 := h_11
        refine lv_if_ne (tgt := 32) hx hb dX5_spellsOne_18 (by decide) (fun c_13 => ?_) (fun c_13 => ?_)
        · refine lv_iconst (v := 1) hx hb dX5_spellsOne_32 (by decide) ?_
          refine lv_goto (tgt := 37) hx hb dX5_spellsOne_33 (by decide) ?_
          have hP9 := hP.sub (ws' := [(h0, .inr (5, [.ref a, .int (nI k)])), (a, .inl (cB, n, .inl f))]) [0, 1] rfl
          have hD9 := hD.sub (ws' := [(h0, .inr (5, [.ref a, .int (nI k)])), (a, .inl (cB, n, .inl f))]) [0, 1] (by decide) rfl
          exact W.zret (v := 1) hx hb hr (rfl) (fun t ht hW => ⟨⟨1, (), rfl, Or.inl (⟨rfl, by first | exact Or.inl hp1 | exact Or.inr (Or.inl hp2) | exact Or.inr (Or.inr hp3)⟩), ⟨by rw [ht]; exact hP9, va_K.moved hW.alike hK, hD9⟩⟩, hS.F ht⟩) hS.2.2 dX5_spellsOne_37
        · exact False.elim (by revert c_13; decide)
      · have hp2 := h_12
        refine lv_if_ne (tgt := 32) hx hb dX5_spellsOne_18 (by decide) (fun c_14 => ?_) (fun c_14 => ?_)
        · exact False.elim (by revert c_14; decide)
        · refine lv_aload_n hx hb dX5_spellsOne_21 rfl (lv_at hl 0 rfl) ?_
          refine lv_iload_n hx hb dX5_spellsOne_22 rfl (lv_at hl 1 rfl) ?_
          refine lv_iload_n hx hb dX5_spellsOne_23 rfl (lv_at hl 2 rfl) ?_
          refine lv_aload hx hb dX5_spellsOne_24 (lv_at hl 5 rfl) ?_
          have hPc := hP.sub (ws' := [(h0, .inr (5, [.ref a, .int (nI k)])), (a, .inl (cB, n, .inl f))]) [0, 1] rfl
          have hDc := hD.sub (ws' := [(h0, .inr (5, [.ref a, .int (nI k)])), (a, .inl (cB, n, .inl f))]) [0, 1] (by decide) rfl
          have hFc := va_free (wc := [(h0, .inr (5, [.ref a, .int (nI k)])), (a, .inl (cB, n, .inl f))]) hD hS hA [0, 1] rfl
          refine va_calli (va_runV (As := [.int (nI X), .int (nI Y), .ref (E.1 i3)]) (rest := []) ⟨hx, hb, hml, hown, hts⟩ (f_X5_spellsWithAnyFirst l D cB cI cZ E H_9.size h0 X Y i3 a k n f tt (by first | assumption | omega) (by first | assumption | omega) (by first | assumption | omega) (by first | assumption | omega) (by first | assumption | omega)) (cwV 3 hts (uV (uc12 _ (List.mem_of_getElem? (i := 0) rfl)) (uc12 _ (List.mem_of_getElem? (i := 1) rfl)) (uc12 _ (List.mem_of_getElem? (i := 2) rfl)) (uc1 _ (List.mem_of_getElem? (i := 14) rfl)) (uc12 _ (List.mem_of_getElem? (i := 3) rfl))) rfl rfl rfl (by decide +kernel) ⟨Nat.le_of_ble_eq_true rfl, Nat.le_of_ble_eq_true rfl⟩) (pVE hE hS hFc hK hPc hDc 0 rfl rfl) rfl rfl hl.1 rfl (lv_room (Nat.le_of_ble_eq_true rfl)) dX5_spellsOne_26 ⟨Nat.le_of_ble_eq_true rfl, Nat.le_of_ble_eq_true rfl⟩) hS (fun q _ h => hFc q h) hFc (fun r_15 u t H_16 L_17 ht hvm hw hB hz1 hk1 hS => ?_)
          obtain ⟨hP1, -, hD1⟩ := hB
          rw [ht] at hP1
          obtain ⟨hP, hD⟩ := va_join (wr := []) (w1 := [(h0, .inr (5, [.ref a, .int (nI k)])), (a, .inl (cB, n, .inl f))]) hP hD [0, 1] [] rfl rfl (by decide) (by decide) hk1 hFc hP1 hD1
          have hP : va_P D vwCl [(h0, .inr (5, [.ref a, .int (nI k)])), (a, .inl (cB, n, .inl f))] H_16 := hP.sub [0, 1] rfl
          have hD : va_D A [(h0, .inr (5, [.ref a, .int (nI k)])), (a, .inl (cB, n, .inl f))] := hD.sub [0, 1] (by decide) rfl
          try dsimp only at hw
          rcases hw with ⟨rfl, h_18⟩ | ⟨rfl, h_19⟩
          · have hp3 := h_18
            refine lv_if_eq (tgt := 36) hx hb dX5_spellsOne_29 (by decide) (fun c_20 => ?_) (fun c_20 => ?_)
            · exact False.elim (by revert c_20; decide)
            · refine lv_iconst (v := 1) hx hb dX5_spellsOne_32 (by decide) ?_
              refine lv_goto (tgt := 37) hx hb dX5_spellsOne_33 (by decide) ?_
              have hP9 := hP.sub (ws' := [(h0, .inr (5, [.ref a, .int (nI k)])), (a, .inl (cB, n, .inl f))]) [0, 1] rfl
              have hD9 := hD.sub (ws' := [(h0, .inr (5, [.ref a, .int (nI k)])), (a, .inl (cB, n, .inl f))]) [0, 1] (by decide) rfl
              exact W.zret (v := 1) hx hb hr (rfl) (fun t ht hW => ⟨⟨1, (), rfl, Or.inl (⟨rfl, by first | exact Or.inl hp1 | exact Or.inr (Or.inl hp2) | exact Or.inr (Or.inr hp3)⟩), ⟨by rw [ht]; exact hP9, va_K.moved hW.alike hK, hD9⟩⟩, hS.F ht⟩) hS.2.2 dX5_spellsOne_37
          · have hp3 := h_19
            refine lv_if_eq (tgt := 36) hx hb dX5_spellsOne_29 (by decide) (fun c_21 => ?_) (fun c_21 => ?_)
            · refine lv_iconst (v := 0) hx hb dX5_spellsOne_36 (by decide) ?_
              have hP9 := hP.sub (ws' := [(h0, .inr (5, [.ref a, .int (nI k)])), (a, .inl (cB, n, .inl f))]) [0, 1] rfl
              have hD9 := hD.sub (ws' := [(h0, .inr (5, [.ref a, .int (nI k)])), (a, .inl (cB, n, .inl f))]) [0, 1] (by decide) rfl
              exact W.zret (v := 0) hx hb hr (rfl) (fun t ht hW => ⟨⟨0, (), rfl, Or.inr ((⟨rfl, hp1, hp2, hp3⟩)), ⟨by rw [ht]; exact hP9, va_K.moved hW.alike hK, hD9⟩⟩, hS.F ht⟩) hS.2.2 dX5_spellsOne_37
            · exact False.elim (by revert c_21; decide)
set_option maxHeartbeats 4000000 in
set_option maxRecDepth 100000 in
theorem f_X5_heWordSex (l : Launch) (D : va_G) (cB cI cZ : ClassId) (E : pEt) (sz : Nat) (h0 : Nat) (X : Nat) (Y : Nat) (a : Nat) (k : Nat) (n : Nat) (f : Nat → Int32) (tt : Nat → Nat) (hk : k ≤ n) (hn : n ≤ 600) (hT : qT k f tt) (hXY : X + Y ≤ k) : Met l yX5_heWordSex (.code yX5_heWordSex cX5_heWordSex 3 (some .int) :: wsL_law) ({ frames := 6, cells := 0, slots := 0, locals := 136 } : Room) (va_Pc [.ref h0, .int (nI X), .int (nI Y)] (pInE E D (pT cB cI cZ) sz [(h0, .inr (5, [.ref a, .int (nI k)])), (a, .inl (cB, n, .inl f))])) (va_Qi (fun (r : Int32) (u : Unit) => ((0 < r) ∧ (qHe tt X Y) ∧ (r ≤ 4)) ∨ ((0 = r) ∧ (¬ qHe tt X Y))) (fun (u : Unit) (t : State) => pAt D (pT cB cI cZ) (va_A [(h0, .inr (5, [.ref a, .int (nI k)])), (a, .inl (cB, n, .inl f))] sz) [(h0, .inr (5, [.ref a, .int (nI k)])), (a, .inl (cB, n, .inl f))] t) (va_A [(h0, .inr (5, [.ref a, .int (nI k)])), (a, .inl (cB, n, .inl f))] sz)) 0 0 (va_A [(h0, .inr (5, [.ref a, .int (nI k)])), (a, .inl (cB, n, .inl f))] sz) := by
  refine Met.ofW (cc := cX5_heWordSex) (maxL := 3) (ret := (some .int)) (by decide) rfl ?_
  intro p e s m args below meth cd s₁ B hml hv
  obtain ⟨rfl, hsz, hP, hK, hD0, hE⟩ := hv
  have hx := B.exec
  have hb := B.bytes
  have hr := B.returns
  have hts0 := atoms_spec (ws := .code yX5_heWordSex cX5_heWordSex 3 (some .int) :: wsL_law) B.pre
  have hts := fun (w : Cond) (h : w ∈ wsL_law) => hts0 w (List.mem_cons_of_mem _ h)
  have hown : s.vm.findClass RX5 = some m.cls := findClass_of_methodNamed B.named
  have hlocks := B.notSynchronized
  subst hsz
  have hD := hD0.self (sz := s.heap.size)
  generalize hAe : va_A [(h0, .inr (5, [.ref a, .int (nI k)])), (a, .inl (cB, n, .inl f))] s.heap.size = A at hD hE ⊢
  have hA : ∀ q : Nat, s.heap.size ≤ q → A q := fun q h => by rw [← hAe]; exact Or.inr h
  have hS : va_S A s.heap s.heap [] := va_S.rf
  have hP : va_P D vwCl [(h0, .inr (5, [.ref a, .int (nI k)])), (a, .inl (cB, n, .inl f))] s.heap := hP
  have hl := lv_entry ([.ref h0, .int (nI X), .int (nI Y)]) (n := 3) (Nat.le_of_ble_eq_true rfl)
  rw [lg_entry_eq]
  generalize (lg_sl ([.ref h0, .int (nI X), .int (nI Y)]) ++ List.replicate (3 - (lg_sl ([.ref h0, .int (nI X), .int (nI Y)])).length) Slot.unset).toArray = ls at hl ⊢
  have hl : lv_has ls 3 [(0, .ref h0), (1, .int (nI X)), (2, .int (nI Y))] := hl
  refine lv_aload_n hx hb dX5_heWordSex_0 rfl (lv_at hl 0 rfl) ?_
  refine lv_iload_n hx hb dX5_heWordSex_1 rfl (lv_at hl 1 rfl) ?_
  refine lv_iload_n hx hb dX5_heWordSex_2 rfl (lv_at hl 2 rfl) ?_
  refine va_ldcS hx hb hown (pR_RX5_48 hE) dX5_heWordSex_3 ?_
  refine va_ldcS hx hb hown (pR_RX5_50 hE) dX5_heWordSex_5 ?_
  refine va_ldcS hx hb hown (pR_RX5_52 hE) dX5_heWordSex_7 ?_
  have hPc := hP.sub (ws' := [(h0, .inr (5, [.ref a, .int (nI k)])), (a, .inl (cB, n, .inl f))]) [0, 1] rfl
  have hDc := hD.sub (ws' := [(h0, .inr (5, [.ref a, .int (nI k)])), (a, .inl (cB, n, .inl f))]) [0, 1] (by decide) rfl
  have hFc := va_free (wc := [(h0, .inr (5, [.ref a, .int (nI k)])), (a, .inl (cB, n, .inl f))]) hD hS hA [0, 1] rfl
  refine va_calli (va_runV (As := [.int (nI X), .int (nI Y), .ref (E.1 0), .ref (E.1 1), .ref (E.1 2)]) (rest := []) ⟨hx, hb, hml, hown, hts⟩ (f_X5_spellsOne l D cB cI cZ E s.heap.size h0 X Y 0 1 2 a k n f tt (by first | assumption | omega) (by first | assumption | omega) (by first | assumption | omega) (by first | assumption | omega) (by first | assumption | omega) (by first | assumption | omega) (by first | assumption | omega)) (cwV 5 hts (uV (uc11 _ (List.mem_of_getElem? (i := 20) rfl)) (uc11 _ (List.mem_of_getElem? (i := 21) rfl)) (uc11 _ (List.mem_of_getElem? (i := 22) rfl)) (uc1 _ (List.mem_of_getElem? (i := 14) rfl)) (uc11 _ (List.mem_of_getElem? (i := 23) rfl))) rfl rfl rfl (by decide +kernel) ⟨Nat.le_of_ble_eq_true rfl, Nat.le_of_ble_eq_true rfl⟩) (pVE hE hS hFc hK hPc hDc 0 rfl rfl) rfl rfl hl.1 rfl (lv_room (Nat.le_of_ble_eq_true rfl)) dX5_heWordSex_9 ⟨Nat.le_of_ble_eq_true rfl, Nat.le_of_ble_eq_true rfl⟩) hS (fun q _ h => hFc q h) hFc (fun r_1 u t H_2 L_3 ht hvm hw hB hz1 hk1 hS => ?_)
  obtain ⟨hP1, -, hD1⟩ := hB
  rw [ht] at hP1
  obtain ⟨hP, hD⟩ := va_join (wr := []) (w1 := [(h0, .inr (5, [.ref a, .int (nI k)])), (a, .inl (cB, n, .inl f))]) hP hD [0, 1] [] rfl rfl (by decide) (by decide) hk1 hFc hP1 hD1
  have hP : va_P D vwCl [(h0, .inr (5, [.ref a, .int (nI k)])), (a, .inl (cB, n, .inl f))] H_2 := hP.sub [0, 1] rfl
  have hD : va_D A [(h0, .inr (5, [.ref a, .int (nI k)])), (a, .inl (cB, n, .inl f))] := hD.sub [0, 1] (by decide) rfl
  try dsimp only at hw
  rcases hw with ⟨rfl, h_4⟩ | ⟨rfl, h_5, h_6, h_7⟩
  · have hpA := h_4
    refine lv_if_eq (tgt := 17) hx hb dX5_heWordSex_12 (by decide) (fun c_8 => ?_) (fun c_8 => ?_)
    · exact False.elim (by revert c_8; decide)
    · refine lv_iconst (v := 1) hx hb dX5_heWordSex_15 (by decide) ?_
      have hP9 := hP.sub (ws' := [(h0, .inr (5, [.ref a, .int (nI k)])), (a, .inl (cB, n, .inl f))]) [0, 1] rfl
      have hD9 := hD.sub (ws' := [(h0, .inr (5, [.ref a, .int (nI k)])), (a, .inl (cB, n, .inl f))]) [0, 1] (by decide) rfl
      exact W.iret (v := 1) hx hb hr (fun t ht hW => ⟨⟨1, (), rfl, Or.inl (⟨by decide, qHe_3 (a := 0) (b := 1) (c := 2) (by decide) (by decide) (by decide) hpA, by decide⟩), ⟨by rw [ht]; exact hP9, va_K.moved hW.alike hK, hD9⟩⟩, hS.F ht⟩) hS.2.2 dX5_heWordSex_16
  · have hpA1 := h_5
    have hpA2 := h_6
    have hpA3 := h_7
    refine lv_if_eq (tgt := 17) hx hb dX5_heWordSex_12 (by decide) (fun c_9 => ?_) (fun c_9 => ?_)
    · refine lv_aload_n hx hb dX5_heWordSex_17 rfl (lv_at hl 0 rfl) ?_
      refine lv_iload_n hx hb dX5_heWordSex_18 rfl (lv_at hl 1 rfl) ?_
      refine lv_iload_n hx hb dX5_heWordSex_19 rfl (lv_at hl 2 rfl) ?_
      refine va_ldcS hx hb hown (pR_RX5_58 hE) dX5_heWordSex_20 ?_
      refine va_ldcS hx hb hown (pR_RX5_60 hE) dX5_heWordSex_22 ?_
      refine va_ldcS hx hb hown (pR_RX5_62 hE) dX5_heWordSex_24 ?_
      have hPc := hP.sub (ws' := [(h0, .inr (5, [.ref a, .int (nI k)])), (a, .inl (cB, n, .inl f))]) [0, 1] rfl
      have hDc := hD.sub (ws' := [(h0, .inr (5, [.ref a, .int (nI k)])), (a, .inl (cB, n, .inl f))]) [0, 1] (by decide) rfl
      have hFc := va_free (wc := [(h0, .inr (5, [.ref a, .int (nI k)])), (a, .inl (cB, n, .inl f))]) hD hS hA [0, 1] rfl
      refine va_calli (va_runV (As := [.int (nI X), .int (nI Y), .ref (E.1 3), .ref (E.1 4), .ref (E.1 5)]) (rest := []) ⟨hx, hb, hml, hown, hts⟩ (f_X5_spellsOne l D cB cI cZ E H_2.size h0 X Y 3 4 5 a k n f tt (by first | assumption | omega) (by first | assumption | omega) (by first | assumption | omega) (by first | assumption | omega) (by first | assumption | omega) (by first | assumption | omega) (by first | assumption | omega)) (cwV 5 hts (uV (uc11 _ (List.mem_of_getElem? (i := 20) rfl)) (uc11 _ (List.mem_of_getElem? (i := 21) rfl)) (uc11 _ (List.mem_of_getElem? (i := 22) rfl)) (uc1 _ (List.mem_of_getElem? (i := 14) rfl)) (uc11 _ (List.mem_of_getElem? (i := 23) rfl))) rfl rfl rfl (by decide +kernel) ⟨Nat.le_of_ble_eq_true rfl, Nat.le_of_ble_eq_true rfl⟩) (pVE hE hS hFc hK hPc hDc 0 rfl rfl) rfl rfl hl.1 rfl (lv_room (Nat.le_of_ble_eq_true rfl)) dX5_heWordSex_26 ⟨Nat.le_of_ble_eq_true rfl, Nat.le_of_ble_eq_true rfl⟩) hS (fun q _ h => hFc q h) hFc (fun r_10 u t H_11 L_12 ht hvm hw hB hz1 hk1 hS => ?_)
      obtain ⟨hP1, -, hD1⟩ := hB
      rw [ht] at hP1
      obtain ⟨hP, hD⟩ := va_join (wr := []) (w1 := [(h0, .inr (5, [.ref a, .int (nI k)])), (a, .inl (cB, n, .inl f))]) hP hD [0, 1] [] rfl rfl (by decide) (by decide) hk1 hFc hP1 hD1
      have hP : va_P D vwCl [(h0, .inr (5, [.ref a, .int (nI k)])), (a, .inl (cB, n, .inl f))] H_11 := hP.sub [0, 1] rfl
      have hD : va_D A [(h0, .inr (5, [.ref a, .int (nI k)])), (a, .inl (cB, n, .inl f))] := hD.sub [0, 1] (by decide) rfl
      try dsimp only at hw
      rcases hw with ⟨rfl, h_13⟩ | ⟨rfl, h_14, h_15, h_16⟩
      · have hpB := h_13
        refine lv_if_eq (tgt := 34) hx hb dX5_heWordSex_29 (by decide) (fun c_17 => ?_) (fun c_17 => ?_)
        · exact False.elim (by revert c_17; decide)
        · refine lv_iconst (v := 2) hx hb dX5_heWordSex_32 (by decide) ?_
          have hP9 := hP.sub (ws' := [(h0, .inr (5, [.ref a, .int (nI k)])), (a, .inl (cB, n, .inl f))]) [0, 1] rfl
          have hD9 := hD.sub (ws' := [(h0, .inr (5, [.ref a, .int (nI k)])), (a, .inl (cB, n, .inl f))]) [0, 1] (by decide) rfl
          exact W.iret (v := 2) hx hb hr (fun t ht hW => ⟨⟨2, (), rfl, Or.inl (⟨by decide, qHe_3 (a := 3) (b := 4) (c := 5) (by decide) (by decide) (by decide) hpB, by decide⟩), ⟨by rw [ht]; exact hP9, va_K.moved hW.alike hK, hD9⟩⟩, hS.F ht⟩) hS.2.2 dX5_heWordSex_33
      · have hpB1 := h_14
        have hpB2 := h_15
        have hpB3 := h_16
        refine lv_if_eq (tgt := 34) hx hb dX5_heWordSex_29 (by decide) (fun c_18 => ?_) (fun c_18 => ?_)
        · refine lv_aload_n hx hb dX5_heWordSex_34 rfl (lv_at hl 0 rfl) ?_
          refine lv_iload_n hx hb dX5_heWordSex_35 rfl (lv_at hl 1 rfl) ?_
          refine lv_iload_n hx hb dX5_heWordSex_36 rfl (lv_at hl 2 rfl) ?_
          refine va_ldcS hx hb hown (pR_RX5_64 hE) dX5_heWordSex_37 ?_
          refine va_ldcS hx hb hown (pR_RX5_66 hE) dX5_heWordSex_39 ?_
          refine va_ldcS hx hb hown (pR_RX5_66 hE) dX5_heWordSex_41 ?_
          have hPc := hP.sub (ws' := [(h0, .inr (5, [.ref a, .int (nI k)])), (a, .inl (cB, n, .inl f))]) [0, 1] rfl
          have hDc := hD.sub (ws' := [(h0, .inr (5, [.ref a, .int (nI k)])), (a, .inl (cB, n, .inl f))]) [0, 1] (by decide) rfl
          have hFc := va_free (wc := [(h0, .inr (5, [.ref a, .int (nI k)])), (a, .inl (cB, n, .inl f))]) hD hS hA [0, 1] rfl
          refine va_calli (va_runV (As := [.int (nI X), .int (nI Y), .ref (E.1 6), .ref (E.1 7), .ref (E.1 7)]) (rest := []) ⟨hx, hb, hml, hown, hts⟩ (f_X5_spellsOne l D cB cI cZ E H_11.size h0 X Y 6 7 7 a k n f tt (by first | assumption | omega) (by first | assumption | omega) (by first | assumption | omega) (by first | assumption | omega) (by first | assumption | omega) (by first | assumption | omega) (by first | assumption | omega)) (cwV 5 hts (uV (uc11 _ (List.mem_of_getElem? (i := 20) rfl)) (uc11 _ (List.mem_of_getElem? (i := 21) rfl)) (uc11 _ (List.mem_of_getElem? (i := 22) rfl)) (uc1 _ (List.mem_of_getElem? (i := 14) rfl)) (uc11 _ (List.mem_of_getElem? (i := 23) rfl))) rfl rfl rfl (by decide +kernel) ⟨Nat.le_of_ble_eq_true rfl, Nat.le_of_ble_eq_true rfl⟩) (pVE hE hS hFc hK hPc hDc 0 rfl rfl) rfl rfl hl.1 rfl (lv_room (Nat.le_of_ble_eq_true rfl)) dX5_heWordSex_43 ⟨Nat.le_of_ble_eq_true rfl, Nat.le_of_ble_eq_true rfl⟩) hS (fun q _ h => hFc q h) hFc (fun r_19 u t H_20 L_21 ht hvm hw hB hz1 hk1 hS => ?_)
          obtain ⟨hP1, -, hD1⟩ := hB
          rw [ht] at hP1
          obtain ⟨hP, hD⟩ := va_join (wr := []) (w1 := [(h0, .inr (5, [.ref a, .int (nI k)])), (a, .inl (cB, n, .inl f))]) hP hD [0, 1] [] rfl rfl (by decide) (by decide) hk1 hFc hP1 hD1
          have hP : va_P D vwCl [(h0, .inr (5, [.ref a, .int (nI k)])), (a, .inl (cB, n, .inl f))] H_20 := hP.sub [0, 1] rfl
          have hD : va_D A [(h0, .inr (5, [.ref a, .int (nI k)])), (a, .inl (cB, n, .inl f))] := hD.sub [0, 1] (by decide) rfl
          try dsimp only at hw
          rcases hw with ⟨rfl, h_22⟩ | ⟨rfl, h_23, h_24, h_25⟩
          · have hpC := h_22
            refine lv_if_eq (tgt := 51) hx hb dX5_heWordSex_46 (by decide) (fun c_26 => ?_) (fun c_26 => ?_)
            · exact False.elim (by revert c_26; decide)
            · refine lv_iconst (v := 3) hx hb dX5_heWordSex_49 (by decide) ?_
              have hP9 := hP.sub (ws' := [(h0, .inr (5, [.ref a, .int (nI k)])), (a, .inl (cB, n, .inl f))]) [0, 1] rfl
              have hD9 := hD.sub (ws' := [(h0, .inr (5, [.ref a, .int (nI k)])), (a, .inl (cB, n, .inl f))]) [0, 1] (by decide) rfl
              exact W.iret (v := 3) hx hb hr (fun t ht hW => ⟨⟨3, (), rfl, Or.inl (⟨by decide, qHe_3 (a := 6) (b := 7) (c := 7) (by decide) (by decide) (by decide) hpC, by decide⟩), ⟨by rw [ht]; exact hP9, va_K.moved hW.alike hK, hD9⟩⟩, hS.F ht⟩) hS.2.2 dX5_heWordSex_50
          · have hpC1 := h_23
            have hpC2 := h_24
            have hpC3 := h_25
            refine lv_if_eq (tgt := 51) hx hb dX5_heWordSex_46 (by decide) (fun c_27 => ?_) (fun c_27 => ?_)
            · refine lv_aload_n hx hb dX5_heWordSex_51 rfl (lv_at hl 0 rfl) ?_
              refine lv_iload_n hx hb dX5_heWordSex_52 rfl (lv_at hl 1 rfl) ?_
              refine lv_iload_n hx hb dX5_heWordSex_53 rfl (lv_at hl 2 rfl) ?_
              refine va_ldcS hx hb hown (pR_RX5_68 hE) dX5_heWordSex_54 ?_
              refine va_ldcS hx hb hown (pR_RX5_70 hE) dX5_heWordSex_56 ?_
              refine va_ldcS hx hb hown (pR_RX5_72 hE) dX5_heWordSex_58 ?_
              have hPc := hP.sub (ws' := [(h0, .inr (5, [.ref a, .int (nI k)])), (a, .inl (cB, n, .inl f))]) [0, 1] rfl
              have hDc := hD.sub (ws' := [(h0, .inr (5, [.ref a, .int (nI k)])), (a, .inl (cB, n, .inl f))]) [0, 1] (by decide) rfl
              have hFc := va_free (wc := [(h0, .inr (5, [.ref a, .int (nI k)])), (a, .inl (cB, n, .inl f))]) hD hS hA [0, 1] rfl
              refine va_calli (va_runV (As := [.int (nI X), .int (nI Y), .ref (E.1 8), .ref (E.1 9), .ref (E.1 10)]) (rest := []) ⟨hx, hb, hml, hown, hts⟩ (f_X5_spellsOne l D cB cI cZ E H_20.size h0 X Y 8 9 10 a k n f tt (by first | assumption | omega) (by first | assumption | omega) (by first | assumption | omega) (by first | assumption | omega) (by first | assumption | omega) (by first | assumption | omega) (by first | assumption | omega)) (cwV 5 hts (uV (uc11 _ (List.mem_of_getElem? (i := 20) rfl)) (uc11 _ (List.mem_of_getElem? (i := 21) rfl)) (uc11 _ (List.mem_of_getElem? (i := 22) rfl)) (uc1 _ (List.mem_of_getElem? (i := 14) rfl)) (uc11 _ (List.mem_of_getElem? (i := 23) rfl))) rfl rfl rfl (by decide +kernel) ⟨Nat.le_of_ble_eq_true rfl, Nat.le_of_ble_eq_true rfl⟩) (pVE hE hS hFc hK hPc hDc 0 rfl rfl) rfl rfl hl.1 rfl (lv_room (Nat.le_of_ble_eq_true rfl)) dX5_heWordSex_60 ⟨Nat.le_of_ble_eq_true rfl, Nat.le_of_ble_eq_true rfl⟩) hS (fun q _ h => hFc q h) hFc (fun r_28 u t H_29 L_30 ht hvm hw hB hz1 hk1 hS => ?_)
              obtain ⟨hP1, -, hD1⟩ := hB
              rw [ht] at hP1
              obtain ⟨hP, hD⟩ := va_join (wr := []) (w1 := [(h0, .inr (5, [.ref a, .int (nI k)])), (a, .inl (cB, n, .inl f))]) hP hD [0, 1] [] rfl rfl (by decide) (by decide) hk1 hFc hP1 hD1
              have hP : va_P D vwCl [(h0, .inr (5, [.ref a, .int (nI k)])), (a, .inl (cB, n, .inl f))] H_29 := hP.sub [0, 1] rfl
              have hD : va_D A [(h0, .inr (5, [.ref a, .int (nI k)])), (a, .inl (cB, n, .inl f))] := hD.sub [0, 1] (by decide) rfl
              try dsimp only at hw
              rcases hw with ⟨rfl, h_31⟩ | ⟨rfl, h_32, h_33, h_34⟩
              · have hpD := h_31
                refine lv_if_eq (tgt := 70) hx hb dX5_heWordSex_63 (by decide) (fun c_35 => ?_) (fun c_35 => ?_)
                · exact False.elim (by revert c_35; decide)
                · refine lv_iconst (v := 4) hx hb dX5_heWordSex_66 (by decide) ?_
                  refine lv_goto (tgt := 71) hx hb dX5_heWordSex_67 (by decide) ?_
                  have hP9 := hP.sub (ws' := [(h0, .inr (5, [.ref a, .int (nI k)])), (a, .inl (cB, n, .inl f))]) [0, 1] rfl
                  have hD9 := hD.sub (ws' := [(h0, .inr (5, [.ref a, .int (nI k)])), (a, .inl (cB, n, .inl f))]) [0, 1] (by decide) rfl
                  exact W.iret (v := 4) hx hb hr (fun t ht hW => ⟨⟨4, (), rfl, Or.inl (⟨by decide, qHe_3 (a := 8) (b := 9) (c := 10) (by decide) (by decide) (by decide) hpD, by decide⟩), ⟨by rw [ht]; exact hP9, va_K.moved hW.alike hK, hD9⟩⟩, hS.F ht⟩) hS.2.2 dX5_heWordSex_71
              · have hpD1 := h_32
                have hpD2 := h_33
                have hpD3 := h_34
                refine lv_if_eq (tgt := 70) hx hb dX5_heWordSex_63 (by decide) (fun c_36 => ?_) (fun c_36 => ?_)
                · refine lv_iconst (v := 0) hx hb dX5_heWordSex_70 (by decide) ?_
                  have hP9 := hP.sub (ws' := [(h0, .inr (5, [.ref a, .int (nI k)])), (a, .inl (cB, n, .inl f))]) [0, 1] rfl
                  have hD9 := hD.sub (ws' := [(h0, .inr (5, [.ref a, .int (nI k)])), (a, .inl (cB, n, .inl f))]) [0, 1] (by decide) rfl
                  exact W.iret (v := 0) hx hb hr (fun t ht hW => ⟨⟨0, (), rfl, Or.inr ((⟨rfl, qHe_n hpA1 hpA2 hpA3 hpB1 hpB2 hpB3 hpC1 hpC2 hpD1 hpD2 hpD3⟩)), ⟨by rw [ht]; exact hP9, va_K.moved hW.alike hK, hD9⟩⟩, hS.F ht⟩) hS.2.2 dX5_heWordSex_71
                · exact False.elim (by revert c_36; decide)
            · exact False.elim (by revert c_27; decide)
        · exact False.elim (by revert c_18; decide)
    · exact False.elim (by revert c_9; decide)
set_option maxHeartbeats 4000000 in
set_option maxRecDepth 100000 in
theorem f_X5_sameAs (l : Launch) (D : va_G) (cB cI cZ : ClassId) (E : pEt) (sz : Nat) (h0 : Nat) (X : Nat) (h1 : Nat) (Y : Nat) (Z0 : Nat) (a : Nat) (k : Nat) (n : Nat) (f : Nat → Int32) (a1 : Nat) (k1 : Nat) (n1 : Nat) (f1 : Nat → Int32) (tt : Nat → Nat) (tg : Nat → Nat) (hk : k ≤ n) (hn : n ≤ 600) (hk1 : k1 ≤ n1) (hn1 : n1 ≤ 600) (hT : qT k f tt) (hT1 : qT k1 f1 tg) (hXZ : X + Z0 ≤ k) (hYZ : Y + Z0 ≤ k1) : Met l yX5_sameAs (.code yX5_sameAs cX5_sameAs 6 (some .boolean) :: wsL_law) ({ frames := 0, cells := 0, slots := 0, locals := 0 } : Room) (va_Pc [.ref h0, .int (nI X), .ref h1, .int (nI Y), .int (nI Z0)] (pInE E D (pT cB cI cZ) sz [(h0, .inr (5, [.ref a, .int (nI k)])), (a, .inl (cB, n, .inl f)), (h1, .inr (5, [.ref a1, .int (nI k1)])), (a1, .inl (cB, n1, .inl f1))])) (va_Qi (fun (r : Int32) (u : Unit) => ((1 = r) ∧ (∀ j, j < Z0 → tt (X + j) = tg (Y + j))) ∨ ((0 = r) ∧ (¬ ∀ j, j < Z0 → tt (X + j) = tg (Y + j)))) (fun (u : Unit) (t : State) => pAt D (pT cB cI cZ) (va_A [(h0, .inr (5, [.ref a, .int (nI k)])), (a, .inl (cB, n, .inl f)), (h1, .inr (5, [.ref a1, .int (nI k1)])), (a1, .inl (cB, n1, .inl f1))] sz) [(h0, .inr (5, [.ref a, .int (nI k)])), (a, .inl (cB, n, .inl f)), (h1, .inr (5, [.ref a1, .int (nI k1)])), (a1, .inl (cB, n1, .inl f1))] t) (va_A [(h0, .inr (5, [.ref a, .int (nI k)])), (a, .inl (cB, n, .inl f)), (h1, .inr (5, [.ref a1, .int (nI k1)])), (a1, .inl (cB, n1, .inl f1))] sz)) 0 0 (va_A [(h0, .inr (5, [.ref a, .int (nI k)])), (a, .inl (cB, n, .inl f)), (h1, .inr (5, [.ref a1, .int (nI k1)])), (a1, .inl (cB, n1, .inl f1))] sz) := by
  refine Met.ofW (cc := cX5_sameAs) (maxL := 6) (ret := (some .boolean)) (by decide) rfl ?_
  intro p e s m args below meth cd s₁ B hml hv
  obtain ⟨rfl, hsz, hP, hK, hD0, hE⟩ := hv
  have hx := B.exec
  have hb := B.bytes
  have hr := B.returns
  have hts0 := atoms_spec (ws := .code yX5_sameAs cX5_sameAs 6 (some .boolean) :: wsL_law) B.pre
  have hts := fun (w : Cond) (h : w ∈ wsL_law) => hts0 w (List.mem_cons_of_mem _ h)
  have hown : s.vm.findClass RX5 = some m.cls := findClass_of_methodNamed B.named
  have hlocks := B.notSynchronized
  have hinX5 := inlX5
  subst hsz
  have hD := hD0.self (sz := s.heap.size)
  generalize hAe : va_A [(h0, .inr (5, [.ref a, .int (nI k)])), (a, .inl (cB, n, .inl f)), (h1, .inr (5, [.ref a1, .int (nI k1)])), (a1, .inl (cB, n1, .inl f1))] s.heap.size = A at hD hE ⊢
  have hA : ∀ q : Nat, s.heap.size ≤ q → A q := fun q h => by rw [← hAe]; exact Or.inr h
  have hS : va_S A s.heap s.heap [] := va_S.rf
  have hP : va_P D vwCl [(h0, .inr (5, [.ref a, .int (nI k)])), (a, .inl (cB, n, .inl f)), (h1, .inr (5, [.ref a1, .int (nI k1)])), (a1, .inl (cB, n1, .inl f1))] s.heap := hP
  have hl := lv_entry ([.ref h0, .int (nI X), .ref h1, .int (nI Y), .int (nI Z0)]) (n := 6) (Nat.le_of_ble_eq_true rfl)
  rw [lg_entry_eq]
  generalize (lg_sl ([.ref h0, .int (nI X), .ref h1, .int (nI Y), .int (nI Z0)]) ++ List.replicate (6 - (lg_sl ([.ref h0, .int (nI X), .ref h1, .int (nI Y), .int (nI Z0)])).length) Slot.unset).toArray = ls at hl ⊢
  have hl : lv_has ls 6 [(0, .ref h0), (1, .int (nI X)), (2, .ref h1), (3, .int (nI Y)), (4, .int (nI Z0))] := hl
  generalize hQ : MQ below _ _ _ _ _ _ = Q
  refine lv_iload_n hx hb dX5_sameAs_0 rfl (lv_at hl 1 rfl) ?_
  refine lv_if_lt (tgt := 30) hx hb dX5_sameAs_1 (by decide) (fun c_1 => ?_) (fun c_1 => ?_)
  · exact False.elim (by exact nI_pos (by omega) c_1)
  · refine lv_iload_n hx hb dX5_sameAs_4 rfl (lv_at hl 3 rfl) ?_
    refine lv_if_lt (tgt := 30) hx hb dX5_sameAs_5 (by decide) (fun c_2 => ?_) (fun c_2 => ?_)
    · exact False.elim (by exact nI_pos (by omega) c_2)
    · refine lv_iload hx hb dX5_sameAs_8 (lv_at hl 4 rfl) ?_
      refine lv_aload_n hx hb dX5_sameAs_10 rfl (lv_at hl 0 rfl) ?_
      refine va_get (D := D) (ci := 5) (v := .int (nI k)) (C := RX5) (T := TX5) (N := 2) hx hb hts hinX5 hown hK hP 0 rfl rfl 1 (by decide) (hts (.fieldLink RX5 21 "TaleReader$Text" "size" "I") (uc3 _ (List.mem_of_getElem? (i := 6) rfl))) (fun _ h9 => h9) rfl dX5_sameAs_11 ?_
      refine lv_iload_n hx hb dX5_sameAs_14 rfl (lv_at hl 1 rfl) ?_
      refine lv_isub hx hb dX5_sameAs_15 ?_
      refine lv_topi (fun z_3 ez_3 => ?_)
      obtain rfl : z_3 = nI (k - X) := ez_3.trans (pk_sub (by omega))
      refine lv_icmp_gt (tgt := 30) hx hb dX5_sameAs_16 (by decide) (fun c_4 => ?_) (fun c_4 => ?_)
      · exact False.elim (by exact nI_nlt (by omega) (by omega) c_4)
      · refine lv_iload hx hb dX5_sameAs_19 (lv_at hl 4 rfl) ?_
        refine lv_aload_n hx hb dX5_sameAs_21 rfl (lv_at hl 2 rfl) ?_
        refine va_get (D := D) (ci := 5) (v := .int (nI k1)) (C := RX5) (T := TX5) (N := 2) hx hb hts hinX5 hown hK hP 2 rfl rfl 1 (by decide) (hts (.fieldLink RX5 21 "TaleReader$Text" "size" "I") (uc3 _ (List.mem_of_getElem? (i := 6) rfl))) (fun _ h9 => h9) rfl dX5_sameAs_22 ?_
        refine lv_iload_n hx hb dX5_sameAs_25 rfl (lv_at hl 3 rfl) ?_
        refine lv_isub hx hb dX5_sameAs_26 ?_
        refine lv_topi (fun z_5 ez_5 => ?_)
        obtain rfl : z_5 = nI (k1 - Y) := ez_5.trans (pk_sub (by omega))
        refine lv_icmp_le (tgt := 32) hx hb dX5_sameAs_27 (by decide) (fun c_6 => ?_) (fun c_6 => ?_)
        · refine lv_iconst (v := 0) hx hb dX5_sameAs_32 (by decide) ?_
          refine lv_istore (lv' := [(5, .int 0), (0, .ref h0), (1, .int (nI X)), (2, .ref h1), (3, .int (nI Y)), (4, .int (nI Z0))]) hx hb dX5_sameAs_33 hl (by decide) rfl (fun ls hl => ?_)
          have loop_7 : ∀ (nn_9 : Nat) (i : Nat), (i ≤ Z0) → (∀ j, j < i → tt (X + j) = tg (Y + j)) → (Z0 - i < nn_9) → ∀ (H : Heap) (locs : List Loc) (ls : Array Slot), va_P D vwCl [(h0, .inr (5, [.ref a, .int (nI k)])), (a, .inl (cB, n, .inl f)), (h1, .inr (5, [.ref a1, .int (nI k1)])), (a1, .inl (cB, n1, .inl f1))] H → va_D A [(h0, .inr (5, [.ref a, .int (nI k)])), (a, .inl (cB, n, .inl f)), (h1, .inr (5, [.ref a1, .int (nI k1)])), (a1, .inl (cB, n1, .inl f1))] → va_S A s.heap H locs → lv_has ls 6 [(0, .ref h0), (1, .int (nI X)), (2, .ref h1), (3, .int (nI Y)), (4, .int (nI Z0)), (5, .int (nI i))] → W p l e ({ frames := 0, cells := 0, slots := 0, locals := 0 } : Room) s m ([.ref h0, .int (nI X), .ref h1, .int (nI Y), .int (nI Z0)] : List Value).toArray below meth cd H locs 0 0 Q (F0 m 35 ls []) := by
            intro nn_9
            induction nn_9 with
            | zero => intros; exact absurd ‹_ < 0› (Nat.not_lt_zero _)
            | succ nn_9 ih_8 =>
              intro i hi hs hmu H locs ls hP hD hS hl
              refine lv_iload hx hb dX5_sameAs_35 (lv_at hl 5 rfl) ?_
              refine lv_iload hx hb dX5_sameAs_37 (lv_at hl 4 rfl) ?_
              refine lv_icmp_ge (tgt := 71) hx hb dX5_sameAs_39 (by decide) (fun c_10 => ?_) (fun c_10 => ?_)
              · have hge := (nI_leI (by omega) (by omega)).mp c_10
                refine lv_iconst (v := 1) hx hb dX5_sameAs_71 (by decide) ?_
                have hP9 := hP.sub (ws' := [(h0, .inr (5, [.ref a, .int (nI k)])), (a, .inl (cB, n, .inl f)), (h1, .inr (5, [.ref a1, .int (nI k1)])), (a1, .inl (cB, n1, .inl f1))]) [0, 1, 2, 3] rfl
                have hD9 := hD.sub (ws' := [(h0, .inr (5, [.ref a, .int (nI k)])), (a, .inl (cB, n, .inl f)), (h1, .inr (5, [.ref a1, .int (nI k1)])), (a1, .inl (cB, n1, .inl f1))]) [0, 1, 2, 3] (by decide) rfl
                rw [← hQ]
                exact W.zret (v := 1) hx hb hr (rfl) (fun t ht hW => ⟨⟨1, (), rfl, Or.inl (⟨rfl, fun j hj => hs j (by omega)⟩), ⟨by rw [ht]; exact hP9, va_K.moved hW.alike hK, hD9⟩⟩, hS.F ht⟩) hS.2.2 dX5_sameAs_72
              · have hlt_i : i < Z0 := Nat.lt_of_not_le (fun q => c_10 (nI_le q (by omega)))
                refine lv_aload_n hx hb dX5_sameAs_42 rfl (lv_at hl 0 rfl) ?_
                refine va_get (D := D) (ci := 5) (v := .ref a) (C := RX5) (T := TX5) (N := 2) hx hb hts hinX5 hown hK hP 0 rfl rfl 0 (by decide) (hts (.fieldLink RX5 15 "TaleReader$Text" "signs" "[B") (uc3 _ (List.mem_of_getElem? (i := 5) rfl))) (fun _ h9 => h9) rfl dX5_sameAs_43 ?_
                refine lv_iload_n hx hb dX5_sameAs_46 rfl (lv_at hl 1 rfl) ?_
                refine lv_iload hx hb dX5_sameAs_47 (lv_at hl 5 rfl) ?_
                refine lv_iadd hx hb dX5_sameAs_49 ?_
                refine lv_topi (fun z_11 ez_11 => ?_)
                obtain rfl : z_11 = nI (X + i) := ez_11.trans (nI_add X i)
                refine va_bald (D := D) hx hb hK hP 1 0 rfl rfl (vp_in_nI (by omega) (by omega)) dX5_sameAs_50 ?_
                refine lv_topi (fun z_12 ez_12 => ?_)
                obtain rfl : z_12 = sb_b (tt (X + i)) := ez_12.trans ((congrArg f (nI_clamp (by omega))).trans (hT (X + i) (by omega)).1)
                refine lv_aload_n hx hb dX5_sameAs_51 rfl (lv_at hl 2 rfl) ?_
                refine va_get (D := D) (ci := 5) (v := .ref a1) (C := RX5) (T := TX5) (N := 2) hx hb hts hinX5 hown hK hP 2 rfl rfl 0 (by decide) (hts (.fieldLink RX5 15 "TaleReader$Text" "signs" "[B") (uc3 _ (List.mem_of_getElem? (i := 5) rfl))) (fun _ h9 => h9) rfl dX5_sameAs_52 ?_
                refine lv_iload_n hx hb dX5_sameAs_55 rfl (lv_at hl 3 rfl) ?_
                refine lv_iload hx hb dX5_sameAs_56 (lv_at hl 5 rfl) ?_
                refine lv_iadd hx hb dX5_sameAs_58 ?_
                refine lv_topi (fun z_13 ez_13 => ?_)
                obtain rfl : z_13 = nI (Y + i) := ez_13.trans (nI_add Y i)
                refine va_bald (D := D) hx hb hK hP 3 0 rfl rfl (vp_in_nI (by omega) (by omega)) dX5_sameAs_59 ?_
                refine lv_topi (fun z_14 ez_14 => ?_)
                obtain rfl : z_14 = sb_b (tg (Y + i)) := ez_14.trans ((congrArg f1 (nI_clamp (by omega))).trans (hT1 (Y + i) (by omega)).1)
                refine lv_icmp_eq (tgt := 65) hx hb dX5_sameAs_60 (by decide) (fun c_15 => ?_) (fun c_15 => ?_)
                · have he : tt (X + i) = tg (Y + i) := qb_inj (hT (X + i) (by omega)).2 (hT1 (Y + i) (by omega)).2 c_15
                  refine lv_iinc (v := nI (i + 1)) (lv' := [(5, .int (nI (i + 1))), (0, .ref h0), (1, .int (nI X)), (2, .ref h1), (3, .int (nI Y)), (4, .int (nI Z0))]) hx hb dX5_sameAs_65 hl (k := 5) rfl (nI_add i 1) (by decide) rfl (fun ls hl => ?_)
                  refine lv_goto (tgt := 35) hx hb dX5_sameAs_68 (by decide) ?_
                  exact ih_8 (i + 1) (by first | assumption | exact Or.inl rfl | exact Or.inr rfl | omega) (qStep hs he) (by omega) H _ ls (hP.sub (ws' := [(h0, .inr (5, [.ref a, .int (nI k)])), (a, .inl (cB, n, .inl f)), (h1, .inr (5, [.ref a1, .int (nI k1)])), (a1, .inl (cB, n1, .inl f1))]) [0, 1, 2, 3] rfl) (hD.sub (ws' := [(h0, .inr (5, [.ref a, .int (nI k)])), (a, .inl (cB, n, .inl f)), (h1, .inr (5, [.ref a1, .int (nI k1)])), (a1, .inl (cB, n1, .inl f1))]) [0, 1, 2, 3] (by decide) rfl) hS (lv_sub hl [1, 2, 3, 4, 5, 0] rfl)
                · have hne := c_15
                  refine lv_iconst (v := 0) hx hb dX5_sameAs_63 (by decide) ?_
                  have hP9 := hP.sub (ws' := [(h0, .inr (5, [.ref a, .int (nI k)])), (a, .inl (cB, n, .inl f)), (h1, .inr (5, [.ref a1, .int (nI k1)])), (a1, .inl (cB, n1, .inl f1))]) [0, 1, 2, 3] rfl
                  have hD9 := hD.sub (ws' := [(h0, .inr (5, [.ref a, .int (nI k)])), (a, .inl (cB, n, .inl f)), (h1, .inr (5, [.ref a1, .int (nI k1)])), (a1, .inl (cB, n1, .inl f1))]) [0, 1, 2, 3] (by decide) rfl
                  rw [← hQ]
                  exact W.zret (v := 0) hx hb hr (rfl) (fun t ht hW => ⟨⟨0, (), rfl, Or.inr ((⟨rfl, fun q => hne (by rw [q i hlt_i])⟩)), ⟨by rw [ht]; exact hP9, va_K.moved hW.alike hK, hD9⟩⟩, hS.F ht⟩) hS.2.2 dX5_sameAs_64
          exact loop_7 _ 0 (by first | assumption | exact Or.inl rfl | exact Or.inr rfl | omega) (qNil) (Nat.lt_succ_self _) s.heap _ ls (hP.sub (ws' := [(h0, .inr (5, [.ref a, .int (nI k)])), (a, .inl (cB, n, .inl f)), (h1, .inr (5, [.ref a1, .int (nI k1)])), (a1, .inl (cB, n1, .inl f1))]) [0, 1, 2, 3] rfl) (hD.sub (ws' := [(h0, .inr (5, [.ref a, .int (nI k)])), (a, .inl (cB, n, .inl f)), (h1, .inr (5, [.ref a1, .int (nI k1)])), (a1, .inl (cB, n1, .inl f1))]) [0, 1, 2, 3] (by decide) rfl) hS (lv_sub hl [1, 2, 3, 4, 5, 0] rfl)
        · exact False.elim (by exact c_6 (nI_le (by omega) (by omega)))
set_option maxHeartbeats 4000000 in
set_option maxRecDepth 100000 in
theorem f_X5_sameAs1 (l : Launch) (D : va_G) (cB cI cZ : ClassId) (E : pEt) (sz : Nat) (h0 : Nat) (X : Nat) (Y : Nat) (Z0 : Nat) (a : Nat) (k : Nat) (n : Nat) (f : Nat → Int32) (tt : Nat → Nat) (hk : k ≤ n) (hn : n ≤ 600) (hT : qT k f tt) (hXZ : X + Z0 ≤ k) (hYZ : Y + Z0 ≤ k) : Met l yX5_sameAs (.code yX5_sameAs cX5_sameAs 6 (some .boolean) :: wsL_law) ({ frames := 0, cells := 0, slots := 0, locals := 0 } : Room) (va_Pc [.ref h0, .int (nI X), .ref h0, .int (nI Y), .int (nI Z0)] (pInE E D (pT cB cI cZ) sz [(h0, .inr (5, [.ref a, .int (nI k)])), (a, .inl (cB, n, .inl f))])) (va_Qi (fun (r : Int32) (u : Unit) => ((1 = r) ∧ (∀ j, j < Z0 → tt (X + j) = tt (Y + j))) ∨ ((0 = r) ∧ (¬ ∀ j, j < Z0 → tt (X + j) = tt (Y + j)))) (fun (u : Unit) (t : State) => pAt D (pT cB cI cZ) (va_A [(h0, .inr (5, [.ref a, .int (nI k)])), (a, .inl (cB, n, .inl f))] sz) [(h0, .inr (5, [.ref a, .int (nI k)])), (a, .inl (cB, n, .inl f))] t) (va_A [(h0, .inr (5, [.ref a, .int (nI k)])), (a, .inl (cB, n, .inl f))] sz)) 0 0 (va_A [(h0, .inr (5, [.ref a, .int (nI k)])), (a, .inl (cB, n, .inl f))] sz) := by
  refine Met.ofW (cc := cX5_sameAs) (maxL := 6) (ret := (some .boolean)) (by decide) rfl ?_
  intro p e s m args below meth cd s₁ B hml hv
  obtain ⟨rfl, hsz, hP, hK, hD0, hE⟩ := hv
  have hx := B.exec
  have hb := B.bytes
  have hr := B.returns
  have hts0 := atoms_spec (ws := .code yX5_sameAs cX5_sameAs 6 (some .boolean) :: wsL_law) B.pre
  have hts := fun (w : Cond) (h : w ∈ wsL_law) => hts0 w (List.mem_cons_of_mem _ h)
  have hown : s.vm.findClass RX5 = some m.cls := findClass_of_methodNamed B.named
  have hlocks := B.notSynchronized
  have hinX5 := inlX5
  subst hsz
  have hD := hD0.self (sz := s.heap.size)
  generalize hAe : va_A [(h0, .inr (5, [.ref a, .int (nI k)])), (a, .inl (cB, n, .inl f))] s.heap.size = A at hD hE ⊢
  have hA : ∀ q : Nat, s.heap.size ≤ q → A q := fun q h => by rw [← hAe]; exact Or.inr h
  have hS : va_S A s.heap s.heap [] := va_S.rf
  have hP : va_P D vwCl [(h0, .inr (5, [.ref a, .int (nI k)])), (a, .inl (cB, n, .inl f))] s.heap := hP
  have hl := lv_entry ([.ref h0, .int (nI X), .ref h0, .int (nI Y), .int (nI Z0)]) (n := 6) (Nat.le_of_ble_eq_true rfl)
  rw [lg_entry_eq]
  generalize (lg_sl ([.ref h0, .int (nI X), .ref h0, .int (nI Y), .int (nI Z0)]) ++ List.replicate (6 - (lg_sl ([.ref h0, .int (nI X), .ref h0, .int (nI Y), .int (nI Z0)])).length) Slot.unset).toArray = ls at hl ⊢
  have hl : lv_has ls 6 [(0, .ref h0), (1, .int (nI X)), (2, .ref h0), (3, .int (nI Y)), (4, .int (nI Z0))] := hl
  generalize hQ : MQ below _ _ _ _ _ _ = Q
  refine lv_iload_n hx hb dX5_sameAs_0 rfl (lv_at hl 1 rfl) ?_
  refine lv_if_lt (tgt := 30) hx hb dX5_sameAs_1 (by decide) (fun c_1 => ?_) (fun c_1 => ?_)
  · exact False.elim (by exact nI_pos (by omega) c_1)
  · refine lv_iload_n hx hb dX5_sameAs_4 rfl (lv_at hl 3 rfl) ?_
    refine lv_if_lt (tgt := 30) hx hb dX5_sameAs_5 (by decide) (fun c_2 => ?_) (fun c_2 => ?_)
    · exact False.elim (by exact nI_pos (by omega) c_2)
    · refine lv_iload hx hb dX5_sameAs_8 (lv_at hl 4 rfl) ?_
      refine lv_aload_n hx hb dX5_sameAs_10 rfl (lv_at hl 0 rfl) ?_
      refine va_get (D := D) (ci := 5) (v := .int (nI k)) (C := RX5) (T := TX5) (N := 2) hx hb hts hinX5 hown hK hP 0 rfl rfl 1 (by decide) (hts (.fieldLink RX5 21 "TaleReader$Text" "size" "I") (uc3 _ (List.mem_of_getElem? (i := 6) rfl))) (fun _ h9 => h9) rfl dX5_sameAs_11 ?_
      refine lv_iload_n hx hb dX5_sameAs_14 rfl (lv_at hl 1 rfl) ?_
      refine lv_isub hx hb dX5_sameAs_15 ?_
      refine lv_topi (fun z_3 ez_3 => ?_)
      obtain rfl : z_3 = nI (k - X) := ez_3.trans (pk_sub (by omega))
      refine lv_icmp_gt (tgt := 30) hx hb dX5_sameAs_16 (by decide) (fun c_4 => ?_) (fun c_4 => ?_)
      · exact False.elim (by exact nI_nlt (by omega) (by omega) c_4)
      · refine lv_iload hx hb dX5_sameAs_19 (lv_at hl 4 rfl) ?_
        refine lv_aload_n hx hb dX5_sameAs_21 rfl (lv_at hl 2 rfl) ?_
        refine va_get (D := D) (ci := 5) (v := .int (nI k)) (C := RX5) (T := TX5) (N := 2) hx hb hts hinX5 hown hK hP 0 rfl rfl 1 (by decide) (hts (.fieldLink RX5 21 "TaleReader$Text" "size" "I") (uc3 _ (List.mem_of_getElem? (i := 6) rfl))) (fun _ h9 => h9) rfl dX5_sameAs_22 ?_
        refine lv_iload_n hx hb dX5_sameAs_25 rfl (lv_at hl 3 rfl) ?_
        refine lv_isub hx hb dX5_sameAs_26 ?_
        refine lv_topi (fun z_5 ez_5 => ?_)
        obtain rfl : z_5 = nI (k - Y) := ez_5.trans (pk_sub (by omega))
        refine lv_icmp_le (tgt := 32) hx hb dX5_sameAs_27 (by decide) (fun c_6 => ?_) (fun c_6 => ?_)
        · refine lv_iconst (v := 0) hx hb dX5_sameAs_32 (by decide) ?_
          refine lv_istore (lv' := [(5, .int 0), (0, .ref h0), (1, .int (nI X)), (2, .ref h0), (3, .int (nI Y)), (4, .int (nI Z0))]) hx hb dX5_sameAs_33 hl (by decide) rfl (fun ls hl => ?_)
          have loop_7 : ∀ (nn_9 : Nat) (i : Nat), (i ≤ Z0) → (∀ j, j < i → tt (X + j) = tt (Y + j)) → (Z0 - i < nn_9) → ∀ (H : Heap) (locs : List Loc) (ls : Array Slot), va_P D vwCl [(h0, .inr (5, [.ref a, .int (nI k)])), (a, .inl (cB, n, .inl f))] H → va_D A [(h0, .inr (5, [.ref a, .int (nI k)])), (a, .inl (cB, n, .inl f))] → va_S A s.heap H locs → lv_has ls 6 [(0, .ref h0), (1, .int (nI X)), (2, .ref h0), (3, .int (nI Y)), (4, .int (nI Z0)), (5, .int (nI i))] → W p l e ({ frames := 0, cells := 0, slots := 0, locals := 0 } : Room) s m ([.ref h0, .int (nI X), .ref h0, .int (nI Y), .int (nI Z0)] : List Value).toArray below meth cd H locs 0 0 Q (F0 m 35 ls []) := by
            intro nn_9
            induction nn_9 with
            | zero => intros; exact absurd ‹_ < 0› (Nat.not_lt_zero _)
            | succ nn_9 ih_8 =>
              intro i hi hs hmu H locs ls hP hD hS hl
              refine lv_iload hx hb dX5_sameAs_35 (lv_at hl 5 rfl) ?_
              refine lv_iload hx hb dX5_sameAs_37 (lv_at hl 4 rfl) ?_
              refine lv_icmp_ge (tgt := 71) hx hb dX5_sameAs_39 (by decide) (fun c_10 => ?_) (fun c_10 => ?_)
              · have hge := (nI_leI (by omega) (by omega)).mp c_10
                refine lv_iconst (v := 1) hx hb dX5_sameAs_71 (by decide) ?_
                have hP9 := hP.sub (ws' := [(h0, .inr (5, [.ref a, .int (nI k)])), (a, .inl (cB, n, .inl f))]) [0, 1] rfl
                have hD9 := hD.sub (ws' := [(h0, .inr (5, [.ref a, .int (nI k)])), (a, .inl (cB, n, .inl f))]) [0, 1] (by decide) rfl
                rw [← hQ]
                exact W.zret (v := 1) hx hb hr (rfl) (fun t ht hW => ⟨⟨1, (), rfl, Or.inl (⟨rfl, fun j hj => hs j (by omega)⟩), ⟨by rw [ht]; exact hP9, va_K.moved hW.alike hK, hD9⟩⟩, hS.F ht⟩) hS.2.2 dX5_sameAs_72
              · have hlt_i : i < Z0 := Nat.lt_of_not_le (fun q => c_10 (nI_le q (by omega)))
                refine lv_aload_n hx hb dX5_sameAs_42 rfl (lv_at hl 0 rfl) ?_
                refine va_get (D := D) (ci := 5) (v := .ref a) (C := RX5) (T := TX5) (N := 2) hx hb hts hinX5 hown hK hP 0 rfl rfl 0 (by decide) (hts (.fieldLink RX5 15 "TaleReader$Text" "signs" "[B") (uc3 _ (List.mem_of_getElem? (i := 5) rfl))) (fun _ h9 => h9) rfl dX5_sameAs_43 ?_
                refine lv_iload_n hx hb dX5_sameAs_46 rfl (lv_at hl 1 rfl) ?_
                refine lv_iload hx hb dX5_sameAs_47 (lv_at hl 5 rfl) ?_
                refine lv_iadd hx hb dX5_sameAs_49 ?_
                refine lv_topi (fun z_11 ez_11 => ?_)
                obtain rfl : z_11 = nI (X + i) := ez_11.trans (nI_add X i)
                refine va_bald (D := D) hx hb hK hP 1 0 rfl rfl (vp_in_nI (by omega) (by omega)) dX5_sameAs_50 ?_
                refine lv_topi (fun z_12 ez_12 => ?_)
                obtain rfl : z_12 = sb_b (tt (X + i)) := ez_12.trans ((congrArg f (nI_clamp (by omega))).trans (hT (X + i) (by omega)).1)
                refine lv_aload_n hx hb dX5_sameAs_51 rfl (lv_at hl 2 rfl) ?_
                refine va_get (D := D) (ci := 5) (v := .ref a) (C := RX5) (T := TX5) (N := 2) hx hb hts hinX5 hown hK hP 0 rfl rfl 0 (by decide) (hts (.fieldLink RX5 15 "TaleReader$Text" "signs" "[B") (uc3 _ (List.mem_of_getElem? (i := 5) rfl))) (fun _ h9 => h9) rfl dX5_sameAs_52 ?_
                refine lv_iload_n hx hb dX5_sameAs_55 rfl (lv_at hl 3 rfl) ?_
                refine lv_iload hx hb dX5_sameAs_56 (lv_at hl 5 rfl) ?_
                refine lv_iadd hx hb dX5_sameAs_58 ?_
                refine lv_topi (fun z_13 ez_13 => ?_)
                obtain rfl : z_13 = nI (Y + i) := ez_13.trans (nI_add Y i)
                refine va_bald (D := D) hx hb hK hP 1 0 rfl rfl (vp_in_nI (by omega) (by omega)) dX5_sameAs_59 ?_
                refine lv_topi (fun z_14 ez_14 => ?_)
                obtain rfl : z_14 = sb_b (tt (Y + i)) := ez_14.trans ((congrArg f (nI_clamp (by omega))).trans (hT (Y + i) (by omega)).1)
                refine lv_icmp_eq (tgt := 65) hx hb dX5_sameAs_60 (by decide) (fun c_15 => ?_) (fun c_15 => ?_)
                · have he : tt (X + i) = tt (Y + i) := qb_inj (hT (X + i) (by omega)).2 (hT (Y + i) (by omega)).2 c_15
                  refine lv_iinc (v := nI (i + 1)) (lv' := [(5, .int (nI (i + 1))), (0, .ref h0), (1, .int (nI X)), (2, .ref h0), (3, .int (nI Y)), (4, .int (nI Z0))]) hx hb dX5_sameAs_65 hl (k := 5) rfl (nI_add i 1) (by decide) rfl (fun ls hl => ?_)
                  refine lv_goto (tgt := 35) hx hb dX5_sameAs_68 (by decide) ?_
                  exact ih_8 (i + 1) (by first | assumption | exact Or.inl rfl | exact Or.inr rfl | omega) (qStep hs he) (by omega) H _ ls (hP.sub (ws' := [(h0, .inr (5, [.ref a, .int (nI k)])), (a, .inl (cB, n, .inl f))]) [0, 1] rfl) (hD.sub (ws' := [(h0, .inr (5, [.ref a, .int (nI k)])), (a, .inl (cB, n, .inl f))]) [0, 1] (by decide) rfl) hS (lv_sub hl [1, 2, 3, 4, 5, 0] rfl)
                · have hne := c_15
                  refine lv_iconst (v := 0) hx hb dX5_sameAs_63 (by decide) ?_
                  have hP9 := hP.sub (ws' := [(h0, .inr (5, [.ref a, .int (nI k)])), (a, .inl (cB, n, .inl f))]) [0, 1] rfl
                  have hD9 := hD.sub (ws' := [(h0, .inr (5, [.ref a, .int (nI k)])), (a, .inl (cB, n, .inl f))]) [0, 1] (by decide) rfl
                  rw [← hQ]
                  exact W.zret (v := 0) hx hb hr (rfl) (fun t ht hW => ⟨⟨0, (), rfl, Or.inr ((⟨rfl, fun q => hne (by rw [q i hlt_i])⟩)), ⟨by rw [ht]; exact hP9, va_K.moved hW.alike hK, hD9⟩⟩, hS.F ht⟩) hS.2.2 dX5_sameAs_64
          exact loop_7 _ 0 (by first | assumption | exact Or.inl rfl | exact Or.inr rfl | omega) (qNil) (Nat.lt_succ_self _) s.heap _ ls (hP.sub (ws' := [(h0, .inr (5, [.ref a, .int (nI k)])), (a, .inl (cB, n, .inl f))]) [0, 1] rfl) (hD.sub (ws' := [(h0, .inr (5, [.ref a, .int (nI k)])), (a, .inl (cB, n, .inl f))]) [0, 1] (by decide) rfl) hS (lv_sub hl [1, 2, 3, 4, 5, 0] rfl)
        · exact False.elim (by exact c_6 (nI_le (by omega) (by omega)))
