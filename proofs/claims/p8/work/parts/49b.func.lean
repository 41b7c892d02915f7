set_option maxHeartbeats 4000000 in
set_option maxRecDepth 100000 in
theorem f_X5_signT (l : Launch) (D : va_G) (cB cI cZ : ClassId) (E : pEt) (sz : Nat) (h0 : Nat) (X : Nat) (a : Nat) (k : Nat) (n : Nat) (f : Nat → Int32) (tt : Nat → Nat) (hk : k ≤ n) (hn : n ≤ 600) (hX : X < k) (hT : qT k f tt) : Met l yX5_signAt (.code yX5_signAt cX5_signAt 2 (some .int) :: wsL_law) ({ frames := 1, cells := 0, slots := 0, locals := 22 } : Room) (va_Pc [.ref h0, .int (nI X)] (pInE E D (pT cB cI cZ) sz [(h0, .inr (5, [.ref a, .int (nI k)])), (a, .inl (cB, n, .inl f))])) (va_Qi (fun (r : Int32) (u : Unit) => (sb_b (tt X)) = r) (fun (u : Unit) (t : State) => pAt D (pT cB cI cZ) (va_A [(h0, .inr (5, [.ref a, .int (nI k)])), (a, .inl (cB, n, .inl f))] sz) [(h0, .inr (5, [.ref a, .int (nI k)])), (a, .inl (cB, n, .inl f))] t) (va_A [(h0, .inr (5, [.ref a, .int (nI k)])), (a, .inl (cB, n, .inl f))] sz)) 0 0 (va_A [(h0, .inr (5, [.ref a, .int (nI k)])), (a, .inl (cB, n, .inl f))] sz) := by
  refine Met.ofW (cc := cX5_signAt) (maxL := 2) (ret := (some .int)) (by decide) rfl ?_
  intro p e s m args below meth cd s₁ B hml hv
  obtain ⟨rfl, hsz, hP, hK, hD0, hE⟩ := hv
  have hx := B.exec
  have hb := B.bytes
  have hr := B.returns
  have hts0 := atoms_spec (ws := .code yX5_signAt cX5_signAt 2 (some .int) :: wsL_law) B.pre
  have hts := fun (w : Cond) (h : w ∈ wsL_law) => hts0 w (List.mem_cons_of_mem _ h)
  have hown : s.vm.findClass RX5 = some m.cls := findClass_of_methodNamed B.named
  have hlocks := B.notSynchronized
  have hinX5 := inlX5
  subst hsz
  have hD := hD0.self (sz := s.heap.size)
  generalize hAe : va_A [(h0, .inr (5, [.ref a, .int (nI k)])), (a, .inl (cB, n, .inl f))] s.heap.size = A at hD hE ⊢
  have hA : ∀ q : Nat, s.heap.size ≤ q → A q := fun q h => by rw [← hAe]; exact Or.inr h
  have hS : va_S A s.heap s.heap [] := va_S.rf
  have hP : va_P D vwCl [(h0, .inr (5, [.ref a, .int (nI k)])), (a, .inl (cB, n, .inl f))] s.heap := hP
  have hl := lv_entry ([.ref h0, .int (nI X)]) (n := 2) (Nat.le_of_ble_eq_true rfl)
  rw [lg_entry_eq]
  generalize (lg_sl ([.ref h0, .int (nI X)]) ++ List.replicate (2 - (lg_sl ([.ref h0, .int (nI X)])).length) Slot.unset).toArray = ls at hl ⊢
  have hl : lv_has ls 2 [(0, .ref h0), (1, .int (nI X))] := hl
  refine lv_aload_n hx hb dX5_signAt_0 rfl (lv_at hl 0 rfl) ?_
  refine lv_iload_n hx hb dX5_signAt_1 rfl (lv_at hl 1 rfl) ?_
  refine lv_iconst (v := 1) hx hb dX5_signAt_2 (by decide) ?_
  have hPc := hP.sub (ws' := [(h0, .inr (5, [.ref a, .int (nI k)]))]) [0] rfl
  have hDc := hD.sub (ws' := [(h0, .inr (5, [.ref a, .int (nI k)]))]) [0] (by decide) rfl
  have hFc := va_free (wc := [(h0, .inr (5, [.ref a, .int (nI k)]))]) hD hS hA [0] rfl
  refine va_calli (va_runV (As := [.int (nI X), .int 1]) (rest := []) ⟨hx, hb, hml, hown, hts⟩ (s_X5_holds l D cB cI cZ E s.heap.size h0 a k (nI X) 1 (by first | assumption | omega)) (cwV 2 hts (uV (uc10 _ (List.mem_of_getElem? (i := 1) rfl)) (uc10 _ (List.mem_of_getElem? (i := 2) rfl)) (uc10 _ (List.mem_of_getElem? (i := 3) rfl)) (uc1 _ (List.mem_of_getElem? (i := 14) rfl)) (uc10 _ (List.mem_of_getElem? (i := 4) rfl))) rfl rfl rfl (by decide +kernel) ⟨Nat.le_of_ble_eq_true rfl, Nat.le_of_ble_eq_true rfl⟩) (pVE hE hS hFc hK hPc hDc 0 rfl rfl) rfl rfl hl.1 rfl (lv_room (Nat.le_of_ble_eq_true rfl)) dX5_signAt_3 ⟨Nat.le_of_ble_eq_true rfl, Nat.le_of_ble_eq_true rfl⟩) hS (fun q _ h => hFc q h) hFc (fun r_1 u t H_2 L_3 ht hvm hw hB hz1 hk1 hS => ?_)
  obtain ⟨hP1, -, hD1⟩ := hB
  rw [ht] at hP1
  obtain ⟨hP, hD⟩ := va_join (wr := [(a, .inl (cB, n, .inl f))]) (w1 := [(h0, .inr (5, [.ref a, .int (nI k)]))]) hP hD [0] [1] rfl rfl (by decide) (by decide) hk1 hFc hP1 hD1
  have hP : va_P D vwCl [(h0, .inr (5, [.ref a, .int (nI k)])), (a, .inl (cB, n, .inl f))] H_2 := hP.sub [1, 0] rfl
  have hD : va_D A [(h0, .inr (5, [.ref a, .int (nI k)])), (a, .inl (cB, n, .inl f))] := hD.sub [1, 0] (by decide) rfl
  try dsimp only at hw
  rcases hw with ⟨rfl, h_4⟩ | ⟨rfl, h_5⟩
  · refine lv_if_eq (tgt := 18) hx hb dX5_signAt_6 (by decide) (fun c_6 => ?_) (fun c_6 => ?_)
    · exact False.elim (by revert c_6; decide)
    · refine lv_aload_n hx hb dX5_signAt_9 rfl (lv_at hl 0 rfl) ?_
      refine va_get (D := D) (ci := 5) (v := .ref a) (C := RX5) (T := TX5) (N := 2) hx hb hts hinX5 hown hK hP 0 rfl rfl 0 (by decide) (hts (.fieldLink RX5 15 "TaleReader$Text" "signs" "[B") (uc3 _ (List.mem_of_getElem? (i := 5) rfl))) (fun _ h9 => h9) rfl dX5_signAt_10 ?_
      refine lv_iload_n hx hb dX5_signAt_13 rfl (lv_at hl 1 rfl) ?_
      refine va_bald (D := D) hx hb hK hP 1 0 rfl rfl (vp_in_nI (by omega) (by omega)) dX5_signAt_14 ?_
      refine lv_topi (fun z_7 ez_7 => ?_)
      obtain rfl : z_7 = sb_b (tt (X)) := ez_7.trans ((congrArg f (nI_clamp (by omega))).trans (hT (X) (by omega)).1)
      refine lv_goto (tgt := 19) hx hb dX5_signAt_15 (by decide) ?_
      have hP9 := hP.sub (ws' := [(h0, .inr (5, [.ref a, .int (nI k)])), (a, .inl (cB, n, .inl f))]) [0, 1] rfl
      have hD9 := hD.sub (ws' := [(h0, .inr (5, [.ref a, .int (nI k)])), (a, .inl (cB, n, .inl f))]) [0, 1] (by decide) rfl
      exact W.iret (v := sb_b (tt (X))) hx hb hr (fun t ht hW => ⟨⟨sb_b (tt (X)), (), rfl, rfl, ⟨by rw [ht]; exact hP9, va_K.moved hW.alike hK, hD9⟩⟩, hS.F ht⟩) hS.2.2 dX5_signAt_19
  · exact False.elim (by exact h_5 ⟨X, 1, rfl, rfl, by omega⟩)
set_option maxHeartbeats 4000000 in
set_option maxRecDepth 100000 in
theorem f_X5_lettersFrom (l : Launch) (D : va_G) (cB cI cZ : ClassId) (E : pEt) (sz : Nat) (h0 : Nat) (X : Nat) (a : Nat) (k : Nat) (n : Nat) (f : Nat → Int32) (tt : Nat → Nat) (hk : k ≤ n) (hn : n ≤ 600) (hX : X ≤ k) (hT : qT k f tt) : Met l yX5_lettersFrom (.code yX5_lettersFrom cX5_lettersFrom 5 (some .int) :: wsL_law) ({ frames := 2, cells := 0, slots := 0, locals := 43 } : Room) (va_Pc [.ref h0, .int (nI X)] (pInE E D (pT cB cI cZ) sz [(h0, .inr (5, [.ref a, .int (nI k)])), (a, .inl (cB, n, .inl f))])) (va_Qi (fun (r : Int32) (u : Nat) => ((nI u) = r) ∧ (qRun tt k X u)) (fun (u : Nat) (t : State) => pAt D (pT cB cI cZ) (va_A [(h0, .inr (5, [.ref a, .int (nI k)])), (a, .inl (cB, n, .inl f))] sz) [(h0, .inr (5, [.ref a, .int (nI k)])), (a, .inl (cB, n, .inl f))] t) (va_A [(h0, .inr (5, [.ref a, .int (nI k)])), (a, .inl (cB, n, .inl f))] sz)) 0 0 (va_A [(h0, .inr (5, [.ref a, .int (nI k)])), (a, .inl (cB, n, .inl f))] sz) := by
  refine Met.ofW (cc := cX5_lettersFrom) (maxL := 5) (ret := (some .int)) (by decide) rfl ?_
  intro p e s m args below meth cd s₁ B hml hv
  obtain ⟨rfl, hsz, hP, hK, hD0, hE⟩ := hv
  have hx := B.exec
  have hb := B.bytes
  have hr := B.returns
  have hts0 := atoms_spec (ws := .code yX5_lettersFrom cX5_lettersFrom 5 (some .int) :: wsL_law) B.pre
  have hts := fun (w : Cond) (h : w ∈ wsL_law) => hts0 w (List.mem_cons_of_mem _ h)
  have hown : s.vm.findClass RX5 = some m.cls := findClass_of_methodNamed B.named
  have hlocks := B.notSynchronized
  have hinX5 := inlX5
  subst hsz
  have hD := hD0.self (sz := s.heap.size)
  generalize hAe : va_A [(h0, .inr (5, [.ref a, .int (nI k)])), (a, .inl (cB, n, .inl f))] s.heap.size = A at hD hE ⊢
  have hA : ∀ q : Nat, s.heap.size ≤ q → A q := fun q h => by rw [← hAe]; exact Or.inr h
  have hS : va_S A s.heap s.heap [] := va_S.rf
  have hP : va_P D vwCl [(h0, .inr (5, [.ref a, .int (nI k)])), (a, .inl (cB, n, .inl f))] s.heap := hP
  have hl := lv_entry ([.ref h0, .int (nI X)]) (n := 5) (Nat.le_of_ble_eq_true rfl)
  rw [lg_entry_eq]
  generalize (lg_sl ([.ref h0, .int (nI X)]) ++ List.replicate (5 - (lg_sl ([.ref h0, .int (nI X)])).length) Slot.unset).toArray = ls at hl ⊢
  have hl : lv_has ls 5 [(0, .ref h0), (1, .int (nI X))] := hl
  generalize hQ : MQ below _ _ _ _ _ _ = Q
  refine lv_iconst (v := 0) hx hb dX5_lettersFrom_0 (by decide) ?_
  refine lv_istore_n (lv' := [(2, .int 0), (0, .ref h0), (1, .int (nI X))]) hx hb dX5_lettersFrom_1 rfl hl (by decide) rfl (fun ls hl => ?_)
  refine lv_iload_n hx hb dX5_lettersFrom_2 rfl (lv_at hl 2 rfl) ?_
  refine lv_istore_n (lv' := [(3, .int (nI X)), (2, .int 0), (0, .ref h0), (1, .int (nI X))]) hx hb dX5_lettersFrom_3 rfl hl (by decide) rfl (fun ls hl => ?_)
  have loop_1 : ∀ (nn_3 : Nat) (L : Nat), (X + L ≤ k) → (∀ j, j < L → qLr (tt (X + j))) → (k - (X + L) < nn_3) → ∀ (H : Heap) (locs : List Loc) (ls : Array Slot), va_P D vwCl [(h0, .inr (5, [.ref a, .int (nI k)])), (a, .inl (cB, n, .inl f))] H → va_D A [(h0, .inr (5, [.ref a, .int (nI k)])), (a, .inl (cB, n, .inl f))] → va_S A s.heap H locs → lv_has ls 5 [(0, .ref h0), (1, .int (nI X)), (2, .int (nI L)), (3, .int (nI (X + L)))] → W p l e ({ frames := 2, cells := 0, slots := 0, locals := 43 } : Room) s m ([.ref h0, .int (nI X)] : List Value).toArray below meth cd H locs 0 0 Q (F0 m 4 ls []) := by
    intro nn_3
    induction nn_3 with
    | zero => intros; exact absurd ‹_ < 0› (Nat.not_lt_zero _)
    | succ nn_3 ih_2 =>
      intro L hL hs hmu H locs ls hP hD hS hl
      refine lv_iload_n hx hb dX5_lettersFrom_4 rfl (lv_at hl 3 rfl) ?_
      refine lv_aload_n hx hb dX5_lettersFrom_5 rfl (lv_at hl 0 rfl) ?_
      refine va_get (D := D) (ci := 5) (v := .int (nI k)) (C := RX5) (T := TX5) (N := 2) hx hb hts hinX5 hown hK hP 0 rfl rfl 1 (by decide) (hts (.fieldLink RX5 21 "TaleReader$Text" "size" "I") (uc3 _ (List.mem_of_getElem? (i := 6) rfl))) (fun _ h9 => h9) rfl dX5_lettersFrom_6 ?_
      refine lv_icmp_ge (tgt := 47) hx hb dX5_lettersFrom_9 (by decide) (fun c_4 => ?_) (fun c_4 => ?_)
      · have hge := (nI_leI (by omega) (by omega)).mp c_4
        refine lv_iload_n hx hb dX5_lettersFrom_47 rfl (lv_at hl 2 rfl) ?_
        have hP9 := hP.sub (ws' := [(h0, .inr (5, [.ref a, .int (nI k)])), (a, .inl (cB, n, .inl f))]) [0, 1] rfl
        have hD9 := hD.sub (ws' := [(h0, .inr (5, [.ref a, .int (nI k)])), (a, .inl (cB, n, .inl f))]) [0, 1] (by decide) rfl
        rw [← hQ]
        exact W.iret (v := nI L) hx hb hr (fun t ht hW => ⟨⟨nI L, L, rfl, ⟨rfl, ⟨hL, hs, by first | exact Or.inl (by omega) | exact Or.inr (fun q => q.elim hns hnc)⟩⟩, ⟨by rw [ht]; exact hP9, va_K.moved hW.alike hK, hD9⟩⟩, hS.F ht⟩) hS.2.2 dX5_lettersFrom_48
      · have hlt : X + L < k := Nat.lt_of_not_le (fun q => c_4 (nI_le q (by omega)))
        refine lv_aload_n hx hb dX5_lettersFrom_12 rfl (lv_at hl 0 rfl) ?_
        refine lv_iload_n hx hb dX5_lettersFrom_13 rfl (lv_at hl 3 rfl) ?_
        have hPc := hP.sub (ws' := [(h0, .inr (5, [.ref a, .int (nI k)])), (a, .inl (cB, n, .inl f))]) [0, 1] rfl
        have hDc := hD.sub (ws' := [(h0, .inr (5, [.ref a, .int (nI k)])), (a, .inl (cB, n, .inl f))]) [0, 1] (by decide) rfl
        have hFc := va_free (wc := [(h0, .inr (5, [.ref a, .int (nI k)])), (a, .inl (cB, n, .inl f))]) hD hS hA [0, 1] rfl
        refine va_calli (va_runV (As := [.int (nI (X + L))]) (rest := []) ⟨hx, hb, hml, hown, hts⟩ (f_X5_signT l D cB cI cZ E H.size h0 (X + L) a k n f tt (by first | assumption | omega) (by first | assumption | omega) (by first | assumption | omega) (by first | assumption | omega)) (cwV 1 hts (uV (uc9 _ (List.mem_of_getElem? (i := 21) rfl)) (uc9 _ (List.mem_of_getElem? (i := 22) rfl)) (uc9 _ (List.mem_of_getElem? (i := 23) rfl)) (uc1 _ (List.mem_of_getElem? (i := 14) rfl)) (uc10 _ (List.mem_of_getElem? (i := 0) rfl))) rfl rfl rfl (by decide +kernel) ⟨Nat.le_of_ble_eq_true rfl, Nat.le_of_ble_eq_true rfl⟩) (pVE hE hS hFc hK hPc hDc 0 rfl rfl) rfl rfl hl.1 rfl (lv_room (Nat.le_of_ble_eq_true rfl)) dX5_lettersFrom_14 ⟨Nat.le_of_ble_eq_true rfl, Nat.le_of_ble_eq_true rfl⟩) hS (fun q _ h => hFc q h) hFc (fun r_5 u t H_6 L_7 ht hvm hw hB hz1 hk1 hS => ?_)
        obtain ⟨hP1, -, hD1⟩ := hB
        rw [ht] at hP1
        obtain ⟨hP, hD⟩ := va_join (wr := []) (w1 := [(h0, .inr (5, [.ref a, .int (nI k)])), (a, .inl (cB, n, .inl f))]) hP hD [0, 1] [] rfl rfl (by decide) (by decide) hk1 hFc hP1 hD1
        have hP : va_P D vwCl [(h0, .inr (5, [.ref a, .int (nI k)])), (a, .inl (cB, n, .inl f))] H_6 := hP.sub [0, 1] rfl
        have hD : va_D A [(h0, .inr (5, [.ref a, .int (nI k)])), (a, .inl (cB, n, .inl f))] := hD.sub [0, 1] (by decide) rfl
        try dsimp only at hw
        subst hw
        refine lv_istore (lv' := [(4, .int (sb_b (tt (X + L)))), (0, .ref h0), (1, .int (nI X)), (2, .int (nI L)), (3, .int (nI (X + L)))]) hx hb dX5_lettersFrom_17 hl (by decide) rfl (fun ls hl => ?_)
        refine lv_iload hx hb dX5_lettersFrom_19 (lv_at hl 0 rfl) ?_
        have hPc := hP.sub (ws' := []) [] rfl
        have hDc := hD.sub (ws' := []) [] (by decide) rfl
        have hFc := va_free (wc := []) hD hS hA [] rfl
        refine va_calli (va_runSN (As := [.int (sb_b (tt (X + L)))]) (rest := []) ⟨hx, hb, hml, hown, hts⟩ (s_isSmall l D cB cI cZ E H_6.size (sb_b (tt (X + L)))) ⟨va_cnB 1 hts (uI (uc10 _ (List.mem_of_getElem? (i := 16) rfl))) rfl rfl rfl (pN_RX5_37 hE) (hts (.initialized RX8) (uc1 _ (List.mem_of_getElem? (i := 2) rfl))) (by decide +kernel) ⟨Nat.le_of_ble_eq_true rfl, Nat.le_of_ble_eq_true rfl⟩, (hts (.static yX8_isSmall) (uc10 _ (List.mem_of_getElem? (i := 15) rfl))), trivial⟩ (pSE hE hS hFc hK hPc hDc) rfl rfl hl.1 rfl (lv_room (Nat.le_of_ble_eq_true rfl)) dX5_lettersFrom_21 ⟨Nat.le_of_ble_eq_true rfl, Nat.le_of_ble_eq_true rfl⟩) hS (fun q _ h => hFc q h) hFc (fun r_8 u t H_9 L_10 ht hvm hw hB hz1 hk1 hS => ?_)
        obtain ⟨hP1, -, hD1⟩ := hB
        rw [ht] at hP1
        obtain ⟨hP, hD⟩ := va_join (wr := [(h0, .inr (5, [.ref a, .int (nI k)])), (a, .inl (cB, n, .inl f))]) (w1 := []) hP hD [] [0, 1] rfl rfl (by decide) (by decide) hk1 hFc hP1 hD1
        have hP : va_P D vwCl [(h0, .inr (5, [.ref a, .int (nI k)])), (a, .inl (cB, n, .inl f))] H_9 := hP.sub [0, 1] rfl
        have hD : va_D A [(h0, .inr (5, [.ref a, .int (nI k)])), (a, .inl (cB, n, .inl f))] := hD.sub [0, 1] (by decide) rfl
        try dsimp only at hw
        rcases hw with ⟨rfl, h_11⟩ | ⟨rfl, h_12, h_13⟩
        · have hns := qb_sm0 (hT (X + L) hlt).2 h_11
          refine lv_if_ne (tgt := 38) hx hb dX5_lettersFrom_24 (by decide) (fun c_14 => ?_) (fun c_14 => ?_)
          · exact False.elim (by revert c_14; decide)
          · refine lv_iload hx hb dX5_lettersFrom_27 (lv_at hl 0 rfl) ?_
            have hPc := hP.sub (ws' := []) [] rfl
            have hDc := hD.sub (ws' := []) [] (by decide) rfl
            have hFc := va_free (wc := []) hD hS hA [] rfl
            refine va_calli (va_runSN (As := [.int (sb_b (tt (X + L)))]) (rest := []) ⟨hx, hb, hml, hown, hts⟩ (s_isCapital l D cB cI cZ E H_9.size (sb_b (tt (X + L)))) ⟨va_cnB 1 hts (uI (uc10 _ (List.mem_of_getElem? (i := 18) rfl))) rfl rfl rfl (pN_RX5_41 hE) (hts (.initialized RX8) (uc1 _ (List.mem_of_getElem? (i := 2) rfl))) (by decide +kernel) ⟨Nat.le_of_ble_eq_true rfl, Nat.le_of_ble_eq_true rfl⟩, (hts (.static yX8_isCapital) (uc10 _ (List.mem_of_getElem? (i := 17) rfl))), trivial⟩ (pSE hE hS hFc hK hPc hDc) rfl rfl hl.1 rfl (lv_room (Nat.le_of_ble_eq_true rfl)) dX5_lettersFrom_29 ⟨Nat.le_of_ble_eq_true rfl, Nat.le_of_ble_eq_true rfl⟩) hS (fun q _ h => hFc q h) hFc (fun r_15 u t H_16 L_17 ht hvm hw hB hz1 hk1 hS => ?_)
            obtain ⟨hP1, -, hD1⟩ := hB
            rw [ht] at hP1
            obtain ⟨hP, hD⟩ := va_join (wr := [(h0, .inr (5, [.ref a, .int (nI k)])), (a, .inl (cB, n, .inl f))]) (w1 := []) hP hD [] [0, 1] rfl rfl (by decide) (by decide) hk1 hFc hP1 hD1
            have hP : va_P D vwCl [(h0, .inr (5, [.ref a, .int (nI k)])), (a, .inl (cB, n, .inl f))] H_16 := hP.sub [0, 1] rfl
            have hD : va_D A [(h0, .inr (5, [.ref a, .int (nI k)])), (a, .inl (cB, n, .inl f))] := hD.sub [0, 1] (by decide) rfl
            try dsimp only at hw
            rcases hw with ⟨rfl, h_18⟩ | ⟨rfl, h_19, h_20⟩
            · have hnc := qb_cap0 (hT (X + L) hlt).2 h_18
              refine lv_if_ne (tgt := 38) hx hb dX5_lettersFrom_32 (by decide) (fun c_21 => ?_) (fun c_21 => ?_)
              · exact False.elim (by revert c_21; decide)
              · refine lv_goto (tgt := 47) hx hb dX5_lettersFrom_35 (by decide) ?_
                refine lv_iload_n hx hb dX5_lettersFrom_47 rfl (lv_at hl 3 rfl) ?_
                have hP9 := hP.sub (ws' := [(h0, .inr (5, [.ref a, .int (nI k)])), (a, .inl (cB, n, .inl f))]) [0, 1] rfl
                have hD9 := hD.sub (ws' := [(h0, .inr (5, [.ref a, .int (nI k)])), (a, .inl (cB, n, .inl f))]) [0, 1] (by decide) rfl
                rw [← hQ]
                exact W.iret (v := nI L) hx hb hr (fun t ht hW => ⟨⟨nI L, L, rfl, ⟨rfl, ⟨hL, hs, by first | exact Or.inl (by omega) | exact Or.inr (fun q => q.elim hns hnc)⟩⟩, ⟨by rw [ht]; exact hP9, va_K.moved hW.alike hK, hD9⟩⟩, hS.F ht⟩) hS.2.2 dX5_lettersFrom_48
            · have hcp := qb_cap1 (hT (X + L) hlt).2 h_19 h_20
              refine lv_if_ne (tgt := 38) hx hb dX5_lettersFrom_32 (by decide) (fun c_22 => ?_) (fun c_22 => ?_)
              · refine lv_iinc (v := nI (L + 1)) (lv' := [(2, .int (nI (L + 1))), (4, .int (sb_b (tt (X + L)))), (0, .ref h0), (1, .int (nI X)), (3, .int (nI (X + L)))]) hx hb dX5_lettersFrom_38 hl (k := 3) rfl (nI_add L 1) (by decide) rfl (fun ls hl => ?_)
                refine lv_iinc (v := nI (X + L + 1)) (lv' := [(3, .int (nI (X + L + 1))), (2, .int (nI (L + 1))), (4, .int (sb_b (tt (X + L)))), (0, .ref h0), (1, .int (nI X))]) hx hb dX5_lettersFrom_41 hl (k := 4) rfl (nI_add (X + L) 1) (by decide) rfl (fun ls hl => ?_)
                refine lv_goto (tgt := 4) hx hb dX5_lettersFrom_44 (by decide) ?_
                exact ih_2 (L + 1) (by first | assumption | exact Or.inl rfl | exact Or.inr rfl | omega) (qStep hs (by first | exact Or.inl hsm | exact Or.inr hcp)) (by omega) H_16 _ ls (hP.sub (ws' := [(h0, .inr (5, [.ref a, .int (nI k)])), (a, .inl (cB, n, .inl f))]) [0, 1] rfl) (hD.sub (ws' := [(h0, .inr (5, [.ref a, .int (nI k)])), (a, .inl (cB, n, .inl f))]) [0, 1] (by decide) rfl) hS (lv_sub hl [3, 4, 1, 0] rfl)
              · exact False.elim (by revert c_22; decide)
        · have hsm := qb_sm1 (hT (X + L) hlt).2 h_12 h_13
          refine lv_if_ne (tgt := 38) hx hb dX5_lettersFrom_24 (by decide) (fun c_23 => ?_) (fun c_23 => ?_)
          · refine lv_iinc (v := nI (L + 1)) (lv' := [(2, .int (nI (L + 1))), (4, .int (sb_b (tt (X + L)))), (0, .ref h0), (1, .int (nI X)), (3, .int (nI (X + L)))]) hx hb dX5_lettersFrom_38 hl (k := 3) rfl (nI_add L 1) (by decide) rfl (fun ls hl => ?_)
            refine lv_iinc (v := nI (X + L + 1)) (lv' := [(3, .int (nI (X + L + 1))), (2, .int (nI (L + 1))), (4, .int (sb_b (tt (X + L)))), (0, .ref h0), (1, .int (nI X))]) hx hb dX5_lettersFrom_41 hl (k := 4) rfl (nI_add (X + L) 1) (by decide) rfl (fun ls hl => ?_)
            refine lv_goto (tgt := 4) hx hb dX5_lettersFrom_44 (by decide) ?_
            exact ih_2 (L + 1) (by first | assumption | exact Or.inl rfl | exact Or.inr rfl | omega) (qStep hs (by first | exact Or.inl hsm | exact Or.inr hcp)) (by omega) H_9 _ ls (hP.sub (ws' := [(h0, .inr (5, [.ref a, .int (nI k)])), (a, .inl (cB, n, .inl f))]) [0, 1] rfl) (hD.sub (ws' := [(h0, .inr (5, [.ref a, .int (nI k)])), (a, .inl (cB, n, .inl f))]) [0, 1] (by decide) rfl) hS (lv_sub hl [3, 4, 1, 0] rfl)
          · exact False.elim (by revert c_23; decide)
  exact loop_1 _ 0 (by first | assumption | exact Or.inl rfl | exact Or.inr rfl | omega) (qNil) (Nat.lt_succ_self _) s.heap _ ls (hP.sub (ws' := [(h0, .inr (5, [.ref a, .int (nI k)])), (a, .inl (cB, n, .inl f))]) [0, 1] rfl) (hD.sub (ws' := [(h0, .inr (5, [.ref a, .int (nI k)])), (a, .inl (cB, n, .inl f))]) [0, 1] (by decide) rfl) hS (lv_sub hl [2, 3, 1, 0] rfl)
set_option maxHeartbeats 4000000 in
set_option maxRecDepth 100000 in
theorem f_X5_addAll0 (l : Launch) (D : va_G) (cB cI cZ : ClassId) (E : pEt) (sz : Nat) (h0 : Nat) (h1 : Nat) (a : Nat) (n : Nat) (f : Nat → Int32) (a1 : Nat) (k1 : Nat) (n1 : Nat) (f1 : Nat → Int32) (tg : Nat → Nat) (hkn : k1 ≤ n) (hn : n ≤ 600) (hk1 : k1 ≤ n1) (hn1 : n1 ≤ 600) (hT1 : qT k1 f1 tg) : Met l yX5_addAll (.code yX5_addAll cX5_addAll 3 none :: wsL_law) ({ frames := 2, cells := 0, slots := 0, locals := 43 } : Room) (va_Pc [.ref h0, .ref h1] (pInE E D (pT cB cI cZ) sz [(h0, .inr (5, [.ref a, .int 0])), (a, .inl (cB, n, .inl f)), (h1, .inr (5, [.ref a1, .int (nI k1)])), (a1, .inl (cB, n1, .inl f1))])) (va_Qv (fun (u : Nat × (Nat → Int32)) => (k1 = u.1) ∧ (qT k1 u.2 tg)) (fun (u : Nat × (Nat → Int32)) (t : State) => pAt D (pT cB cI cZ) (va_A [(h0, .inr (5, [.ref a, .int 0])), (a, .inl (cB, n, .inl f)), (h1, .inr (5, [.ref a1, .int (nI k1)])), (a1, .inl (cB, n1, .inl f1))] sz) [(h0, .inr (5, [.ref a, .int (nI u.1)])), (a, .inl (cB, n, .inl u.2)), (h1, .inr (5, [.ref a1, .int (nI k1)])), (a1, .inl (cB, n1, .inl f1))] t) (va_A [(h0, .inr (5, [.ref a, .int 0])), (a, .inl (cB, n, .inl f)), (h1, .inr (5, [.ref a1, .int (nI k1)])), (a1, .inl (cB, n1, .inl f1))] sz)) 0 0 (va_A [(h0, .inr (5, [.ref a, .int 0])), (a, .inl (cB, n, .inl f)), (h1, .inr (5, [.ref a1, .int (nI k1)])), (a1, .inl (cB, n1, .inl f1))] sz) := by
  refine Met.ofW (cc := cX5_addAll) (maxL := 3) (ret := none) (by decide) rfl ?_
  intro p e s m args below meth cd s₁ B hml hv
  obtain ⟨rfl, hsz, hP, hK, hD0, hE⟩ := hv
  have hx := B.exec
  have hb := B.bytes
  have hr := B.returns
  have hts0 := atoms_spec (ws := .code yX5_addAll cX5_addAll 3 none :: wsL_law) B.pre
  have hts := fun (w : Cond) (h : w ∈ wsL_law) => hts0 w (List.mem_cons_of_mem _ h)
  have hown : s.vm.findClass RX5 = some m.cls := findClass_of_methodNamed B.named
  have hlocks := B.notSynchronized
  have hinX5 := inlX5
  subst hsz
  have hD := hD0.self (sz := s.heap.size)
  generalize hAe : va_A [(h0, .inr (5, [.ref a, .int 0])), (a, .inl (cB, n, .inl f)), (h1, .inr (5, [.ref a1, .int (nI k1)])), (a1, .inl (cB, n1, .inl f1))] s.heap.size = A at hD hE ⊢
  have hA : ∀ q : Nat, s.heap.size ≤ q → A q := fun q h => by rw [← hAe]; exact Or.inr h
  have hS : va_S A s.heap s.heap [] := va_S.rf
  have hP : va_P D vwCl [(h0, .inr (5, [.ref a, .int 0])), (a, .inl (cB, n, .inl f)), (h1, .inr (5, [.ref a1, .int (nI k1)])), (a1, .inl (cB, n1, .inl f1))] s.heap := hP
  have hl := lv_entry ([.ref h0, .ref h1]) (n := 3) (Nat.le_of_ble_eq_true rfl)
  rw [lg_entry_eq]
  generalize (lg_sl ([.ref h0, .ref h1]) ++ List.replicate (3 - (lg_sl ([.ref h0, .ref h1])).length) Slot.unset).toArray = ls at hl ⊢
  have hl : lv_has ls 3 [(0, .ref h0), (1, .ref h1)] := hl
  generalize hQ : MQ below _ _ _ _ _ _ = Q
  refine lv_iconst (v := 0) hx hb dX5_addAll_0 (by decide) ?_
  refine lv_istore_n (lv' := [(2, .int 0), (0, .ref h0), (1, .ref h1)]) hx hb dX5_addAll_1 rfl hl (by decide) rfl (fun ls hl => ?_)
  have loop_1 : ∀ (nn_3 : Nat) (i : Nat) (g : Nat → Int32), (i ≤ k1) → (∀ j, j < i → g j = sb_b (tg j)) → (k1 - i < nn_3) → ∀ (H : Heap) (locs : List Loc) (ls : Array Slot), va_P D vwCl [(h0, .inr (5, [.ref a, .int (nI i)])), (a, .inl (cB, n, .inl g)), (h1, .inr (5, [.ref a1, .int (nI k1)])), (a1, .inl (cB, n1, .inl f1))] H → va_D A [(h0, .inr (5, [.ref a, .int (nI i)])), (a, .inl (cB, n, .inl g)), (h1, .inr (5, [.ref a1, .int (nI k1)])), (a1, .inl (cB, n1, .inl f1))] → va_S A s.heap H locs → lv_has ls 3 [(0, .ref h0), (1, .ref h1), (2, .int (nI i))] → W p l e ({ frames := 2, cells := 0, slots := 0, locals := 43 } : Room) s m ([.ref h0, .ref h1] : List Value).toArray below meth cd H locs 0 0 Q (F0 m 2 ls []) := by
    intro nn_3
    induction nn_3 with
    | zero => intros; exact absurd ‹_ < 0› (Nat.not_lt_zero _)
    | succ nn_3 ih_2 =>
      intro i g hi hg2 hmu H locs ls hP hD hS hl
      refine lv_iload_n hx hb dX5_addAll_2 rfl (lv_at hl 2 rfl) ?_
      refine lv_aload_n hx hb dX5_addAll_3 rfl (lv_at hl 1 rfl) ?_
      refine va_get (D := D) (ci := 5) (v := .int (nI k1)) (C := RX5) (T := TX5) (N := 2) hx hb hts hinX5 hown hK hP 2 rfl rfl 1 (by decide) (hts (.fieldLink RX5 21 "TaleReader$Text" "size" "I") (uc3 _ (List.mem_of_getElem? (i := 6) rfl))) (fun _ h9 => h9) rfl dX5_addAll_4 ?_
      refine lv_icmp_ge (tgt := 25) hx hb dX5_addAll_7 (by decide) (fun c_4 => ?_) (fun c_4 => ?_)
      · have hge := (nI_leI (by omega) (by omega)).mp c_4
        have hik1 : k1 = i := by omega
        have hP9 := hP.sub (ws' := [(h0, .inr (5, [.ref a, .int (nI i)])), (a, .inl (cB, n, .inl g)), (h1, .inr (5, [.ref a1, .int (nI k1)])), (a1, .inl (cB, n1, .inl f1))]) [0, 1, 2, 3] rfl
        have hD9 := hD.sub (ws' := [(h0, .inr (5, [.ref a, .int (nI i)])), (a, .inl (cB, n, .inl g)), (h1, .inr (5, [.ref a1, .int (nI k1)])), (a1, .inl (cB, n1, .inl f1))]) [0, 1, 2, 3] (by decide) rfl
        rw [← hQ]
        exact W.vret hx hb hr (fun t ht hW => ⟨⟨(i, g), rfl, ⟨hik1, fun j hj => ⟨hg2 j (by omega), (hT1 j hj).2⟩⟩, ⟨by rw [ht]; exact hP9, va_K.moved hW.alike hK, hD9⟩⟩, hS.F ht⟩) hS.2.2 dX5_addAll_25
      · have hik : i < k1 := Nat.lt_of_not_le (fun q => c_4 (nI_le q (by omega)))
        refine lv_aload_n hx hb dX5_addAll_10 rfl (lv_at hl 0 rfl) ?_
        refine lv_aload_n hx hb dX5_addAll_11 rfl (lv_at hl 1 rfl) ?_
        refine lv_iload_n hx hb dX5_addAll_12 rfl (lv_at hl 2 rfl) ?_
        have hPc := hP.sub (ws' := [(h1, .inr (5, [.ref a1, .int (nI k1)])), (a1, .inl (cB, n1, .inl f1))]) [2, 3] rfl
        have hDc := hD.sub (ws' := [(h1, .inr (5, [.ref a1, .int (nI k1)])), (a1, .inl (cB, n1, .inl f1))]) [2, 3] (by decide) rfl
        have hFc := va_free (wc := [(h1, .inr (5, [.ref a1, .int (nI k1)])), (a1, .inl (cB, n1, .inl f1))]) hD hS hA [2, 3] rfl
        refine va_calli (va_runV (As := [.int (nI i)]) (rest := [.ref h0]) ⟨hx, hb, hml, hown, hts⟩ (f_X5_signAt l D cB cI cZ E H.size h1 i a1 k1 n1 f1 (by first | assumption | omega) (by first | assumption | omega) (by first | assumption | omega)) (cwV 1 hts (uV (uc9 _ (List.mem_of_getElem? (i := 21) rfl)) (uc9 _ (List.mem_of_getElem? (i := 22) rfl)) (uc9 _ (List.mem_of_getElem? (i := 23) rfl)) (uc1 _ (List.mem_of_getElem? (i := 14) rfl)) (uc10 _ (List.mem_of_getElem? (i := 0) rfl))) rfl rfl rfl (by decide +kernel) ⟨Nat.le_of_ble_eq_true rfl, Nat.le_of_ble_eq_true rfl⟩) (pVE hE hS hFc hK hPc hDc 0 rfl rfl) rfl rfl hl.1 rfl (lv_room (Nat.le_of_ble_eq_true rfl)) dX5_addAll_13 ⟨Nat.le_of_ble_eq_true rfl, Nat.le_of_ble_eq_true rfl⟩) hS (fun q _ h => hFc q h) hFc (fun r_5 u t H_6 L_7 ht hvm hw hB hz1 hk1 hS => ?_)
        obtain ⟨hP1, -, hD1⟩ := hB
        rw [ht] at hP1
        obtain ⟨hP, hD⟩ := va_join (wr := [(h0, .inr (5, [.ref a, .int (nI i)])), (a, .inl (cB, n, .inl g))]) (w1 := [(h1, .inr (5, [.ref a1, .int (nI k1)])), (a1, .inl (cB, n1, .inl f1))]) hP hD [2, 3] [0, 1] rfl rfl (by decide) (by decide) hk1 hFc hP1 hD1
        have hP : va_P D vwCl [(h0, .inr (5, [.ref a, .int (nI i)])), (a, .inl (cB, n, .inl g)), (h1, .inr (5, [.ref a1, .int (nI k1)])), (a1, .inl (cB, n1, .inl f1))] H_6 := hP.sub [0, 1, 2, 3] rfl
        have hD : va_D A [(h0, .inr (5, [.ref a, .int (nI i)])), (a, .inl (cB, n, .inl g)), (h1, .inr (5, [.ref a1, .int (nI k1)])), (a1, .inl (cB, n1, .inl f1))] := hD.sub [0, 1, 2, 3] (by decide) rfl
        try dsimp only at hw
        subst hw
        have hPc := hP.sub (ws' := [(h0, .inr (5, [.ref a, .int (nI i)])), (a, .inl (cB, n, .inl g))]) [0, 1] rfl
        have hDc := hD.sub (ws' := [(h0, .inr (5, [.ref a, .int (nI i)])), (a, .inl (cB, n, .inl g))]) [0, 1] (by decide) rfl
        have hFc := va_free (wc := [(h0, .inr (5, [.ref a, .int (nI i)])), (a, .inl (cB, n, .inl g))]) hD hS hA [0, 1] rfl
        refine va_callv (va_runV (As := [.int (f1 i)]) (rest := []) ⟨hx, hb, hml, hown, hts⟩ (s_X5_addSign l D cB cI cZ E H_6.size h0 a n i g (f1 i) (by first | assumption | omega) (by first | assumption | omega)) (cwV 1 hts (uV (uc8 _ (List.mem_of_getElem? (i := 5) rfl)) (uc8 _ (List.mem_of_getElem? (i := 6) rfl)) (uc8 _ (List.mem_of_getElem? (i := 7) rfl)) (uc1 _ (List.mem_of_getElem? (i := 14) rfl)) (uc8 _ (List.mem_of_getElem? (i := 8) rfl))) rfl rfl rfl (by decide +kernel) ⟨Nat.le_of_ble_eq_true rfl, Nat.le_of_ble_eq_true rfl⟩) (pVE hE hS hFc hK hPc hDc 0 rfl rfl) rfl rfl hl.1 rfl (lv_room (Nat.le_of_ble_eq_true rfl)) dX5_addAll_16 ⟨Nat.le_of_ble_eq_true rfl, Nat.le_of_ble_eq_true rfl⟩) hS (fun q _ h => hFc q h) hFc (fun u t H_9 L_10 ht hvm hw hB hz1 hk1 hS => ?_)
        obtain ⟨k_11, f_12⟩ := u
        obtain ⟨hP1, -, hD1⟩ := hB
        rw [ht] at hP1
        obtain ⟨hP, hD⟩ := va_join (wr := [(h1, .inr (5, [.ref a1, .int (nI k1)])), (a1, .inl (cB, n1, .inl f1))]) (w1 := [(h0, .inr (5, [.ref a, .int (nI k_11)])), (a, .inl (cB, n, .inl f_12))]) hP hD [0, 1] [2, 3] rfl rfl (by decide) (by decide) hk1 hFc hP1 hD1
        have hP : va_P D vwCl [(h0, .inr (5, [.ref a, .int (nI k_11)])), (a, .inl (cB, n, .inl f_12)), (h1, .inr (5, [.ref a1, .int (nI k1)])), (a1, .inl (cB, n1, .inl f1))] H_9 := hP.sub [2, 3, 0, 1] rfl
        have hD : va_D A [(h0, .inr (5, [.ref a, .int (nI k_11)])), (a, .inl (cB, n, .inl f_12)), (h1, .inr (5, [.ref a1, .int (nI k1)])), (a1, .inl (cB, n1, .inl f1))] := hD.sub [2, 3, 0, 1] (by decide) rfl
        try dsimp only at hw
        rcases hw with ⟨h_13, rfl, rfl⟩ | ⟨h_14, rfl, rfl⟩
        · refine lv_iinc (v := nI (i + 1)) (lv' := [(2, .int (nI (i + 1))), (0, .ref h0), (1, .ref h1)]) hx hb dX5_addAll_19 hl (k := 2) rfl (nI_add i 1) (by decide) rfl (fun ls hl => ?_)
          refine lv_goto (tgt := 2) hx hb dX5_addAll_22 (by decide) ?_
          exact ih_2 (i + 1) (upd g i (f1 i).toInt8.toInt32) (by first | assumption | exact Or.inl rfl | exact Or.inr rfl | omega) (qAllS0 hg2 (hT1 i hik)) (by omega) H_9 _ ls (hP.sub (ws' := [(h0, .inr (5, [.ref a, .int (nI (i + 1))])), (a, .inl (cB, n, .inl (upd g i (f1 i).toInt8.toInt32))), (h1, .inr (5, [.ref a1, .int (nI k1)])), (a1, .inl (cB, n1, .inl f1))]) [0, 1, 2, 3] rfl) (hD.sub (ws' := [(h0, .inr (5, [.ref a, .int (nI (i + 1))])), (a, .inl (cB, n, .inl (upd g i (f1 i).toInt8.toInt32))), (h1, .inr (5, [.ref a1, .int (nI k1)])), (a1, .inl (cB, n1, .inl f1))]) [0, 1, 2, 3] (by decide) rfl) hS (lv_sub hl [1, 2, 0] rfl)
        · exact False.elim (by exact h_14 (by omega))
  exact loop_1 _ 0 f (by first | assumption | exact Or.inl rfl | exact Or.inr rfl | omega) (qNil) (Nat.lt_succ_self _) s.heap _ ls (hP.sub (ws' := [(h0, .inr (5, [.ref a, .int (nI 0)])), (a, .inl (cB, n, .inl f)), (h1, .inr (5, [.ref a1, .int (nI k1)])), (a1, .inl (cB, n1, .inl f1))]) [0, 1, 2, 3] rfl) (hD.sub (ws' := [(h0, .inr (5, [.ref a, .int (nI 0)])), (a, .inl (cB, n, .inl f)), (h1, .inr (5, [.ref a1, .int (nI k1)])), (a1, .inl (cB, n1, .inl f1))]) [0, 1, 2, 3] (by decide) rfl) hS (lv_sub hl [1, 2, 0] rfl)
set_option maxHeartbeats 4000000 in
set_option maxRecDepth 100000 in
theorem f_X7_add (l : Launch) (D : va_G) (cB cI cZ : ClassId) (E : pEt) (sz : Nat) (h0 : Nat) (x : Int32) (y : Int32) (z : Int32) (tl : Nat) (wa1 : Nat) (wa2 : Nat) (wa3 : Nat) (wa4 : Nat) (c : Nat) (sc : Int32) (fw1 : Nat → Int32) (fw2 : Nat → Int32) (fw3 : Nat → Int32) (hc : c < 300) : Met l yX7_add (.code yX7_add cX7_add 4 none :: wsL_law) ({ frames := 0, cells := 0, slots := 0, locals := 0 } : Room) (va_Pc [.ref h0, .int x, .int y, .int z] (pInE E D (pT cB cI cZ) sz [(h0, .inr (7, [.ref tl, .ref wa1, .ref wa2, .ref wa3, .ref wa4, .int (nI c), .int sc])), (wa1, .inl (cI, 300, .inl fw1)), (wa2, .inl (cI, 300, .inl fw2)), (wa3, .inl (cI, 300, .inl fw3))])) (va_Qv (fun (u : Nat × (Nat → Int32) × (Nat → Int32) × (Nat → Int32)) => (c + 1 = u.1) ∧ (upd fw1 c x = u.2.1) ∧ (upd fw2 c y = u.2.2.1) ∧ (upd fw3 c z = u.2.2.2)) (fun (u : Nat × (Nat → Int32) × (Nat → Int32) × (Nat → Int32)) (t : State) => pAt D (pT cB cI cZ) (va_A [(h0, .inr (7, [.ref tl, .ref wa1, .ref wa2, .ref wa3, .ref wa4, .int (nI c), .int sc])), (wa1, .inl (cI, 300, .inl fw1)), (wa2, .inl (cI, 300, .inl fw2)), (wa3, .inl (cI, 300, .inl fw3))] sz) [(h0, .inr (7, [.ref tl, .ref wa1, .ref wa2, .ref wa3, .ref wa4, .int (nI u.1), .int sc])), (wa1, .inl (cI, 300, .inl u.2.1)), (wa2, .inl (cI, 300, .inl u.2.2.1)), (wa3, .inl (cI, 300, .inl u.2.2.2))] t) (va_A [(h0, .inr (7, [.ref tl, .ref wa1, .ref wa2, .ref wa3, .ref wa4, .int (nI c), .int sc])), (wa1, .inl (cI, 300, .inl fw1)), (wa2, .inl (cI, 300, .inl fw2)), (wa3, .inl (cI, 300, .inl fw3))] sz)) 0 0 (va_A [(h0, .inr (7, [.ref tl, .ref wa1, .ref wa2, .ref wa3, .ref wa4, .int (nI c), .int sc])), (wa1, .inl (cI, 300, .inl fw1)), (wa2, .inl (cI, 300, .inl fw2)), (wa3, .inl (cI, 300, .inl fw3))] sz) := by
  refine Met.ofW (cc := cX7_add) (maxL := 4) (ret := none) (by decide) rfl ?_
  intro p e s m args below meth cd s₁ B hml hv
  obtain ⟨rfl, hsz, hP, hK, hD0, hE⟩ := hv
  have hx := B.exec
  have hb := B.bytes
  have hr := B.returns
  have hts0 := atoms_spec (ws := .code yX7_add cX7_add 4 none :: wsL_law) B.pre
  have hts := fun (w : Cond) (h : w ∈ wsL_law) => hts0 w (List.mem_cons_of_mem _ h)
  have hown : s.vm.findClass RX7 = some m.cls := findClass_of_methodNamed B.named
  have hlocks := B.notSynchronized
  have hinX7 := inlX7
  subst hsz
  have hD := hD0.self (sz := s.heap.size)
  generalize hAe : va_A [(h0, .inr (7, [.ref tl, .ref wa1, .ref wa2, .ref wa3, .ref wa4, .int (nI c), .int sc])), (wa1, .inl (cI, 300, .inl fw1)), (wa2, .inl (cI, 300, .inl fw2)), (wa3, .inl (cI, 300, .inl fw3))] s.heap.size = A at hD hE ⊢
  have hA : ∀ q : Nat, s.heap.size ≤ q → A q := fun q h => by rw [← hAe]; exact Or.inr h
  have hS : va_S A s.heap s.heap [] := va_S.rf
  have hP : va_P D vwCl [(h0, .inr (7, [.ref tl, .ref wa1, .ref wa2, .ref wa3, .ref wa4, .int (nI c), .int sc])), (wa1, .inl (cI, 300, .inl fw1)), (wa2, .inl (cI, 300, .inl fw2)), (wa3, .inl (cI, 300, .inl fw3))] s.heap := hP
  have hl := lv_entry ([.ref h0, .int x, .int y, .int z]) (n := 4) (Nat.le_of_ble_eq_true rfl)
  rw [lg_entry_eq]
  generalize (lg_sl ([.ref h0, .int x, .int y, .int z]) ++ List.replicate (4 - (lg_sl ([.ref h0, .int x, .int y, .int z])).length) Slot.unset).toArray = ls at hl ⊢
  have hl : lv_has ls 4 [(0, .ref h0), (1, .int x), (2, .int y), (3, .int z)] := hl
  refine lv_aload_n hx hb dX7_add_0 rfl (lv_at hl 0 rfl) ?_
  refine va_get (D := D) (ci := 7) (v := .int (nI c)) (C := RX7) (T := TX7) (N := 7) hx hb hts hinX7 hown hK hP 0 rfl rfl 5 (by decide) (hts (.fieldLink RX7 33 "TaleReader$Words" "count" "I") (uc3 _ (List.mem_of_getElem? (i := 18) rfl))) (fun _ h9 => h9) rfl dX7_add_1 ?_
  refine lv_sipush (v := 300) hx hb dX7_add_4 (by decide) ?_
  refine lv_icmp_ge (tgt := 50) hx hb dX7_add_7 (by decide) (fun c_1 => ?_) (fun c_1 => ?_)
  · exact False.elim (by exact absurd ((nI_leI (a := 300) (by decide) (by omega)).mp c_1) (by omega))
  · refine lv_aload_n hx hb dX7_add_10 rfl (lv_at hl 0 rfl) ?_
    refine va_get (D := D) (ci := 7) (v := .ref wa1) (C := RX7) (T := TX7) (N := 7) hx hb hts hinX7 hown hK hP 0 rfl rfl 1 (by decide) (hts (.fieldLink RX7 20 "TaleReader$Words" "places" "[I") (uc3 _ (List.mem_of_getElem? (i := 14) rfl))) (fun _ h9 => h9) rfl dX7_add_11 ?_
    refine lv_aload_n hx hb dX7_add_14 rfl (lv_at hl 0 rfl) ?_
    refine va_get (D := D) (ci := 7) (v := .int (nI c)) (C := RX7) (T := TX7) (N := 7) hx hb hts hinX7 hown hK hP 0 rfl rfl 5 (by decide) (hts (.fieldLink RX7 33 "TaleReader$Words" "count" "I") (uc3 _ (List.mem_of_getElem? (i := 18) rfl))) (fun _ h9 => h9) rfl dX7_add_15 ?_
    refine lv_iload_n hx hb dX7_add_18 rfl (lv_at hl 1 rfl) ?_
    refine va_iast (D := D) hx hb hK hP hD hS 1 1 rfl rfl (vp_in_nI (by omega) (by omega)) dX7_add_19 (fun H_2 L_3 hP hD hS => ?_)
    obtain ⟨g_4, eg_4⟩ : ∃ gg : Nat → Int32, gg = upd fw1 ((nI c)).toNatClampNeg x := ⟨_, rfl⟩
    have hP : va_P D vwCl [(h0, .inr (7, [.ref tl, .ref wa1, .ref wa2, .ref wa3, .ref wa4, .int (nI c), .int sc])), (wa1, .inl (cI, 300, .inl g_4)), (wa2, .inl (cI, 300, .inl fw2)), (wa3, .inl (cI, 300, .inl fw3))] H_2 := by rw [eg_4]; exact hP
    have hD : va_D A [(h0, .inr (7, [.ref tl, .ref wa1, .ref wa2, .ref wa3, .ref wa4, .int (nI c), .int sc])), (wa1, .inl (cI, 300, .inl g_4)), (wa2, .inl (cI, 300, .inl fw2)), (wa3, .inl (cI, 300, .inl fw3))] := by rw [eg_4]; exact hD
    obtain rfl : g_4 = upd fw1 c x := eg_4.trans (by rw [nI_clamp (by omega)])
    refine lv_aload_n hx hb dX7_add_20 rfl (lv_at hl 0 rfl) ?_
    refine va_get (D := D) (ci := 7) (v := .ref wa2) (C := RX7) (T := TX7) (N := 7) hx hb hts hinX7 hown hK hP 0 rfl rfl 2 (by decide) (hts (.fieldLink RX7 24 "TaleReader$Words" "lengths" "[I") (uc3 _ (List.mem_of_getElem? (i := 15) rfl))) (fun _ h9 => h9) rfl dX7_add_21 ?_
    refine lv_aload_n hx hb dX7_add_24 rfl (lv_at hl 0 rfl) ?_
    refine va_get (D := D) (ci := 7) (v := .int (nI c)) (C := RX7) (T := TX7) (N := 7) hx hb hts hinX7 hown hK hP 0 rfl rfl 5 (by decide) (hts (.fieldLink RX7 33 "TaleReader$Words" "count" "I") (uc3 _ (List.mem_of_getElem? (i := 18) rfl))) (fun _ h9 => h9) rfl dX7_add_25 ?_
    refine lv_iload_n hx hb dX7_add_28 rfl (lv_at hl 2 rfl) ?_
    refine va_iast (D := D) hx hb hK hP hD hS 2 1 rfl rfl (vp_in_nI (by omega) (by omega)) dX7_add_29 (fun H_5 L_6 hP hD hS => ?_)
    obtain ⟨g_7, eg_7⟩ : ∃ gg : Nat → Int32, gg = upd fw2 ((nI c)).toNatClampNeg y := ⟨_, rfl⟩
    have hP : va_P D vwCl [(h0, .inr (7, [.ref tl, .ref wa1, .ref wa2, .ref wa3, .ref wa4, .int (nI c), .int sc])), (wa1, .inl (cI, 300, .inl (upd fw1 c x))), (wa2, .inl (cI, 300, .inl g_7)), (wa3, .inl (cI, 300, .inl fw3))] H_5 := by rw [eg_7]; exact hP
    have hD : va_D A [(h0, .inr (7, [.ref tl, .ref wa1, .ref wa2, .ref wa3, .ref wa4, .int (nI c), .int sc])), (wa1, .inl (cI, 300, .inl (upd fw1 c x))), (wa2, .inl (cI, 300, .inl g_7)), (wa3, .inl (cI, 300, .inl fw3))] := by rw [eg_7]; exact hD
    obtain rfl : g_7 = upd fw2 c y := eg_7.trans (by rw [nI_clamp (by omega)])
    refine lv_aload_n hx hb dX7_add_30 rfl (lv_at hl 0 rfl) ?_
    refine va_get (D := D) (ci := 7) (v := .ref wa3) (C := RX7) (T := TX7) (N := 7) hx hb hts hinX7 hown hK hP 0 rfl rfl 3 (by decide) (hts (.fieldLink RX7 27 "TaleReader$Words" "sentences" "[I") (uc3 _ (List.mem_of_getElem? (i := 16) rfl))) (fun _ h9 => h9) rfl dX7_add_31 ?_
    refine lv_aload_n hx hb dX7_add_34 rfl (lv_at hl 0 rfl) ?_
    refine va_get (D := D) (ci := 7) (v := .int (nI c)) (C := RX7) (T := TX7) (N := 7) hx hb hts hinX7 hown hK hP 0 rfl rfl 5 (by decide) (hts (.fieldLink RX7 33 "TaleReader$Words" "count" "I") (uc3 _ (List.mem_of_getElem? (i := 18) rfl))) (fun _ h9 => h9) rfl dX7_add_35 ?_
    refine lv_iload_n hx hb dX7_add_38 rfl (lv_at hl 3 rfl) ?_
    refine va_iast (D := D) hx hb hK hP hD hS 3 1 rfl rfl (vp_in_nI (by omega) (by omega)) dX7_add_39 (fun H_8 L_9 hP hD hS => ?_)
    obtain ⟨g_10, eg_10⟩ : ∃ gg : Nat → Int32, gg = upd fw3 ((nI c)).toNatClampNeg z := ⟨_, rfl⟩
    have hP : va_P D vwCl [(h0, .inr (7, [.ref tl, .ref wa1, .ref wa2, .ref wa3, .ref wa4, .int (nI c), .int sc])), (wa1, .inl (cI, 300, .inl (upd fw1 c x))), (wa2, .inl (cI, 300, .inl (upd fw2 c y))), (wa3, .inl (cI, 300, .inl g_10))] H_8 := by rw [eg_10]; exact hP
    have hD : va_D A [(h0, .inr (7, [.ref tl, .ref wa1, .ref wa2, .ref wa3, .ref wa4, .int (nI c), .int sc])), (wa1, .inl (cI, 300, .inl (upd fw1 c x))), (wa2, .inl (cI, 300, .inl (upd fw2 c y))), (wa3, .inl (cI, 300, .inl g_10))] := by rw [eg_10]; exact hD
    obtain rfl : g_10 = upd fw3 c z := eg_10.trans (by rw [nI_clamp (by omega)])
    refine lv_aload_n hx hb dX7_add_40 rfl (lv_at hl 0 rfl) ?_
    refine lv_dup hx hb dX7_add_41 rfl ?_
    refine va_get (D := D) (ci := 7) (v := .int (nI c)) (C := RX7) (T := TX7) (N := 7) hx hb hts hinX7 hown hK hP 0 rfl rfl 5 (by decide) (hts (.fieldLink RX7 33 "TaleReader$Words" "count" "I") (uc3 _ (List.mem_of_getElem? (i := 18) rfl))) (fun _ h9 => h9) rfl dX7_add_42 ?_
    refine lv_iconst (v := 1) hx hb dX7_add_45 (by decide) ?_
    refine lv_iadd hx hb dX7_add_46 ?_
    refine lv_topi (fun z_11 ez_11 => ?_)
    obtain rfl : z_11 = nI (c + 1) := ez_11.trans (nI_add c 1)
    refine va_put (D := D) (ci := 7) (v := .int (nI (c + 1))) (ty := .int) (C := RX7) (T := TX7) (N := 7) hx hb hts hinX7 tyX7 tyX7_ok nmX7 hown hK hP hD hS 0 rfl rfl 5 (by decide) (hts (.fieldLink RX7 33 "TaleReader$Words" "count" "I") (uc3 _ (List.mem_of_getElem? (i := 18) rfl))) (fun _ h9 => h9) rfl (by decide +kernel) rfl rfl (Nat.le_of_ble_eq_true rfl) dX7_add_47 (fun H_12 L_13 hP hD hS => ?_)
    have hP : va_P D vwCl [(h0, .inr (7, [.ref tl, .ref wa1, .ref wa2, .ref wa3, .ref wa4, .int (nI (c + 1)), .int sc])), (wa1, .inl (cI, 300, .inl (upd fw1 c x))), (wa2, .inl (cI, 300, .inl (upd fw2 c y))), (wa3, .inl (cI, 300, .inl (upd fw3 c z)))] H_12 := hP
    have hD : va_D A [(h0, .inr (7, [.ref tl, .ref wa1, .ref wa2, .ref wa3, .ref wa4, .int (nI (c + 1)), .int sc])), (wa1, .inl (cI, 300, .inl (upd fw1 c x))), (wa2, .inl (cI, 300, .inl (upd fw2 c y))), (wa3, .inl (cI, 300, .inl (upd fw3 c z)))] := hD
    have hP9 := hP.sub (ws' := [(h0, .inr (7, [.ref tl, .ref wa1, .ref wa2, .ref wa3, .ref wa4, .int (nI (c + 1)), .int sc])), (wa1, .inl (cI, 300, .inl (upd fw1 c x))), (wa2, .inl (cI, 300, .inl (upd fw2 c y))), (wa3, .inl (cI, 300, .inl (upd fw3 c z)))]) [0, 1, 2, 3] rfl
    have hD9 := hD.sub (ws' := [(h0, .inr (7, [.ref tl, .ref wa1, .ref wa2, .ref wa3, .ref wa4, .int (nI (c + 1)), .int sc])), (wa1, .inl (cI, 300, .inl (upd fw1 c x))), (wa2, .inl (cI, 300, .inl (upd fw2 c y))), (wa3, .inl (cI, 300, .inl (upd fw3 c z)))]) [0, 1, 2, 3] (by decide) rfl
    exact W.vret hx hb hr (fun t ht hW => ⟨⟨(c + 1, upd fw1 c x, upd fw2 c y, upd fw3 c z), rfl, ⟨rfl, rfl, rfl, rfl⟩, ⟨by rw [ht]; exact hP9, va_K.moved hW.alike hK, hD9⟩⟩, hS.F ht⟩) hS.2.2 dX7_add_50
set_option maxHeartbeats 4000000 in
set_option maxRecDepth 100000 in
theorem f_X7_split (l : Launch) (D : va_G) (cB cI cZ : ClassId) (E : pEt) (sz : Nat) (h0 : Nat) (tl : Nat) (wa1 : Nat) (wa2 : Nat) (wa3 : Nat) (wa4 : Nat) (c : Nat) (sc : Int32) (fw1 : Nat → Int32) (fw2 : Nat → Int32) (fw3 : Nat → Int32) (ta : Nat) (kt : Nat) (ft : Nat → Int32) (tt : Nat → Nat) (hc : c ≤ 300) (hkt : kt ≤ 600) (hT : qT kt ft tt) : Met l yX7_split (.code yX7_split cX7_split 5 none :: wsL_law) ({ frames := 3, cells := 0, slots := 0, locals := 67 } : Room) (va_Pc [.ref h0] (pInE E D (pT cB cI cZ) sz [(h0, .inr (7, [.ref tl, .ref wa1, .ref wa2, .ref wa3, .ref wa4, .int (nI c), .int sc])), (wa1, .inl (cI, 300, .inl fw1)), (wa2, .inl (cI, 300, .inl fw2)), (wa3, .inl (cI, 300, .inl fw3)), (tl, .inr (5, [.ref ta, .int (nI kt)])), (ta, .inl (cB, 600, .inl ft))])) (va_Qv (fun (u : Nat × (Nat → Int32) × (Nat → Int32) × (Nat → Int32) × Int32) => (u.1 ≤ 300) ∧ (qN tt kt = u.1) ∧ (qWg tt kt u.1 u.2.1 u.2.2.1 u.2.2.2.1 (qA tt kt) (qLn tt kt) (qSn tt kt))) (fun (u : Nat × (Nat → Int32) × (Nat → Int32) × (Nat → Int32) × Int32) (t : State) => pAt D (pT cB cI cZ) (va_A [(h0, .inr (7, [.ref tl, .ref wa1, .ref wa2, .ref wa3, .ref wa4, .int (nI c), .int sc])), (wa1, .inl (cI, 300, .inl fw1)), (wa2, .inl (cI, 300, .inl fw2)), (wa3, .inl (cI, 300, .inl fw3)), (tl, .inr (5, [.ref ta, .int (nI kt)])), (ta, .inl (cB, 600, .inl ft))] sz) [(h0, .inr (7, [.ref tl, .ref wa1, .ref wa2, .ref wa3, .ref wa4, .int (nI u.1), .int u.2.2.2.2])), (wa1, .inl (cI, 300, .inl u.2.1)), (wa2, .inl (cI, 300, .inl u.2.2.1)), (wa3, .inl (cI, 300, .inl u.2.2.2.1)), (tl, .inr (5, [.ref ta, .int (nI kt)])), (ta, .inl (cB, 600, .inl ft))] t) (va_A [(h0, .inr (7, [.ref tl, .ref wa1, .ref wa2, .ref wa3, .ref wa4, .int (nI c), .int sc])), (wa1, .inl (cI, 300, .inl fw1)), (wa2, .inl (cI, 300, .inl fw2)), (wa3, .inl (cI, 300, .inl fw3)), (tl, .inr (5, [.ref ta, .int (nI kt)])), (ta, .inl (cB, 600, .inl ft))] sz)) 0 0 (va_A [(h0, .inr (7, [.ref tl, .ref wa1, .ref wa2, .ref wa3, .ref wa4, .int (nI c), .int sc])), (wa1, .inl (cI, 300, .inl fw1)), (wa2, .inl (cI, 300, .inl fw2)), (wa3, .inl (cI, 300, .inl fw3)), (tl, .inr (5, [.ref ta, .int (nI kt)])), (ta, .inl (cB, 600, .inl ft))] sz) := by
  refine Met.ofW (cc := cX7_split) (maxL := 5) (ret := none) (by decide) rfl ?_
  intro p e s m args below meth cd s₁ B hml hv
  obtain ⟨rfl, hsz, hP, hK, hD0, hE⟩ := hv
  have hx := B.exec
  have hb := B.bytes
  have hr := B.returns
  have hts0 := atoms_spec (ws := .code yX7_split cX7_split 5 none :: wsL_law) B.pre
  have hts := fun (w : Cond) (h : w ∈ wsL_law) => hts0 w (List.mem_cons_of_mem _ h)
  have hown : s.vm.findClass RX7 = some m.cls := findClass_of_methodNamed B.named
  have hlocks := B.notSynchronized
  have hinX7 := inlX7
  subst hsz
  have hD := hD0.self (sz := s.heap.size)
  generalize hAe : va_A [(h0, .inr (7, [.ref tl, .ref wa1, .ref wa2, .ref wa3, .ref wa4, .int (nI c), .int sc])), (wa1, .inl (cI, 300, .inl fw1)), (wa2, .inl (cI, 300, .inl fw2)), (wa3, .inl (cI, 300, .inl fw3)), (tl, .inr (5, [.ref ta, .int (nI kt)])), (ta, .inl (cB, 600, .inl ft))] s.heap.size = A at hD hE ⊢
  have hA : ∀ q : Nat, s.heap.size ≤ q → A q := fun q h => by rw [← hAe]; exact Or.inr h
  have hS : va_S A s.heap s.heap [] := va_S.rf
  have hP : va_P D vwCl [(h0, .inr (7, [.ref tl, .ref wa1, .ref wa2, .ref wa3, .ref wa4, .int (nI c), .int sc])), (wa1, .inl (cI, 300, .inl fw1)), (wa2, .inl (cI, 300, .inl fw2)), (wa3, .inl (cI, 300, .inl fw3)), (tl, .inr (5, [.ref ta, .int (nI kt)])), (ta, .inl (cB, 600, .inl ft))] s.heap := hP
  have hl := lv_entry ([.ref h0]) (n := 5) (Nat.le_of_ble_eq_true rfl)
  rw [lg_entry_eq]
  generalize (lg_sl ([.ref h0]) ++ List.replicate (5 - (lg_sl ([.ref h0])).length) Slot.unset).toArray = ls at hl ⊢
  have hl : lv_has ls 5 [(0, .ref h0)] := hl
  generalize hQ : MQ below _ _ _ _ _ _ = Q
  refine lv_aload_n hx hb dX7_split_0 rfl (lv_at hl 0 rfl) ?_
  refine lv_iconst (v := 0) hx hb dX7_split_1 (by decide) ?_
  refine va_put (D := D) (ci := 7) (v := .int 0) (ty := .int) (C := RX7) (T := TX7) (N := 7) hx hb hts hinX7 tyX7 tyX7_ok nmX7 hown hK hP hD hS 0 rfl rfl 5 (by decide) (hts (.fieldLink RX7 33 "TaleReader$Words" "count" "I") (uc3 _ (List.mem_of_getElem? (i := 18) rfl))) (fun _ h9 => h9) rfl (by decide +kernel) rfl rfl (Nat.le_of_ble_eq_true rfl) dX7_split_2 (fun H_1 L_2 hP hD hS => ?_)
  have hP : va_P D vwCl [(h0, .inr (7, [.ref tl, .ref wa1, .ref wa2, .ref wa3, .ref wa4, .int 0, .int sc])), (wa1, .inl (cI, 300, .inl fw1)), (wa2, .inl (cI, 300, .inl fw2)), (wa3, .inl (cI, 300, .inl fw3)), (tl, .inr (5, [.ref ta, .int (nI kt)])), (ta, .inl (cB, 600, .inl ft))] H_1 := hP
  have hD : va_D A [(h0, .inr (7, [.ref tl, .ref wa1, .ref wa2, .ref wa3, .ref wa4, .int 0, .int sc])), (wa1, .inl (cI, 300, .inl fw1)), (wa2, .inl (cI, 300, .inl fw2)), (wa3, .inl (cI, 300, .inl fw3)), (tl, .inr (5, [.ref ta, .int (nI kt)])), (ta, .inl (cB, 600, .inl ft))] := hD
  refine lv_iconst (v := 0) hx hb dX7_split_5 (by decide) ?_
  refine lv_istore_n (lv' := [(1, .int 0), (0, .ref h0)]) hx hb dX7_split_6 rfl hl (by decide) rfl (fun ls hl => ?_)
  refine lv_iconst (v := 0) hx hb dX7_split_7 (by decide) ?_
  refine lv_istore_n (lv' := [(2, .int 0), (1, .int 0), (0, .ref h0)]) hx hb dX7_split_8 rfl hl (by decide) rfl (fun ls hl => ?_)
  refine lv_iconst (v := 0) hx hb dX7_split_9 (by decide) ?_
  refine lv_istore (lv' := [(4, .int 0), (2, .int 0), (1, .int 0), (0, .ref h0)]) hx hb dX7_split_10 hl (by decide) rfl (fun ls hl => ?_)
  have loop_3 : ∀ (nn_5 : Nat) (X : Nat) (cq : Nat) (s0 : Nat) (nw : Nat) (g1 : Nat → Int32) (g2 : Nat → Int32) (g3 : Nat → Int32) (v2 : Int32) (wA : Nat → Nat) (wL : Nat → Nat) (wS : Nat → Nat), (X ≤ kt) → (cq ≤ 300) → (qWi tt kt nw = (X, cq, s0, wA, wL, wS)) → (qG3 cq g1 g2 g3 wA wL wS) → (kt - X < nn_5) → ∀ (H : Heap) (locs : List Loc) (ls : Array Slot), va_P D vwCl [(h0, .inr (7, [.ref tl, .ref wa1, .ref wa2, .ref wa3, .ref wa4, .int (nI cq), .int sc])), (wa1, .inl (cI, 300, .inl g1)), (wa2, .inl (cI, 300, .inl g2)), (wa3, .inl (cI, 300, .inl g3)), (tl, .inr (5, [.ref ta, .int (nI kt)])), (ta, .inl (cB, 600, .inl ft))] H → va_D A [(h0, .inr (7, [.ref tl, .ref wa1, .ref wa2, .ref wa3, .ref wa4, .int (nI cq), .int sc])), (wa1, .inl (cI, 300, .inl g1)), (wa2, .inl (cI, 300, .inl g2)), (wa3, .inl (cI, 300, .inl g3)), (tl, .inr (5, [.ref ta, .int (nI kt)])), (ta, .inl (cB, 600, .inl ft))] → va_S A s.heap H locs → lv_has ls 5 [(0, .ref h0), (1, .int (nI s0)), (2, .int v2), (4, .int (nI X))] → W p l e ({ frames := 3, cells := 0, slots := 0, locals := 67 } : Room) s m ([.ref h0] : List Value).toArray below meth cd H locs 0 0 Q (F0 m 12 ls []) := by
    intro nn_5
    induction nn_5 with
    | zero => intros; exact absurd ‹_ < 0› (Nat.not_lt_zero _)
    | succ nn_5 ih_4 =>
      intro X cq s0 nw g1 g2 g3 v2 wA wL wS hX hcc hw hg hmu H locs ls hP hD hS hl
      refine lv_iload hx hb dX7_split_12 (lv_at hl 3 rfl) ?_
      refine lv_aload_n hx hb dX7_split_14 rfl (lv_at hl 0 rfl) ?_
      refine va_get (D := D) (ci := 7) (v := .ref tl) (C := RX7) (T := TX7) (N := 7) hx hb hts hinX7 hown hK hP 0 rfl rfl 0 (by decide) (hts (.fieldLink RX7 14 "TaleReader$Words" "tale" "LTaleReader$Text;") (uc3 _ (List.mem_of_getElem? (i := 12) rfl))) (fun _ h9 => h9) rfl dX7_split_15 ?_
      have hPc := hP.sub (ws' := [(tl, .inr (5, [.ref ta, .int (nI kt)]))]) [4] rfl
      have hDc := hD.sub (ws' := [(tl, .inr (5, [.ref ta, .int (nI kt)]))]) [4] (by decide) rfl
      have hFc := va_free (wc := [(tl, .inr (5, [.ref ta, .int (nI kt)]))]) hD hS hA [4] rfl
      refine va_calli (va_runV (As := []) (rest := [.int (nI X)]) ⟨hx, hb, hml, hown, hts⟩ (s_X5_size l D cB cI cZ E H.size tl ta (nI kt)) (cwV 0 hts (uV (uc10 _ (List.mem_of_getElem? (i := 10) rfl)) (uc7 _ (List.mem_of_getElem? (i := 22) rfl)) (uc7 _ (List.mem_of_getElem? (i := 23) rfl)) (uc1 _ (List.mem_of_getElem? (i := 14) rfl)) (uc8 _ (List.mem_of_getElem? (i := 0) rfl))) rfl rfl rfl (by decide +kernel) ⟨Nat.le_of_ble_eq_true rfl, Nat.le_of_ble_eq_true rfl⟩) (pVE hE hS hFc hK hPc hDc 0 rfl rfl) rfl rfl hl.1 rfl (lv_room (Nat.le_of_ble_eq_true rfl)) dX7_split_18 ⟨Nat.le_of_ble_eq_true rfl, Nat.le_of_ble_eq_true rfl⟩) hS (fun q _ h => hFc q h) hFc (fun r_6 u t H_7 L_8 ht hvm hw hB hz1 hk1 hS => ?_)
      obtain ⟨hP1, -, hD1⟩ := hB
      rw [ht] at hP1
      obtain ⟨hP, hD⟩ := va_join (wr := [(h0, .inr (7, [.ref tl, .ref wa1, .ref wa2, .ref wa3, .ref wa4, .int (nI cq), .int sc])), (wa1, .inl (cI, 300, .inl g1)), (wa2, .inl (cI, 300, .inl g2)), (wa3, .inl (cI, 300, .inl g3)), (ta, .inl (cB, 600, .inl ft))]) (w1 := [(tl, .inr (5, [.ref ta, .int (nI kt)]))]) hP hD [4] [0, 1, 2, 3, 5] rfl rfl (by decide) (by decide) hk1 hFc hP1 hD1
      have hP : va_P D vwCl [(h0, .inr (7, [.ref tl, .ref wa1, .ref wa2, .ref wa3, .ref wa4, .int (nI cq), .int sc])), (wa1, .inl (cI, 300, .inl g1)), (wa2, .inl (cI, 300, .inl g2)), (wa3, .inl (cI, 300, .inl g3)), (tl, .inr (5, [.ref ta, .int (nI kt)])), (ta, .inl (cB, 600, .inl ft))] H_7 := hP.sub [0, 1, 2, 3, 5, 4] rfl
      have hD : va_D A [(h0, .inr (7, [.ref tl, .ref wa1, .ref wa2, .ref wa3, .ref wa4, .int (nI cq), .int sc])), (wa1, .inl (cI, 300, .inl g1)), (wa2, .inl (cI, 300, .inl g2)), (wa3, .inl (cI, 300, .inl g3)), (tl, .inr (5, [.ref ta, .int (nI kt)])), (ta, .inl (cB, 600, .inl ft))] := hD.sub [0, 1, 2, 3, 5, 4] (by decide) rfl
      try dsimp only at hw
      subst hw
      refine lv_icmp_ge (tgt := 83) hx hb dX7_split_21 (by decide) (fun c_9 => ?_) (fun c_9 => ?_)
      · have hge := (nI_leI (by omega) (by omega)).mp c_9
        have hXe : X = kt := by omega
        refine lv_aload_n hx hb dX7_split_83 rfl (lv_at hl 0 rfl) ?_
        refine lv_iload_n hx hb dX7_split_84 rfl (lv_at hl 2 rfl) ?_
        refine lv_if_eq (tgt := 94) hx hb dX7_split_85 (by decide) (fun c_10 => ?_) (fun c_10 => ?_)
        · refine lv_iload_n hx hb dX7_split_94 rfl (lv_at hl 1 rfl) ?_
          refine va_put (D := D) (ci := 7) (v := .int (nI s0)) (ty := .int) (C := RX7) (T := TX7) (N := 7) hx hb hts hinX7 tyX7 tyX7_ok nmX7 hown hK hP hD hS 0 rfl rfl 6 (by decide) (hts (.fieldLink RX7 37 "TaleReader$Words" "sentenceCount" "I") (uc3 _ (List.mem_of_getElem? (i := 19) rfl))) (fun _ h9 => h9) rfl (by decide +kernel) rfl rfl (Nat.le_of_ble_eq_true rfl) dX7_split_95 (fun H_11 L_12 hP hD hS => ?_)
          have hP : va_P D vwCl [(h0, .inr (7, [.ref tl, .ref wa1, .ref wa2, .ref wa3, .ref wa4, .int (nI cq), .int (nI s0)])), (wa1, .inl (cI, 300, .inl g1)), (wa2, .inl (cI, 300, .inl g2)), (wa3, .inl (cI, 300, .inl g3)), (tl, .inr (5, [.ref ta, .int (nI kt)])), (ta, .inl (cB, 600, .inl ft))] H_11 := hP
          have hD : va_D A [(h0, .inr (7, [.ref tl, .ref wa1, .ref wa2, .ref wa3, .ref wa4, .int (nI cq), .int (nI s0)])), (wa1, .inl (cI, 300, .inl g1)), (wa2, .inl (cI, 300, .inl g2)), (wa3, .inl (cI, 300, .inl g3)), (tl, .inr (5, [.ref ta, .int (nI kt)])), (ta, .inl (cB, 600, .inl ft))] := hD
          have hP9 := hP.sub (ws' := [(h0, .inr (7, [.ref tl, .ref wa1, .ref wa2, .ref wa3, .ref wa4, .int (nI cq), .int (nI s0)])), (wa1, .inl (cI, 300, .inl g1)), (wa2, .inl (cI, 300, .inl g2)), (wa3, .inl (cI, 300, .inl g3)), (tl, .inr (5, [.ref ta, .int (nI kt)])), (ta, .inl (cB, 600, .inl ft))]) [0, 1, 2, 3, 4, 5] rfl
          have hD9 := hD.sub (ws' := [(h0, .inr (7, [.ref tl, .ref wa1, .ref wa2, .ref wa3, .ref wa4, .int (nI cq), .int (nI s0)])), (wa1, .inl (cI, 300, .inl g1)), (wa2, .inl (cI, 300, .inl g2)), (wa3, .inl (cI, 300, .inl g3)), (tl, .inr (5, [.ref ta, .int (nI kt)])), (ta, .inl (cB, 600, .inl ft))]) [0, 1, 2, 3, 4, 5] (by decide) rfl
          rw [← hQ]
          exact W.vret hx hb hr (fun t ht hW => ⟨⟨(cq, g1, g2, g3, nI s0), rfl, ⟨hcc, (qWg_of hw hXe hkt hg).1, (qWg_of hw hXe hkt hg).2⟩, ⟨by rw [ht]; exact hP9, va_K.moved hW.alike hK, hD9⟩⟩, hS.F ht⟩) hS.2.2 dX7_split_98
        · refine lv_iload_n hx hb dX7_split_88 rfl (lv_at hl 1 rfl) ?_
          refine lv_iconst (v := 1) hx hb dX7_split_89 (by decide) ?_
          refine lv_iadd hx hb dX7_split_90 ?_
          refine lv_topi (fun z_13 ez_13 => ?_)
          obtain rfl : z_13 = nI (s0 + 1) := ez_13.trans (nI_add s0 1)
          refine lv_goto (tgt := 95) hx hb dX7_split_91 (by decide) ?_
          refine va_put (D := D) (ci := 7) (v := .int (nI (s0 + 1))) (ty := .int) (C := RX7) (T := TX7) (N := 7) hx hb hts hinX7 tyX7 tyX7_ok nmX7 hown hK hP hD hS 0 rfl rfl 6 (by decide) (hts (.fieldLink RX7 37 "TaleReader$Words" "sentenceCount" "I") (uc3 _ (List.mem_of_getElem? (i := 19) rfl))) (fun _ h9 => h9) rfl (by decide +kernel) rfl rfl (Nat.le_of_ble_eq_true rfl) dX7_split_95 (fun H_14 L_15 hP hD hS => ?_)
          have hP : va_P D vwCl [(h0, .inr (7, [.ref tl, .ref wa1, .ref wa2, .ref wa3, .ref wa4, .int (nI cq), .int (nI (s0 + 1))])), (wa1, .inl (cI, 300, .inl g1)), (wa2, .inl (cI, 300, .inl g2)), (wa3, .inl (cI, 300, .inl g3)), (tl, .inr (5, [.ref ta, .int (nI kt)])), (ta, .inl (cB, 600, .inl ft))] H_14 := hP
          have hD : va_D A [(h0, .inr (7, [.ref tl, .ref wa1, .ref wa2, .ref wa3, .ref wa4, .int (nI cq), .int (nI (s0 + 1))])), (wa1, .inl (cI, 300, .inl g1)), (wa2, .inl (cI, 300, .inl g2)), (wa3, .inl (cI, 300, .inl g3)), (tl, .inr (5, [.ref ta, .int (nI kt)])), (ta, .inl (cB, 600, .inl ft))] := hD
          have hP9 := hP.sub (ws' := [(h0, .inr (7, [.ref tl, .ref wa1, .ref wa2, .ref wa3, .ref wa4, .int (nI cq), .int (nI (s0 + 1))])), (wa1, .inl (cI, 300, .inl g1)), (wa2, .inl (cI, 300, .inl g2)), (wa3, .inl (cI, 300, .inl g3)), (tl, .inr (5, [.ref ta, .int (nI kt)])), (ta, .inl (cB, 600, .inl ft))]) [0, 1, 2, 3, 4, 5] rfl
          have hD9 := hD.sub (ws' := [(h0, .inr (7, [.ref tl, .ref wa1, .ref wa2, .ref wa3, .ref wa4, .int (nI cq), .int (nI (s0 + 1))])), (wa1, .inl (cI, 300, .inl g1)), (wa2, .inl (cI, 300, .inl g2)), (wa3, .inl (cI, 300, .inl g3)), (tl, .inr (5, [.ref ta, .int (nI kt)])), (ta, .inl (cB, 600, .inl ft))]) [0, 1, 2, 3, 4, 5] (by decide) rfl
          rw [← hQ]
          exact W.vret hx hb hr (fun t ht hW => ⟨⟨(cq, g1, g2, g3, nI (s0 + 1)), rfl, ⟨hcc, (qWg_of hw hXe hkt hg).1, (qWg_of hw hXe hkt hg).2⟩, ⟨by rw [ht]; exact hP9, va_K.moved hW.alike hK, hD9⟩⟩, hS.F ht⟩) hS.2.2 dX7_split_98
      · have hlt_X : X < kt := Nat.lt_of_not_le (fun q => c_9 (nI_le q (by omega)))
        refine lv_aload_n hx hb dX7_split_24 rfl (lv_at hl 0 rfl) ?_
        refine va_get (D := D) (ci := 7) (v := .ref tl) (C := RX7) (T := TX7) (N := 7) hx hb hts hinX7 hown hK hP 0 rfl rfl 0 (by decide) (hts (.fieldLink RX7 14 "TaleReader$Words" "tale" "LTaleReader$Text;") (uc3 _ (List.mem_of_getElem? (i := 12) rfl))) (fun _ h9 => h9) rfl dX7_split_25 ?_
        refine lv_iload hx hb dX7_split_28 (lv_at hl 3 rfl) ?_
        have hPc := hP.sub (ws' := [(tl, .inr (5, [.ref ta, .int (nI kt)])), (ta, .inl (cB, 600, .inl ft))]) [4, 5] rfl
        have hDc := hD.sub (ws' := [(tl, .inr (5, [.ref ta, .int (nI kt)])), (ta, .inl (cB, 600, .inl ft))]) [4, 5] (by decide) rfl
        have hFc := va_free (wc := [(tl, .inr (5, [.ref ta, .int (nI kt)])), (ta, .inl (cB, 600, .inl ft))]) hD hS hA [4, 5] rfl
        refine va_calli (va_runV (As := [.int (nI X)]) (rest := []) ⟨hx, hb, hml, hown, hts⟩ (f_X5_lettersFrom l D cB cI cZ E H_7.size tl X ta kt 600 ft tt (by first | assumption | omega) (by first | assumption | omega) (by first | assumption | omega) (by first | assumption | omega)) (cwV 1 hts (uV (uc10 _ (List.mem_of_getElem? (i := 11) rfl)) (uc10 _ (List.mem_of_getElem? (i := 12) rfl)) (uc10 _ (List.mem_of_getElem? (i := 13) rfl)) (uc1 _ (List.mem_of_getElem? (i := 14) rfl)) (uc10 _ (List.mem_of_getElem? (i := 14) rfl))) rfl rfl rfl (by decide +kernel) ⟨Nat.le_of_ble_eq_true rfl, Nat.le_of_ble_eq_true rfl⟩) (pVE hE hS hFc hK hPc hDc 0 rfl rfl) rfl rfl hl.1 rfl (lv_room (Nat.le_of_ble_eq_true rfl)) dX7_split_30 ⟨Nat.le_of_ble_eq_true rfl, Nat.le_of_ble_eq_true rfl⟩) hS (fun q _ h => hFc q h) hFc (fun r_16 u t H_17 L_18 ht hvm hw hB hz1 hk1 hS => ?_)
        obtain ⟨L_19, rfl⟩ : ∃ z, z = u := ⟨_, rfl⟩
        obtain ⟨hP1, -, hD1⟩ := hB
        rw [ht] at hP1
        obtain ⟨hP, hD⟩ := va_join (wr := [(h0, .inr (7, [.ref tl, .ref wa1, .ref wa2, .ref wa3, .ref wa4, .int (nI cq), .int sc])), (wa1, .inl (cI, 300, .inl g1)), (wa2, .inl (cI, 300, .inl g2)), (wa3, .inl (cI, 300, .inl g3))]) (w1 := [(tl, .inr (5, [.ref ta, .int (nI kt)])), (ta, .inl (cB, 600, .inl ft))]) hP hD [4, 5] [0, 1, 2, 3] rfl rfl (by decide) (by decide) hk1 hFc hP1 hD1
        have hP : va_P D vwCl [(h0, .inr (7, [.ref tl, .ref wa1, .ref wa2, .ref wa3, .ref wa4, .int (nI cq), .int sc])), (wa1, .inl (cI, 300, .inl g1)), (wa2, .inl (cI, 300, .inl g2)), (wa3, .inl (cI, 300, .inl g3)), (tl, .inr (5, [.ref ta, .int (nI kt)])), (ta, .inl (cB, 600, .inl ft))] H_17 := hP.sub [0, 1, 2, 3, 4, 5] rfl
        have hD : va_D A [(h0, .inr (7, [.ref tl, .ref wa1, .ref wa2, .ref wa3, .ref wa4, .int (nI cq), .int sc])), (wa1, .inl (cI, 300, .inl g1)), (wa2, .inl (cI, 300, .inl g2)), (wa3, .inl (cI, 300, .inl g3)), (tl, .inr (5, [.ref ta, .int (nI kt)])), (ta, .inl (cB, 600, .inl ft))] := hD.sub [0, 1, 2, 3, 4, 5] (by decide) rfl
        try dsimp only at hw
        obtain ⟨rfl, h_20⟩ := hw
        obtain ⟨Lw, rfl⟩ : ∃ z, z = L_19 := ⟨_, rfl⟩
        have hrun := h_20
        have hrb := hrun.1
        refine lv_istore_n (lv' := [(3, .int (nI Lw)), (0, .ref h0), (1, .int (nI s0)), (2, .int v2), (4, .int (nI X))]) hx hb dX7_split_33 rfl hl (by decide) rfl (fun ls hl => ?_)
        refine lv_iload_n hx hb dX7_split_34 rfl (lv_at hl 0 rfl) ?_
        refine lv_if_le (tgt := 51) hx hb dX7_split_35 (by decide) (fun c_21 => ?_) (fun c_21 => ?_)
        · have hL0 : Lw = 0 := Nat.le_zero.mp ((nI_leI (b := 0) (by omega) (by decide)).mp c_21)
          have hnl := qRun_0 hrun hL0 hlt_X
          refine lv_aload_n hx hb dX7_split_51 rfl (lv_at hl 1 rfl) ?_
          refine va_get (D := D) (ci := 7) (v := .ref tl) (C := RX7) (T := TX7) (N := 7) hx hb hts hinX7 hown hK hP 0 rfl rfl 0 (by decide) (hts (.fieldLink RX7 14 "TaleReader$Words" "tale" "LTaleReader$Text;") (uc3 _ (List.mem_of_getElem? (i := 12) rfl))) (fun _ h9 => h9) rfl dX7_split_52 ?_
          refine lv_iload hx hb dX7_split_55 (lv_at hl 4 rfl) ?_
          have hPc := hP.sub (ws' := [(tl, .inr (5, [.ref ta, .int (nI kt)])), (ta, .inl (cB, 600, .inl ft))]) [4, 5] rfl
          have hDc := hD.sub (ws' := [(tl, .inr (5, [.ref ta, .int (nI kt)])), (ta, .inl (cB, 600, .inl ft))]) [4, 5] (by decide) rfl
          have hFc := va_free (wc := [(tl, .inr (5, [.ref ta, .int (nI kt)])), (ta, .inl (cB, 600, .inl ft))]) hD hS hA [4, 5] rfl
          refine va_calli (va_runV (As := [.int (nI X)]) (rest := []) ⟨hx, hb, hml, hown, hts⟩ (f_X5_signT l D cB cI cZ E H_17.size tl X ta kt 600 ft tt (by first | assumption | omega) (by first | assumption | omega) (by first | assumption | omega) (by first | assumption | omega)) (cwV 1 hts (uV (uc10 _ (List.mem_of_getElem? (i := 23) rfl)) (uc9 _ (List.mem_of_getElem? (i := 22) rfl)) (uc9 _ (List.mem_of_getElem? (i := 23) rfl)) (uc1 _ (List.mem_of_getElem? (i := 14) rfl)) (uc10 _ (List.mem_of_getElem? (i := 0) rfl))) rfl rfl rfl (by decide +kernel) ⟨Nat.le_of_ble_eq_true rfl, Nat.le_of_ble_eq_true rfl⟩) (pVE hE hS hFc hK hPc hDc 0 rfl rfl) rfl rfl hl.1 rfl (lv_room (Nat.le_of_ble_eq_true rfl)) dX7_split_57 ⟨Nat.le_of_ble_eq_true rfl, Nat.le_of_ble_eq_true rfl⟩) hS (fun q _ h => hFc q h) hFc (fun r_22 u t H_23 L_24 ht hvm hw hB hz1 hk1 hS => ?_)
          obtain ⟨hP1, -, hD1⟩ := hB
          rw [ht] at hP1
          obtain ⟨hP, hD⟩ := va_join (wr := [(h0, .inr (7, [.ref tl, .ref wa1, .ref wa2, .ref wa3, .ref wa4, .int (nI cq), .int sc])), (wa1, .inl (cI, 300, .inl g1)), (wa2, .inl (cI, 300, .inl g2)), (wa3, .inl (cI, 300, .inl g3))]) (w1 := [(tl, .inr (5, [.ref ta, .int (nI kt)])), (ta, .inl (cB, 600, .inl ft))]) hP hD [4, 5] [0, 1, 2, 3] rfl rfl (by decide) (by decide) hk1 hFc hP1 hD1
          have hP : va_P D vwCl [(h0, .inr (7, [.ref tl, .ref wa1, .ref wa2, .ref wa3, .ref wa4, .int (nI cq), .int sc])), (wa1, .inl (cI, 300, .inl g1)), (wa2, .inl (cI, 300, .inl g2)), (wa3, .inl (cI, 300, .inl g3)), (tl, .inr (5, [.ref ta, .int (nI kt)])), (ta, .inl (cB, 600, .inl ft))] H_23 := hP.sub [0, 1, 2, 3, 4, 5] rfl
          have hD : va_D A [(h0, .inr (7, [.ref tl, .ref wa1, .ref wa2, .ref wa3, .ref wa4, .int (nI cq), .int sc])), (wa1, .inl (cI, 300, .inl g1)), (wa2, .inl (cI, 300, .inl g2)), (wa3, .inl (cI, 300, .inl g3)), (tl, .inr (5, [.ref ta, .int (nI kt)])), (ta, .inl (cB, 600, .inl ft))] := hD.sub [0, 1, 2, 3, 4, 5] (by decide) rfl
          try dsimp only at hw
          subst hw
          refine lv_bipush (v := 46) hx hb dX7_split_60 (by decide) ?_
          refine lv_icmp_ne (tgt := 70) hx hb dX7_split_62 (by decide) (fun c_25 => ?_) (fun c_25 => ?_)
          · have hd46 : ¬ tt X = 46 := fun q => c_25 ((qb_eq (w := 46) (hT X hlt_X).2 (by decide)).mpr q)
            refine lv_iload hx hb dX7_split_70 (lv_at hl 4 rfl) ?_
            refine lv_iload_n hx hb dX7_split_72 rfl (lv_at hl 0 rfl) ?_
            refine lv_iconst (v := 1) hx hb dX7_split_73 (by decide) ?_
            refine va_mmax hx hb (by rw [hml]; exact hl.1.symm) hown (hts (.methodLink RX7 72 Lib.Math.max.name) (uc10 _ (List.mem_of_getElem? (i := 9) rfl))) (hts (.static Lib.Math.max.name) (uc3 _ (List.mem_of_getElem? (i := 1) rfl))) (hts (.initialized "java/lang/Math") (uc3 _ (List.mem_of_getElem? (i := 2) rfl))) (hts (.code Lib.Math.max.name Lib.Math.max.code 2 (some .int)) (uc3 _ (List.mem_of_getElem? (i := 3) rfl))) (Nat.le_of_ble_eq_true rfl) (Nat.le_of_ble_eq_true rfl) (Nat.le_of_ble_eq_true rfl) (Nat.le_of_ble_eq_true rfl) dX7_split_74 ?_
            refine lv_topi (fun z_26 ez_26 => ?_)
            obtain rfl : z_26 = nI 1 := ez_26.trans (qMx0 hL0)
            refine lv_iadd hx hb dX7_split_77 ?_
            refine lv_topi (fun z_27 ez_27 => ?_)
            obtain rfl : z_27 = nI (X + 1) := ez_27.trans (nI_add X 1)
            refine lv_istore (lv' := [(4, .int (nI (X + 1))), (3, .int (nI Lw)), (0, .ref h0), (1, .int (nI s0)), (2, .int v2)]) hx hb dX7_split_78 hl (by decide) rfl (fun ls hl => ?_)
            refine lv_goto (tgt := 12) hx hb dX7_split_80 (by decide) ?_
            exact ih_4 (X + 1) cq s0 (nw + 1) g1 g2 g3 v2 wA wL wS (by first | assumption | exact Or.inl rfl | exact Or.inr rfl | omega) (by first | assumption | exact Or.inl rfl | exact Or.inr rfl | omega) (by first | exact qWi_word hw hlt_X hlet hrun | exact qWi_dot hw hlt_X hnl hd46 | exact qWi_skip hw hlt_X hnl hd46) (by first | assumption | exact qG3_add hg) (by omega) H_23 _ ls (hP.sub (ws' := [(h0, .inr (7, [.ref tl, .ref wa1, .ref wa2, .ref wa3, .ref wa4, .int (nI cq), .int sc])), (wa1, .inl (cI, 300, .inl g1)), (wa2, .inl (cI, 300, .inl g2)), (wa3, .inl (cI, 300, .inl g3)), (tl, .inr (5, [.ref ta, .int (nI kt)])), (ta, .inl (cB, 600, .inl ft))]) [0, 1, 2, 3, 4, 5] rfl) (hD.sub (ws' := [(h0, .inr (7, [.ref tl, .ref wa1, .ref wa2, .ref wa3, .ref wa4, .int (nI cq), .int sc])), (wa1, .inl (cI, 300, .inl g1)), (wa2, .inl (cI, 300, .inl g2)), (wa3, .inl (cI, 300, .inl g3)), (tl, .inr (5, [.ref ta, .int (nI kt)])), (ta, .inl (cB, 600, .inl ft))]) [0, 1, 2, 3, 4, 5] (by decide) rfl) hS (lv_sub hl [2, 3, 4, 0] rfl)
          · have hd46 : tt X = 46 := (qb_eq (w := 46) (hT X hlt_X).2 (by decide)).mp c_25
            refine lv_iinc (v := nI (s0 + 1)) (lv' := [(1, .int (nI (s0 + 1))), (3, .int (nI Lw)), (0, .ref h0), (2, .int v2), (4, .int (nI X))]) hx hb dX7_split_65 hl (k := 2) rfl (nI_add s0 1) (by decide) rfl (fun ls hl => ?_)
            refine lv_iconst (v := 0) hx hb dX7_split_68 (by decide) ?_
            refine lv_istore_n (lv' := [(2, .int 0), (1, .int (nI (s0 + 1))), (3, .int (nI Lw)), (0, .ref h0), (4, .int (nI X))]) hx hb dX7_split_69 rfl hl (by decide) rfl (fun ls hl => ?_)
            refine lv_iload hx hb dX7_split_70 (lv_at hl 4 rfl) ?_
            refine lv_iload_n hx hb dX7_split_72 rfl (lv_at hl 2 rfl) ?_
            refine lv_iconst (v := 1) hx hb dX7_split_73 (by decide) ?_
            refine va_mmax hx hb (by rw [hml]; exact hl.1.symm) hown (hts (.methodLink RX7 72 Lib.Math.max.name) (uc10 _ (List.mem_of_getElem? (i := 9) rfl))) (hts (.static Lib.Math.max.name) (uc3 _ (List.mem_of_getElem? (i := 1) rfl))) (hts (.initialized "java/lang/Math") (uc3 _ (List.mem_of_getElem? (i := 2) rfl))) (hts (.code Lib.Math.max.name Lib.Math.max.code 2 (some .int)) (uc3 _ (List.mem_of_getElem? (i := 3) rfl))) (Nat.le_of_ble_eq_true rfl) (Nat.le_of_ble_eq_true rfl) (Nat.le_of_ble_eq_true rfl) (Nat.le_of_ble_eq_true rfl) dX7_split_74 ?_
            refine lv_topi (fun z_28 ez_28 => ?_)
            obtain rfl : z_28 = nI 1 := ez_28.trans (qMx0 hL0)
            refine lv_iadd hx hb dX7_split_77 ?_
            refine lv_topi (fun z_29 ez_29 => ?_)
            obtain rfl : z_29 = nI (X + 1) := ez_29.trans (nI_add X 1)
            refine lv_istore (lv' := [(4, .int (nI (X + 1))), (2, .int 0), (1, .int (nI (s0 + 1))), (3, .int (nI Lw)), (0, .ref h0)]) hx hb dX7_split_78 hl (by decide) rfl (fun ls hl => ?_)
            refine lv_goto (tgt := 12) hx hb dX7_split_80 (by decide) ?_
            exact ih_4 (X + 1) cq (s0 + 1) (nw + 1) g1 g2 g3 0 wA wL wS (by first | assumption | exact Or.inl rfl | exact Or.inr rfl | omega) (by first | assumption | exact Or.inl rfl | exact Or.inr rfl | omega) (by first | exact qWi_word hw hlt_X hlet hrun | exact qWi_dot hw hlt_X hnl hd46 | exact qWi_skip hw hlt_X hnl hd46) (by first | assumption | exact qG3_add hg) (by omega) H_23 _ ls (hP.sub (ws' := [(h0, .inr (7, [.ref tl, .ref wa1, .ref wa2, .ref wa3, .ref wa4, .int (nI cq), .int sc])), (wa1, .inl (cI, 300, .inl g1)), (wa2, .inl (cI, 300, .inl g2)), (wa3, .inl (cI, 300, .inl g3)), (tl, .inr (5, [.ref ta, .int (nI kt)])), (ta, .inl (cB, 600, .inl ft))]) [0, 1, 2, 3, 4, 5] rfl) (hD.sub (ws' := [(h0, .inr (7, [.ref tl, .ref wa1, .ref wa2, .ref wa3, .ref wa4, .int (nI cq), .int sc])), (wa1, .inl (cI, 300, .inl g1)), (wa2, .inl (cI, 300, .inl g2)), (wa3, .inl (cI, 300, .inl g3)), (tl, .inr (5, [.ref ta, .int (nI kt)])), (ta, .inl (cB, 600, .inl ft))]) [0, 1, 2, 3, 4, 5] (by decide) rfl) hS (lv_sub hl [4, 2, 1, 0] rfl)
        · have hL1 : 1 ≤ Lw := Nat.succ_le_of_lt (Nat.lt_of_not_le (fun q => c_21 (nI_le (b := 0) q (by decide))))
          have hlet : qLr (tt X) := hrun.2.1 0 (by omega)
          have hcb := qWi_room hw hlt_X hlet hkt
          refine lv_aload_n hx hb dX7_split_38 rfl (lv_at hl 1 rfl) ?_
          refine lv_iload hx hb dX7_split_39 (lv_at hl 4 rfl) ?_
          refine lv_iload_n hx hb dX7_split_41 rfl (lv_at hl 0 rfl) ?_
          refine lv_iload_n hx hb dX7_split_42 rfl (lv_at hl 2 rfl) ?_
          have hPc := hP.sub (ws' := [(h0, .inr (7, [.ref tl, .ref wa1, .ref wa2, .ref wa3, .ref wa4, .int (nI cq), .int sc])), (wa1, .inl (cI, 300, .inl g1)), (wa2, .inl (cI, 300, .inl g2)), (wa3, .inl (cI, 300, .inl g3))]) [0, 1, 2, 3] rfl
          have hDc := hD.sub (ws' := [(h0, .inr (7, [.ref tl, .ref wa1, .ref wa2, .ref wa3, .ref wa4, .int (nI cq), .int sc])), (wa1, .inl (cI, 300, .inl g1)), (wa2, .inl (cI, 300, .inl g2)), (wa3, .inl (cI, 300, .inl g3))]) [0, 1, 2, 3] (by decide) rfl
          have hFc := va_free (wc := [(h0, .inr (7, [.ref tl, .ref wa1, .ref wa2, .ref wa3, .ref wa4, .int (nI cq), .int sc])), (wa1, .inl (cI, 300, .inl g1)), (wa2, .inl (cI, 300, .inl g2)), (wa3, .inl (cI, 300, .inl g3))]) hD hS hA [0, 1, 2, 3] rfl
          refine va_callv (va_runV (As := [.int (nI X), .int (nI Lw), .int (nI s0)]) (rest := []) ⟨hx, hb, hml, hown, hts⟩ (f_X7_add l D cB cI cZ E H_17.size h0 (nI X) (nI Lw) (nI s0) tl wa1 wa2 wa3 wa4 cq sc g1 g2 g3 (by first | assumption | omega)) (cwV 3 hts (uV (uc10 _ (List.mem_of_getElem? (i := 19) rfl)) (uc10 _ (List.mem_of_getElem? (i := 20) rfl)) (uc10 _ (List.mem_of_getElem? (i := 21) rfl)) (uc1 _ (List.mem_of_getElem? (i := 18) rfl)) (uc10 _ (List.mem_of_getElem? (i := 22) rfl))) rfl rfl rfl (by decide +kernel) ⟨Nat.le_of_ble_eq_true rfl, Nat.le_of_ble_eq_true rfl⟩) (pVE hE hS hFc hK hPc hDc 0 rfl rfl) rfl rfl hl.1 rfl (lv_room (Nat.le_of_ble_eq_true rfl)) dX7_split_43 ⟨Nat.le_of_ble_eq_true rfl, Nat.le_of_ble_eq_true rfl⟩) hS (fun q _ h => hFc q h) hFc (fun u t H_31 L_32 ht hvm hw hB hz1 hk1 hS => ?_)
          obtain ⟨c_33, fw1_34, fw2_35, fw3_36⟩ := u
          obtain ⟨hP1, -, hD1⟩ := hB
          rw [ht] at hP1
          obtain ⟨hP, hD⟩ := va_join (wr := [(tl, .inr (5, [.ref ta, .int (nI kt)])), (ta, .inl (cB, 600, .inl ft))]) (w1 := [(h0, .inr (7, [.ref tl, .ref wa1, .ref wa2, .ref wa3, .ref wa4, .int (nI c_33), .int sc])), (wa1, .inl (cI, 300, .inl fw1_34)), (wa2, .inl (cI, 300, .inl fw2_35)), (wa3, .inl (cI, 300, .inl fw3_36))]) hP hD [0, 1, 2, 3] [4, 5] rfl rfl (by decide) (by decide) hk1 hFc hP1 hD1
          have hP : va_P D vwCl [(h0, .inr (7, [.ref tl, .ref wa1, .ref wa2, .ref wa3, .ref wa4, .int (nI c_33), .int sc])), (wa1, .inl (cI, 300, .inl fw1_34)), (wa2, .inl (cI, 300, .inl fw2_35)), (wa3, .inl (cI, 300, .inl fw3_36)), (tl, .inr (5, [.ref ta, .int (nI kt)])), (ta, .inl (cB, 600, .inl ft))] H_31 := hP.sub [2, 3, 4, 5, 0, 1] rfl
          have hD : va_D A [(h0, .inr (7, [.ref tl, .ref wa1, .ref wa2, .ref wa3, .ref wa4, .int (nI c_33), .int sc])), (wa1, .inl (cI, 300, .inl fw1_34)), (wa2, .inl (cI, 300, .inl fw2_35)), (wa3, .inl (cI, 300, .inl fw3_36)), (tl, .inr (5, [.ref ta, .int (nI kt)])), (ta, .inl (cB, 600, .inl ft))] := hD.sub [2, 3, 4, 5, 0, 1] (by decide) rfl
          try dsimp only at hw
          obtain ⟨rfl, rfl, rfl, rfl⟩ := hw
          refine lv_iconst (v := 1) hx hb dX7_split_46 (by decide) ?_
          refine lv_istore_n (lv' := [(2, .int 1), (3, .int (nI Lw)), (0, .ref h0), (1, .int (nI s0)), (4, .int (nI X))]) hx hb dX7_split_47 rfl hl (by decide) rfl (fun ls hl => ?_)
          refine lv_goto (tgt := 70) hx hb dX7_split_48 (by decide) ?_
          refine lv_iload hx hb dX7_split_70 (lv_at hl 4 rfl) ?_
          refine lv_iload_n hx hb dX7_split_72 rfl (lv_at hl 1 rfl) ?_
          refine lv_iconst (v := 1) hx hb dX7_split_73 (by decide) ?_
          refine va_mmax hx hb (by rw [hml]; exact hl.1.symm) hown (hts (.methodLink RX7 72 Lib.Math.max.name) (uc10 _ (List.mem_of_getElem? (i := 9) rfl))) (hts (.static Lib.Math.max.name) (uc3 _ (List.mem_of_getElem? (i := 1) rfl))) (hts (.initialized "java/lang/Math") (uc3 _ (List.mem_of_getElem? (i := 2) rfl))) (hts (.code Lib.Math.max.name Lib.Math.max.code 2 (some .int)) (uc3 _ (List.mem_of_getElem? (i := 3) rfl))) (Nat.le_of_ble_eq_true rfl) (Nat.le_of_ble_eq_true rfl) (Nat.le_of_ble_eq_true rfl) (Nat.le_of_ble_eq_true rfl) dX7_split_74 ?_
          refine lv_topi (fun z_37 ez_37 => ?_)
          obtain rfl : z_37 = nI Lw := ez_37.trans (qMx1 hL1 (by omega))
          refine lv_iadd hx hb dX7_split_77 ?_
          refine lv_topi (fun z_38 ez_38 => ?_)
          obtain rfl : z_38 = nI (X + Lw) := ez_38.trans (nI_add X Lw)
          refine lv_istore (lv' := [(4, .int (nI (X + Lw))), (2, .int 1), (3, .int (nI Lw)), (0, .ref h0), (1, .int (nI s0))]) hx hb dX7_split_78 hl (by decide) rfl (fun ls hl => ?_)
          refine lv_goto (tgt := 12) hx hb dX7_split_80 (by decide) ?_
          exact ih_4 (X + Lw) (cq + 1) s0 (nw + 1) (upd g1 cq (nI X)) (upd g2 cq (nI Lw)) (upd g3 cq (nI s0)) 1 (va_up wA cq X) (va_up wL cq Lw) (va_up wS cq s0) (by first | assumption | exact Or.inl rfl | exact Or.inr rfl | omega) (by first | assumption | exact Or.inl rfl | exact Or.inr rfl | omega) (by first | exact qWi_word hw hlt_X hlet hrun | exact qWi_dot hw hlt_X hnl hd46 | exact qWi_skip hw hlt_X hnl hd46) (by first | assumption | exact qG3_add hg) (by omega) H_31 _ ls (hP.sub (ws' := [(h0, .inr (7, [.ref tl, .ref wa1, .ref wa2, .ref wa3, .ref wa4, .int (nI (cq + 1)), .int sc])), (wa1, .inl (cI, 300, .inl (upd g1 cq (nI X)))), (wa2, .inl (cI, 300, .inl (upd g2 cq (nI Lw)))), (wa3, .inl (cI, 300, .inl (upd g3 cq (nI s0)))), (tl, .inr (5, [.ref ta, .int (nI kt)])), (ta, .inl (cB, 600, .inl ft))]) [0, 1, 2, 3, 4, 5] rfl) (hD.sub (ws' := [(h0, .inr (7, [.ref tl, .ref wa1, .ref wa2, .ref wa3, .ref wa4, .int (nI (cq + 1)), .int sc])), (wa1, .inl (cI, 300, .inl (upd g1 cq (nI X)))), (wa2, .inl (cI, 300, .inl (upd g2 cq (nI Lw)))), (wa3, .inl (cI, 300, .inl (upd g3 cq (nI s0)))), (tl, .inr (5, [.ref ta, .int (nI kt)])), (ta, .inl (cB, 600, .inl ft))]) [0, 1, 2, 3, 4, 5] (by decide) rfl) hS (lv_sub hl [3, 4, 1, 0] rfl)
  exact loop_3 _ 0 0 0 0 fw1 fw2 fw3 0 (fun _ => 0) (fun _ => 0) (fun _ => 0) (by first | assumption | exact Or.inl rfl | exact Or.inr rfl | omega) (by first | assumption | exact Or.inl rfl | exact Or.inr rfl | omega) (rfl) (qNil) (Nat.lt_succ_self _) H_1 _ ls (hP.sub (ws' := [(h0, .inr (7, [.ref tl, .ref wa1, .ref wa2, .ref wa3, .ref wa4, .int (nI 0), .int sc])), (wa1, .inl (cI, 300, .inl fw1)), (wa2, .inl (cI, 300, .inl fw2)), (wa3, .inl (cI, 300, .inl fw3)), (tl, .inr (5, [.ref ta, .int (nI kt)])), (ta, .inl (cB, 600, .inl ft))]) [0, 1, 2, 3, 4, 5] rfl) (hD.sub (ws' := [(h0, .inr (7, [.ref tl, .ref wa1, .ref wa2, .ref wa3, .ref wa4, .int (nI 0), .int sc])), (wa1, .inl (cI, 300, .inl fw1)), (wa2, .inl (cI, 300, .inl fw2)), (wa3, .inl (cI, 300, .inl fw3)), (tl, .inr (5, [.ref ta, .int (nI kt)])), (ta, .inl (cB, 600, .inl ft))]) [0, 1, 2, 3, 4, 5] (by decide) rfl) hS (lv_sub hl [3, 2, 1, 0] rfl)
