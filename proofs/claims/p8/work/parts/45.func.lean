set_option maxHeartbeats 4000000 in
set_option maxRecDepth 100000 in
theorem f_X6_find (l : Launch) (D : va_G) (cB cI cZ : ClassId) (E : pEt) (sz : Nat) (h0 : Nat) (h1 : Nat) (X : Nat) (Y : Nat) (lt : Nat) (ta1 : Nat) (ta2 : Nat) (ta3 : Nat) (d : Nat) (fd1 : Nat → Int32) (fd2 : Nat → Int32) (la : Nat) (kl : Nat) (fl : Nat → Int32) (a1 : Nat) (k1 : Nat) (n1 : Nat) (f1 : Nat → Int32) (tg : Nat → Nat) (yl : Nat → Nat) (cc : Nat → Nat → Nat) (hd : d ≤ 8) (hkl : kl ≤ 80) (hk1 : k1 ≤ n1) (hn1 : n1 ≤ 600) (hT1 : qT k1 f1 tg) (hXY : X + Y ≤ k1) (hC : qC d kl fd1 fd2 fl yl cc) : Met l yX6_find (.code yX6_find cX6_find 5 (some .int) :: wsL_law) ({ frames := 1, cells := 0, slots := 0, locals := 25 } : Room) (va_Pc [.ref h0, .ref h1, .int (nI X), .int (nI Y)] (pInE E D (pT cB cI cZ) sz [(h0, .inr (6, [.ref lt, .ref ta1, .ref ta2, .ref ta3, .int (nI d)])), (ta1, .inl (cI, 8, .inl fd1)), (ta2, .inl (cI, 8, .inl fd2)), (lt, .inr (5, [.ref la, .int (nI kl)])), (la, .inl (cB, 80, .inl fl)), (h1, .inr (5, [.ref a1, .int (nI k1)])), (a1, .inl (cB, n1, .inl f1))])) (va_Qi (fun (r : Int32) (u : Unit) => (((-1) = r) ∧ (∀ j, j < d → ¬ qFd tg yl cc X Y j)) ∨ (∃ j : Nat, j < d ∧ r = nI j ∧ qFd tg yl cc X Y j ∧ ∀ j2, j2 < j → ¬ qFd tg yl cc X Y j2)) (fun (u : Unit) (t : State) => pAt D (pT cB cI cZ) (va_A [(h0, .inr (6, [.ref lt, .ref ta1, .ref ta2, .ref ta3, .int (nI d)])), (ta1, .inl (cI, 8, .inl fd1)), (ta2, .inl (cI, 8, .inl fd2)), (lt, .inr (5, [.ref la, .int (nI kl)])), (la, .inl (cB, 80, .inl fl)), (h1, .inr (5, [.ref a1, .int (nI k1)])), (a1, .inl (cB, n1, .inl f1))] sz) [(h0, .inr (6, [.ref lt, .ref ta1, .ref ta2, .ref ta3, .int (nI d)])), (ta1, .inl (cI, 8, .inl fd1)), (ta2, .inl (cI, 8, .inl fd2)), (lt, .inr (5, [.ref la, .int (nI kl)])), (la, .inl (cB, 80, .inl fl)), (h1, .inr (5, [.ref a1, .int (nI k1)])), (a1, .inl (cB, n1, .inl f1))] t) (va_A [(h0, .inr (6, [.ref lt, .ref ta1, .ref ta2, .ref ta3, .int (nI d)])), (ta1, .inl (cI, 8, .inl fd1)), (ta2, .inl (cI, 8, .inl fd2)), (lt, .inr (5, [.ref la, .int (nI kl)])), (la, .inl (cB, 80, .inl fl)), (h1, .inr (5, [.ref a1, .int (nI k1)])), (a1, .inl (cB, n1, .inl f1))] sz)) 0 0 (va_A [(h0, .inr (6, [.ref lt, .ref ta1, .ref ta2, .ref ta3, .int (nI d)])), (ta1, .inl (cI, 8, .inl fd1)), (ta2, .inl (cI, 8, .inl fd2)), (lt, .inr (5, [.ref la, .int (nI kl)])), (la, .inl (cB, 80, .inl fl)), (h1, .inr (5, [.ref a1, .int (nI k1)])), (a1, .inl (cB, n1, .inl f1))] sz) := by
  refine Met.ofW (cc := cX6_find) (maxL := 5) (ret := (some .int)) (by decide) rfl ?_
  intro p e s m args below meth cd s₁ B hml hv
  obtain ⟨rfl, hsz, hP, hK, hD0, hE⟩ := hv
  have hx := B.exec
  have hb := B.bytes
  have hr := B.returns
  have hts0 := atoms_spec (ws := .code yX6_find cX6_find 5 (some .int) :: wsL_law) B.pre
  have hts := fun (w : Cond) (h : w ∈ wsL_law) => hts0 w (List.mem_cons_of_mem _ h)
  have hown : s.vm.findClass RX6 = some m.cls := findClass_of_methodNamed B.named
  have hlocks := B.notSynchronized
  have hinX6 := inlX6
  subst hsz
  have hD := hD0.self (sz := s.heap.size)
  generalize hAe : va_A [(h0, .inr (6, [.ref lt, .ref ta1, .ref ta2, .ref ta3, .int (nI d)])), (ta1, .inl (cI, 8, .inl fd1)), (ta2, .inl (cI, 8, .inl fd2)), (lt, .inr (5, [.ref la, .int (nI kl)])), (la, .inl (cB, 80, .inl fl)), (h1, .inr (5, [.ref a1, .int (nI k1)])), (a1, .inl (cB, n1, .inl f1))] s.heap.size = A at hD hE ⊢
  have hA : ∀ q : Nat, s.heap.size ≤ q → A q := fun q h => by rw [← hAe]; exact Or.inr h
  have hS : va_S A s.heap s.heap [] := va_S.rf
  have hP : va_P D vwCl [(h0, .inr (6, [.ref lt, .ref ta1, .ref ta2, .ref ta3, .int (nI d)])), (ta1, .inl (cI, 8, .inl fd1)), (ta2, .inl (cI, 8, .inl fd2)), (lt, .inr (5, [.ref la, .int (nI kl)])), (la, .inl (cB, 80, .inl fl)), (h1, .inr (5, [.ref a1, .int (nI k1)])), (a1, .inl (cB, n1, .inl f1))] s.heap := hP
  have hl := lv_entry ([.ref h0, .ref h1, .int (nI X), .int (nI Y)]) (n := 5) (Nat.le_of_ble_eq_true rfl)
  rw [lg_entry_eq]
  generalize (lg_sl ([.ref h0, .ref h1, .int (nI X), .int (nI Y)]) ++ List.replicate (5 - (lg_sl ([.ref h0, .ref h1, .int (nI X), .int (nI Y)])).length) Slot.unset).toArray = ls at hl ⊢
  have hl : lv_has ls 5 [(0, .ref h0), (1, .ref h1), (2, .int (nI X)), (3, .int (nI Y))] := hl
  generalize hQ : MQ below _ _ _ _ _ _ = Q
  obtain ⟨hkl10, tz, hTz, hCi⟩ := id hC
  refine lv_iconst (v := 0) hx hb dX6_find_0 (by decide) ?_
  refine lv_istore (lv' := [(4, .int 0), (0, .ref h0), (1, .ref h1), (2, .int (nI X)), (3, .int (nI Y))]) hx hb dX6_find_1 hl (by decide) rfl (fun ls hl => ?_)
  have loop_1 : ∀ (nn_3 : Nat) (i : Nat), (∀ j, j < i → ¬ qFd tg yl cc X Y j) → (i ≤ 600) → (d - i < nn_3) → ∀ (H : Heap) (locs : List Loc) (ls : Array Slot), va_P D vwCl [(h0, .inr (6, [.ref lt, .ref ta1, .ref ta2, .ref ta3, .int (nI d)])), (ta1, .inl (cI, 8, .inl fd1)), (ta2, .inl (cI, 8, .inl fd2)), (lt, .inr (5, [.ref la, .int (nI kl)])), (la, .inl (cB, 80, .inl fl)), (h1, .inr (5, [.ref a1, .int (nI k1)])), (a1, .inl (cB, n1, .inl f1))] H → va_D A [(h0, .inr (6, [.ref lt, .ref ta1, .ref ta2, .ref ta3, .int (nI d)])), (ta1, .inl (cI, 8, .inl fd1)), (ta2, .inl (cI, 8, .inl fd2)), (lt, .inr (5, [.ref la, .int (nI kl)])), (la, .inl (cB, 80, .inl fl)), (h1, .inr (5, [.ref a1, .int (nI k1)])), (a1, .inl (cB, n1, .inl f1))] → va_S A s.heap H locs → lv_has ls 5 [(0, .ref h0), (1, .ref h1), (2, .int (nI X)), (3, .int (nI Y)), (4, .int (nI i))] → W p l e ({ frames := 1, cells := 0, slots := 0, locals := 25 } : Room) s m ([.ref h0, .ref h1, .int (nI X), .int (nI Y)] : List Value).toArray below meth cd H locs 0 0 Q (F0 m 3 ls []) := by
    intro nn_3
    induction nn_3 with
    | zero => intros; exact absurd ‹_ < 0› (Nat.not_lt_zero _)
    | succ nn_3 ih_2 =>
      intro i hn_ hi600 hmu H locs ls hP hD hS hl
      refine lv_iload hx hb dX6_find_3 (lv_at hl 4 rfl) ?_
      refine lv_aload_n hx hb dX6_find_5 rfl (lv_at hl 0 rfl) ?_
      refine va_get (D := D) (ci := 6) (v := .int (nI d)) (C := RX6) (T := TX6) (N := 5) hx hb hts hinX6 hown hK hP 0 rfl rfl 4 (by decide) (hts (.fieldLink RX6 30 "TaleReader$ToldNames" "count" "I") (uc4 _ (List.mem_of_getElem? (i := 6) rfl))) (fun _ h9 => h9) rfl dX6_find_6 ?_
      refine lv_icmp_ge (tgt := 52) hx hb dX6_find_9 (by decide) (fun c_4 => ?_) (fun c_4 => ?_)
      · have hge := (nI_leI (by omega) (by omega)).mp c_4
        refine lv_iconst (v := (-1)) hx hb dX6_find_52 (by decide) ?_
        have hP9 := hP.sub (ws' := [(h0, .inr (6, [.ref lt, .ref ta1, .ref ta2, .ref ta3, .int (nI d)])), (ta1, .inl (cI, 8, .inl fd1)), (ta2, .inl (cI, 8, .inl fd2)), (lt, .inr (5, [.ref la, .int (nI kl)])), (la, .inl (cB, 80, .inl fl)), (h1, .inr (5, [.ref a1, .int (nI k1)])), (a1, .inl (cB, n1, .inl f1))]) [0, 1, 2, 3, 4, 5, 6] rfl
        have hD9 := hD.sub (ws' := [(h0, .inr (6, [.ref lt, .ref ta1, .ref ta2, .ref ta3, .int (nI d)])), (ta1, .inl (cI, 8, .inl fd1)), (ta2, .inl (cI, 8, .inl fd2)), (lt, .inr (5, [.ref la, .int (nI kl)])), (la, .inl (cB, 80, .inl fl)), (h1, .inr (5, [.ref a1, .int (nI k1)])), (a1, .inl (cB, n1, .inl f1))]) [0, 1, 2, 3, 4, 5, 6] (by decide) rfl
        rw [← hQ]
        exact W.iret (v := (-1)) hx hb hr (fun t ht hW => ⟨⟨(-1), (), rfl, Or.inl (⟨rfl, fun j hj => hn_ j (by omega)⟩), ⟨by rw [ht]; exact hP9, va_K.moved hW.alike hK, hD9⟩⟩, hS.F ht⟩) hS.2.2 dX6_find_53
      · have hlt_i : i < d := Nat.lt_of_not_le (fun q => c_4 (nI_le q (by omega)))
        obtain ⟨eL, hY2, hY10, X2, eX, hX2, hZ⟩ := hCi i hlt_i
        refine lv_aload_n hx hb dX6_find_12 rfl (lv_at hl 0 rfl) ?_
        refine va_get (D := D) (ci := 6) (v := .ref ta2) (C := RX6) (T := TX6) (N := 5) hx hb hts hinX6 hown hK hP 0 rfl rfl 2 (by decide) (hts (.fieldLink RX6 24 "TaleReader$ToldNames" "lengths" "[I") (uc4 _ (List.mem_of_getElem? (i := 4) rfl))) (fun _ h9 => h9) rfl dX6_find_13 ?_
        refine lv_iload hx hb dX6_find_16 (lv_at hl 4 rfl) ?_
        refine va_iald (D := D) hx hb hK hP 2 1 rfl rfl (vp_in_nI (by omega) (by omega)) dX6_find_18 ?_
        refine lv_topi (fun z_5 ez_5 => ?_)
        obtain rfl : z_5 = nI (yl i) := ez_5.trans ((congrArg fd2 (nI_clamp (by omega))).trans eL)
        refine lv_iload_n hx hb dX6_find_19 rfl (lv_at hl 3 rfl) ?_
        refine lv_icmp_ne (tgt := 46) hx hb dX6_find_20 (by decide) (fun c_6 => ?_) (fun c_6 => ?_)
        · have hq : ¬ qFd tg yl cc X Y i := fun q => c_6 (by rw [q.1])
          refine lv_iinc (v := nI (i + 1)) (lv' := [(4, .int (nI (i + 1))), (0, .ref h0), (1, .ref h1), (2, .int (nI X)), (3, .int (nI Y))]) hx hb dX6_find_46 hl (k := 4) rfl (nI_add i 1) (by decide) rfl (fun ls hl => ?_)
          refine lv_goto (tgt := 3) hx hb dX6_find_49 (by decide) ?_
          exact ih_2 (i + 1) (qStep hn_ hq) (by first | assumption | exact Or.inl rfl | exact Or.inr rfl | omega) (by omega) H _ ls (hP.sub (ws' := [(h0, .inr (6, [.ref lt, .ref ta1, .ref ta2, .ref ta3, .int (nI d)])), (ta1, .inl (cI, 8, .inl fd1)), (ta2, .inl (cI, 8, .inl fd2)), (lt, .inr (5, [.ref la, .int (nI kl)])), (la, .inl (cB, 80, .inl fl)), (h1, .inr (5, [.ref a1, .int (nI k1)])), (a1, .inl (cB, n1, .inl f1))]) [0, 1, 2, 3, 4, 5, 6] rfl) (hD.sub (ws' := [(h0, .inr (6, [.ref lt, .ref ta1, .ref ta2, .ref ta3, .int (nI d)])), (ta1, .inl (cI, 8, .inl fd1)), (ta2, .inl (cI, 8, .inl fd2)), (lt, .inr (5, [.ref la, .int (nI kl)])), (la, .inl (cB, 80, .inl fl)), (h1, .inr (5, [.ref a1, .int (nI k1)])), (a1, .inl (cB, n1, .inl f1))]) [0, 1, 2, 3, 4, 5, 6] (by decide) rfl) hS (lv_sub hl [1, 2, 3, 4, 0] rfl)
        · have heq : yl i = Y := (nI_eq (by omega) (by omega)).mp c_6
          refine lv_aload_n hx hb dX6_find_23 rfl (lv_at hl 1 rfl) ?_
          refine lv_iload_n hx hb dX6_find_24 rfl (lv_at hl 2 rfl) ?_
          refine lv_aload_n hx hb dX6_find_25 rfl (lv_at hl 0 rfl) ?_
          refine va_get (D := D) (ci := 6) (v := .ref lt) (C := RX6) (T := TX6) (N := 5) hx hb hts hinX6 hown hK hP 0 rfl rfl 0 (by decide) (hts (.fieldLink RX6 14 "TaleReader$ToldNames" "letters" "LTaleReader$Text;") (uc4 _ (List.mem_of_getElem? (i := 2) rfl))) (fun _ h9 => h9) rfl dX6_find_26 ?_
          refine lv_aload_n hx hb dX6_find_29 rfl (lv_at hl 0 rfl) ?_
          refine va_get (D := D) (ci := 6) (v := .ref ta1) (C := RX6) (T := TX6) (N := 5) hx hb hts hinX6 hown hK hP 0 rfl rfl 1 (by decide) (hts (.fieldLink RX6 20 "TaleReader$ToldNames" "starts" "[I") (uc4 _ (List.mem_of_getElem? (i := 3) rfl))) (fun _ h9 => h9) rfl dX6_find_30 ?_
          refine lv_iload hx hb dX6_find_33 (lv_at hl 4 rfl) ?_
          refine va_iald (D := D) hx hb hK hP 1 1 rfl rfl (vp_in_nI (by omega) (by omega)) dX6_find_35 ?_
          refine lv_topi (fun z_7 ez_7 => ?_)
          obtain rfl : z_7 = nI X2 := ez_7.trans ((congrArg fd1 (nI_clamp (by omega))).trans eX)
          refine lv_iload_n hx hb dX6_find_36 rfl (lv_at hl 3 rfl) ?_
          have hPc := hP.sub (ws' := [(h1, .inr (5, [.ref a1, .int (nI k1)])), (a1, .inl (cB, n1, .inl f1)), (lt, .inr (5, [.ref la, .int (nI kl)])), (la, .inl (cB, 80, .inl fl))]) [5, 6, 3, 4] rfl
          have hDc := hD.sub (ws' := [(h1, .inr (5, [.ref a1, .int (nI k1)])), (a1, .inl (cB, n1, .inl f1)), (lt, .inr (5, [.ref la, .int (nI kl)])), (la, .inl (cB, 80, .inl fl))]) [5, 6, 3, 4] (by decide) rfl
          have hFc := va_free (wc := [(h1, .inr (5, [.ref a1, .int (nI k1)])), (a1, .inl (cB, n1, .inl f1)), (lt, .inr (5, [.ref la, .int (nI kl)])), (la, .inl (cB, 80, .inl fl))]) hD hS hA [5, 6, 3, 4] rfl
          refine va_calli (va_runV (As := [.int (nI X), .ref lt, .int (nI X2), .int (nI Y)]) (rest := []) ⟨hx, hb, hml, hown, hts⟩ (f_X5_sameAs l D cB cI cZ E H.size h1 X lt X2 Y a1 k1 n1 f1 la kl 80 fl tg tz (by first | assumption | omega) (by first | assumption | omega) (by first | assumption | omega) (by first | assumption | omega) (hT1) (hTz) (by first | assumption | omega) (by first | assumption | omega)) (cwV 4 hts (uV (uc16 _ (List.mem_of_getElem? (i := 16) rfl)) (uc15 _ (List.mem_of_getElem? (i := 6) rfl)) (uc15 _ (List.mem_of_getElem? (i := 7) rfl)) (uc1 _ (List.mem_of_getElem? (i := 14) rfl)) (uc15 _ (List.mem_of_getElem? (i := 8) rfl))) rfl rfl rfl (by decide +kernel) ⟨Nat.le_of_ble_eq_true rfl, Nat.le_of_ble_eq_true rfl⟩) (pVE hE hS hFc hK hPc hDc 0 rfl rfl) rfl rfl hl.1 rfl (lv_room (Nat.le_of_ble_eq_true rfl)) dX6_find_37 ⟨Nat.le_of_ble_eq_true rfl, Nat.le_of_ble_eq_true rfl⟩) hS (fun q _ h => hFc q h) hFc (fun r_8 u t H_9 L_10 ht hvm hw hB hz1 hk1 hS => ?_)
          obtain ⟨hP1, -, hD1⟩ := hB
          rw [ht] at hP1
          obtain ⟨hP, hD⟩ := va_join (wr := [(h0, .inr (6, [.ref lt, .ref ta1, .ref ta2, .ref ta3, .int (nI d)])), (ta1, .inl (cI, 8, .inl fd1)), (ta2, .inl (cI, 8, .inl fd2))]) (w1 := [(h1, .inr (5, [.ref a1, .int (nI k1)])), (a1, .inl (cB, n1, .inl f1)), (lt, .inr (5, [.ref la, .int (nI kl)])), (la, .inl (cB, 80, .inl fl))]) hP hD [5, 6, 3, 4] [0, 1, 2] rfl rfl (by decide) (by decide) hk1 hFc hP1 hD1
          have hP : va_P D vwCl [(h0, .inr (6, [.ref lt, .ref ta1, .ref ta2, .ref ta3, .int (nI d)])), (ta1, .inl (cI, 8, .inl fd1)), (ta2, .inl (cI, 8, .inl fd2)), (lt, .inr (5, [.ref la, .int (nI kl)])), (la, .inl (cB, 80, .inl fl)), (h1, .inr (5, [.ref a1, .int (nI k1)])), (a1, .inl (cB, n1, .inl f1))] H_9 := hP.sub [0, 1, 2, 5, 6, 3, 4] rfl
          have hD : va_D A [(h0, .inr (6, [.ref lt, .ref ta1, .ref ta2, .ref ta3, .int (nI d)])), (ta1, .inl (cI, 8, .inl fd1)), (ta2, .inl (cI, 8, .inl fd2)), (lt, .inr (5, [.ref la, .int (nI kl)])), (la, .inl (cB, 80, .inl fl)), (h1, .inr (5, [.ref a1, .int (nI k1)])), (a1, .inl (cB, n1, .inl f1))] := hD.sub [0, 1, 2, 5, 6, 3, 4] (by decide) rfl
          try dsimp only at hw
          rcases hw with ⟨rfl, h_11⟩ | ⟨rfl, h_12⟩
          · have hsm := h_11
            refine lv_if_eq (tgt := 46) hx hb dX6_find_40 (by decide) (fun c_13 => ?_) (fun c_13 => ?_)
            · exact False.elim (by revert c_13; decide)
            · refine lv_iload hx hb dX6_find_43 (lv_at hl 4 rfl) ?_
              have hP9 := hP.sub (ws' := [(h0, .inr (6, [.ref lt, .ref ta1, .ref ta2, .ref ta3, .int (nI d)])), (ta1, .inl (cI, 8, .inl fd1)), (ta2, .inl (cI, 8, .inl fd2)), (lt, .inr (5, [.ref la, .int (nI kl)])), (la, .inl (cB, 80, .inl fl)), (h1, .inr (5, [.ref a1, .int (nI k1)])), (a1, .inl (cB, n1, .inl f1))]) [0, 1, 2, 3, 4, 5, 6] rfl
              have hD9 := hD.sub (ws' := [(h0, .inr (6, [.ref lt, .ref ta1, .ref ta2, .ref ta3, .int (nI d)])), (ta1, .inl (cI, 8, .inl fd1)), (ta2, .inl (cI, 8, .inl fd2)), (lt, .inr (5, [.ref la, .int (nI kl)])), (la, .inl (cB, 80, .inl fl)), (h1, .inr (5, [.ref a1, .int (nI k1)])), (a1, .inl (cB, n1, .inl f1))]) [0, 1, 2, 3, 4, 5, 6] (by decide) rfl
              rw [← hQ]
              exact W.iret (v := nI i) hx hb hr (fun t ht hW => ⟨⟨nI i, (), rfl, Or.inr ((⟨i, hlt_i, rfl, ⟨heq, fun j hj => (hsm j hj).trans (hZ j (by omega))⟩, hn_⟩)), ⟨by rw [ht]; exact hP9, va_K.moved hW.alike hK, hD9⟩⟩, hS.F ht⟩) hS.2.2 dX6_find_45
          · have hsm := h_12
            have hq : ¬ qFd tg yl cc X Y i := fun q => hsm (fun j hj => (q.2 j hj).trans (hZ j (by omega)).symm)
            refine lv_if_eq (tgt := 46) hx hb dX6_find_40 (by decide) (fun c_14 => ?_) (fun c_14 => ?_)
            · refine lv_iinc (v := nI (i + 1)) (lv' := [(4, .int (nI (i + 1))), (0, .ref h0), (1, .ref h1), (2, .int (nI X)), (3, .int (nI Y))]) hx hb dX6_find_46 hl (k := 4) rfl (nI_add i 1) (by decide) rfl (fun ls hl => ?_)
              refine lv_goto (tgt := 3) hx hb dX6_find_49 (by decide) ?_
              exact ih_2 (i + 1) (qStep hn_ hq) (by first | assumption | exact Or.inl rfl | exact Or.inr rfl | omega) (by omega) H_9 _ ls (hP.sub (ws' := [(h0, .inr (6, [.ref lt, .ref ta1, .ref ta2, .ref ta3, .int (nI d)])), (ta1, .inl (cI, 8, .inl fd1)), (ta2, .inl (cI, 8, .inl fd2)), (lt, .inr (5, [.ref la, .int (nI kl)])), (la, .inl (cB, 80, .inl fl)), (h1, .inr (5, [.ref a1, .int (nI k1)])), (a1, .inl (cB, n1, .inl f1))]) [0, 1, 2, 3, 4, 5, 6] rfl) (hD.sub (ws' := [(h0, .inr (6, [.ref lt, .ref ta1, .ref ta2, .ref ta3, .int (nI d)])), (ta1, .inl (cI, 8, .inl fd1)), (ta2, .inl (cI, 8, .inl fd2)), (lt, .inr (5, [.ref la, .int (nI kl)])), (la, .inl (cB, 80, .inl fl)), (h1, .inr (5, [.ref a1, .int (nI k1)])), (a1, .inl (cB, n1, .inl f1))]) [0, 1, 2, 3, 4, 5, 6] (by decide) rfl) hS (lv_sub hl [1, 2, 3, 4, 0] rfl)
            · exact False.elim (by revert c_14; decide)
  exact loop_1 _ 0 (qNil) (by first | assumption | exact Or.inl rfl | exact Or.inr rfl | omega) (Nat.lt_succ_self _) s.heap _ ls (hP.sub (ws' := [(h0, .inr (6, [.ref lt, .ref ta1, .ref ta2, .ref ta3, .int (nI d)])), (ta1, .inl (cI, 8, .inl fd1)), (ta2, .inl (cI, 8, .inl fd2)), (lt, .inr (5, [.ref la, .int (nI kl)])), (la, .inl (cB, 80, .inl fl)), (h1, .inr (5, [.ref a1, .int (nI k1)])), (a1, .inl (cB, n1, .inl f1))]) [0, 1, 2, 3, 4, 5, 6] rfl) (hD.sub (ws' := [(h0, .inr (6, [.ref lt, .ref ta1, .ref ta2, .ref ta3, .int (nI d)])), (ta1, .inl (cI, 8, .inl fd1)), (ta2, .inl (cI, 8, .inl fd2)), (lt, .inr (5, [.ref la, .int (nI kl)])), (la, .inl (cB, 80, .inl fl)), (h1, .inr (5, [.ref a1, .int (nI k1)])), (a1, .inl (cB, n1, .inl f1))]) [0, 1, 2, 3, 4, 5, 6] (by decide) rfl) hS (lv_sub hl [1, 2, 3, 4, 0] rfl)
set_option maxHeartbeats 4000000 in
set_option maxRecDepth 100000 in
theorem f_X6_append (l : Launch) (D : va_G) (cB cI cZ : ClassId) (E : pEt) (sz : Nat) (h0 : Nat) (h1 : Nat) (lt : Nat) (ta1 : Nat) (ta2 : Nat) (ta3 : Nat) (d : Nat) (fd1 : Nat → Int32) (fd2 : Nat → Int32) (la : Nat) (kl : Nat) (fl : Nat → Int32) (a1 : Nat) (k1 : Nat) (n1 : Nat) (f1 : Nat → Int32) (tg : Nat → Nat) (hd : d ≤ 8) (hkl : kl ≤ 80) (hk1 : k1 ≤ n1) (hn1 : n1 ≤ 600) (hd7 : d ≤ 7) (hkk : kl + k1 ≤ 80) (hT1 : qT k1 f1 tg) : Met l yX6_append (.code yX6_append cX6_append 3 (some .int) :: wsL_law) ({ frames := 3, cells := 0, slots := 0, locals := 65 } : Room) (va_Pc [.ref h0, .ref h1] (pInE E D (pT cB cI cZ) sz [(h0, .inr (6, [.ref lt, .ref ta1, .ref ta2, .ref ta3, .int (nI d)])), (ta1, .inl (cI, 8, .inl fd1)), (ta2, .inl (cI, 8, .inl fd2)), (lt, .inr (5, [.ref la, .int (nI kl)])), (la, .inl (cB, 80, .inl fl)), (h1, .inr (5, [.ref a1, .int (nI k1)])), (a1, .inl (cB, n1, .inl f1))])) (va_Qi (fun (r : Int32) (u : Nat × (Nat → Int32) × (Nat → Int32) × Nat × (Nat → Int32)) => ((nI d) = r) ∧ (d + 1 = u.1) ∧ (upd fd1 d (nI kl) = u.2.1) ∧ (upd fd2 d (nI k1) = u.2.2.1) ∧ (kl + k1 = u.2.2.2.1) ∧ (∀ j, j < kl → u.2.2.2.2 j = fl j) ∧ (∀ j, j < k1 → u.2.2.2.2 (kl + j) = sb_b (tg j))) (fun (u : Nat × (Nat → Int32) × (Nat → Int32) × Nat × (Nat → Int32)) (t : State) => pAt D (pT cB cI cZ) (va_A [(h0, .inr (6, [.ref lt, .ref ta1, .ref ta2, .ref ta3, .int (nI d)])), (ta1, .inl (cI, 8, .inl fd1)), (ta2, .inl (cI, 8, .inl fd2)), (lt, .inr (5, [.ref la, .int (nI kl)])), (la, .inl (cB, 80, .inl fl)), (h1, .inr (5, [.ref a1, .int (nI k1)])), (a1, .inl (cB, n1, .inl f1))] sz) [(h0, .inr (6, [.ref lt, .ref ta1, .ref ta2, .ref ta3, .int (nI u.1)])), (ta1, .inl (cI, 8, .inl u.2.1)), (ta2, .inl (cI, 8, .inl u.2.2.1)), (lt, .inr (5, [.ref la, .int (nI u.2.2.2.1)])), (la, .inl (cB, 80, .inl u.2.2.2.2)), (h1, .inr (5, [.ref a1, .int (nI k1)])), (a1, .inl (cB, n1, .inl f1))] t) (va_A [(h0, .inr (6, [.ref lt, .ref ta1, .ref ta2, .ref ta3, .int (nI d)])), (ta1, .inl (cI, 8, .inl fd1)), (ta2, .inl (cI, 8, .inl fd2)), (lt, .inr (5, [.ref la, .int (nI kl)])), (la, .inl (cB, 80, .inl fl)), (h1, .inr (5, [.ref a1, .int (nI k1)])), (a1, .inl (cB, n1, .inl f1))] sz)) 0 0 (va_A [(h0, .inr (6, [.ref lt, .ref ta1, .ref ta2, .ref ta3, .int (nI d)])), (ta1, .inl (cI, 8, .inl fd1)), (ta2, .inl (cI, 8, .inl fd2)), (lt, .inr (5, [.ref la, .int (nI kl)])), (la, .inl (cB, 80, .inl fl)), (h1, .inr (5, [.ref a1, .int (nI k1)])), (a1, .inl (cB, n1, .inl f1))] sz) := by
  refine Met.ofW (cc := cX6_append) (maxL := 3) (ret := (some .int)) (by decide) rfl ?_
  intro p e s m args below meth cd s₁ B hml hv
  obtain ⟨rfl, hsz, hP, hK, hD0, hE⟩ := hv
  have hx := B.exec
  have hb := B.bytes
  have hr := B.returns
  have hts0 := atoms_spec (ws := .code yX6_append cX6_append 3 (some .int) :: wsL_law) B.pre
  have hts := fun (w : Cond) (h : w ∈ wsL_law) => hts0 w (List.mem_cons_of_mem _ h)
  have hown : s.vm.findClass RX6 = some m.cls := findClass_of_methodNamed B.named
  have hlocks := B.notSynchronized
  have hinX6 := inlX6
  subst hsz
  have hD := hD0.self (sz := s.heap.size)
  generalize hAe : va_A [(h0, .inr (6, [.ref lt, .ref ta1, .ref ta2, .ref ta3, .int (nI d)])), (ta1, .inl (cI, 8, .inl fd1)), (ta2, .inl (cI, 8, .inl fd2)), (lt, .inr (5, [.ref la, .int (nI kl)])), (la, .inl (cB, 80, .inl fl)), (h1, .inr (5, [.ref a1, .int (nI k1)])), (a1, .inl (cB, n1, .inl f1))] s.heap.size = A at hD hE ⊢
  have hA : ∀ q : Nat, s.heap.size ≤ q → A q := fun q h => by rw [← hAe]; exact Or.inr h
  have hS : va_S A s.heap s.heap [] := va_S.rf
  have hP : va_P D vwCl [(h0, .inr (6, [.ref lt, .ref ta1, .ref ta2, .ref ta3, .int (nI d)])), (ta1, .inl (cI, 8, .inl fd1)), (ta2, .inl (cI, 8, .inl fd2)), (lt, .inr (5, [.ref la, .int (nI kl)])), (la, .inl (cB, 80, .inl fl)), (h1, .inr (5, [.ref a1, .int (nI k1)])), (a1, .inl (cB, n1, .inl f1))] s.heap := hP
  have hl := lv_entry ([.ref h0, .ref h1]) (n := 3) (Nat.le_of_ble_eq_true rfl)
  rw [lg_entry_eq]
  generalize (lg_sl ([.ref h0, .ref h1]) ++ List.replicate (3 - (lg_sl ([.ref h0, .ref h1])).length) Slot.unset).toArray = ls at hl ⊢
  have hl : lv_has ls 3 [(0, .ref h0), (1, .ref h1)] := hl
  refine lv_aload_n hx hb dX6_append_0 rfl (lv_at hl 0 rfl) ?_
  refine va_get (D := D) (ci := 6) (v := .int (nI d)) (C := RX6) (T := TX6) (N := 5) hx hb hts hinX6 hown hK hP 0 rfl rfl 4 (by decide) (hts (.fieldLink RX6 30 "TaleReader$ToldNames" "count" "I") (uc4 _ (List.mem_of_getElem? (i := 6) rfl))) (fun _ h9 => h9) rfl dX6_append_1 ?_
  refine lv_bipush (v := 7) hx hb dX6_append_4 (by decide) ?_
  refine va_mmin hx hb (by rw [hml]; exact hl.1.symm) hown (hts (.methodLink RX6 57 Lib.Math.min.name) (uc31 _ (List.mem_of_getElem? (i := 21) rfl))) (hts (.static Lib.Math.min.name) (uc23 _ (List.mem_of_getElem? (i := 8) rfl))) (hts (.initialized "java/lang/Math") (uc3 _ (List.mem_of_getElem? (i := 2) rfl))) (hts (.code Lib.Math.min.name Lib.Math.min.code 2 (some .int)) (uc23 _ (List.mem_of_getElem? (i := 9) rfl))) (Nat.le_of_ble_eq_true rfl) (Nat.le_of_ble_eq_true rfl) (Nat.le_of_ble_eq_true rfl) (Nat.le_of_ble_eq_true rfl) dX6_append_6 ?_
  refine lv_topi (fun z_1 ez_1 => ?_)
  obtain rfl : z_1 = nI d := ez_1.trans (qMin7 hd7)
  refine lv_istore_n (lv' := [(2, .int (nI d)), (0, .ref h0), (1, .ref h1)]) hx hb dX6_append_9 rfl hl (by decide) rfl (fun ls hl => ?_)
  refine lv_aload_n hx hb dX6_append_10 rfl (lv_at hl 1 rfl) ?_
  refine va_get (D := D) (ci := 6) (v := .ref ta1) (C := RX6) (T := TX6) (N := 5) hx hb hts hinX6 hown hK hP 0 rfl rfl 1 (by decide) (hts (.fieldLink RX6 20 "TaleReader$ToldNames" "starts" "[I") (uc4 _ (List.mem_of_getElem? (i := 3) rfl))) (fun _ h9 => h9) rfl dX6_append_11 ?_
  refine lv_iload_n hx hb dX6_append_14 rfl (lv_at hl 0 rfl) ?_
  refine lv_aload_n hx hb dX6_append_15 rfl (lv_at hl 1 rfl) ?_
  refine va_get (D := D) (ci := 6) (v := .ref lt) (C := RX6) (T := TX6) (N := 5) hx hb hts hinX6 hown hK hP 0 rfl rfl 0 (by decide) (hts (.fieldLink RX6 14 "TaleReader$ToldNames" "letters" "LTaleReader$Text;") (uc4 _ (List.mem_of_getElem? (i := 2) rfl))) (fun _ h9 => h9) rfl dX6_append_16 ?_
  have hPc := hP.sub (ws' := [(lt, .inr (5, [.ref la, .int (nI kl)]))]) [3] rfl
  have hDc := hD.sub (ws' := [(lt, .inr (5, [.ref la, .int (nI kl)]))]) [3] (by decide) rfl
  have hFc := va_free (wc := [(lt, .inr (5, [.ref la, .int (nI kl)]))]) hD hS hA [3] rfl
  refine va_calli (va_runV (As := []) (rest := [.int (nI d), .ref ta1]) ⟨hx, hb, hml, hown, hts⟩ (s_X5_size l D cB cI cZ E s.heap.size lt la (nI kl)) (cwV 0 hts (uV (uc31 _ (List.mem_of_getElem? (i := 13) rfl)) (uc7 _ (List.mem_of_getElem? (i := 22) rfl)) (uc7 _ (List.mem_of_getElem? (i := 23) rfl)) (uc1 _ (List.mem_of_getElem? (i := 14) rfl)) (uc8 _ (List.mem_of_getElem? (i := 0) rfl))) rfl rfl rfl (by decide +kernel) ⟨Nat.le_of_ble_eq_true rfl, Nat.le_of_ble_eq_true rfl⟩) (pVE hE hS hFc hK hPc hDc 0 rfl rfl) rfl rfl hl.1 rfl (lv_room (Nat.le_of_ble_eq_true rfl)) dX6_append_19 ⟨Nat.le_of_ble_eq_true rfl, Nat.le_of_ble_eq_true rfl⟩) hS (fun q _ h => hFc q h) hFc (fun r_2 u t H_3 L_4 ht hvm hw hB hz1 hk1 hS => ?_)
  obtain ⟨hP1, -, hD1⟩ := hB
  rw [ht] at hP1
  obtain ⟨hP, hD⟩ := va_join (wr := [(h0, .inr (6, [.ref lt, .ref ta1, .ref ta2, .ref ta3, .int (nI d)])), (ta1, .inl (cI, 8, .inl fd1)), (ta2, .inl (cI, 8, .inl fd2)), (la, .inl (cB, 80, .inl fl)), (h1, .inr (5, [.ref a1, .int (nI k1)])), (a1, .inl (cB, n1, .inl f1))]) (w1 := [(lt, .inr (5, [.ref la, .int (nI kl)]))]) hP hD [3] [0, 1, 2, 4, 5, 6] rfl rfl (by decide) (by decide) hk1 hFc hP1 hD1
  have hP : va_P D vwCl [(h0, .inr (6, [.ref lt, .ref ta1, .ref ta2, .ref ta3, .int (nI d)])), (ta1, .inl (cI, 8, .inl fd1)), (ta2, .inl (cI, 8, .inl fd2)), (lt, .inr (5, [.ref la, .int (nI kl)])), (la, .inl (cB, 80, .inl fl)), (h1, .inr (5, [.ref a1, .int (nI k1)])), (a1, .inl (cB, n1, .inl f1))] H_3 := hP.sub [0, 1, 2, 6, 3, 4, 5] rfl
  have hD : va_D A [(h0, .inr (6, [.ref lt, .ref ta1, .ref ta2, .ref ta3, .int (nI d)])), (ta1, .inl (cI, 8, .inl fd1)), (ta2, .inl (cI, 8, .inl fd2)), (lt, .inr (5, [.ref la, .int (nI kl)])), (la, .inl (cB, 80, .inl fl)), (h1, .inr (5, [.ref a1, .int (nI k1)])), (a1, .inl (cB, n1, .inl f1))] := hD.sub [0, 1, 2, 6, 3, 4, 5] (by decide) rfl
  try dsimp only at hw
  subst hw
  refine va_iast (D := D) hx hb hK hP hD hS 1 1 rfl rfl (vp_in_nI (by omega) (by omega)) dX6_append_22 (fun H_5 L_6 hP hD hS => ?_)
  obtain ⟨g_7, eg_7⟩ : ∃ gg : Nat → Int32, gg = upd fd1 ((nI d)).toNatClampNeg (nI kl) := ⟨_, rfl⟩
  have hP : va_P D vwCl [(h0, .inr (6, [.ref lt, .ref ta1, .ref ta2, .ref ta3, .int (nI d)])), (ta1, .inl (cI, 8, .inl g_7)), (ta2, .inl (cI, 8, .inl fd2)), (lt, .inr (5, [.ref la, .int (nI kl)])), (la, .inl (cB, 80, .inl fl)), (h1, .inr (5, [.ref a1, .int (nI k1)])), (a1, .inl (cB, n1, .inl f1))] H_5 := by rw [eg_7]; exact hP
  have hD : va_D A [(h0, .inr (6, [.ref lt, .ref ta1, .ref ta2, .ref ta3, .int (nI d)])), (ta1, .inl (cI, 8, .inl g_7)), (ta2, .inl (cI, 8, .inl fd2)), (lt, .inr (5, [.ref la, .int (nI kl)])), (la, .inl (cB, 80, .inl fl)), (h1, .inr (5, [.ref a1, .int (nI k1)])), (a1, .inl (cB, n1, .inl f1))] := by rw [eg_7]; exact hD
  obtain rfl : g_7 = upd fd1 d (nI kl) := eg_7.trans (by rw [nI_clamp (by omega)])
  refine lv_aload_n hx hb dX6_append_23 rfl (lv_at hl 1 rfl) ?_
  refine va_get (D := D) (ci := 6) (v := .ref ta2) (C := RX6) (T := TX6) (N := 5) hx hb hts hinX6 hown hK hP 0 rfl rfl 2 (by decide) (hts (.fieldLink RX6 24 "TaleReader$ToldNames" "lengths" "[I") (uc4 _ (List.mem_of_getElem? (i := 4) rfl))) (fun _ h9 => h9) rfl dX6_append_24 ?_
  refine lv_iload_n hx hb dX6_append_27 rfl (lv_at hl 0 rfl) ?_
  refine lv_aload_n hx hb dX6_append_28 rfl (lv_at hl 2 rfl) ?_
  have hPc := hP.sub (ws' := [(h1, .inr (5, [.ref a1, .int (nI k1)]))]) [5] rfl
  have hDc := hD.sub (ws' := [(h1, .inr (5, [.ref a1, .int (nI k1)]))]) [5] (by decide) rfl
  have hFc := va_free (wc := [(h1, .inr (5, [.ref a1, .int (nI k1)]))]) hD hS hA [5] rfl
  refine va_calli (va_runV (As := []) (rest := [.int (nI d), .ref ta2]) ⟨hx, hb, hml, hown, hts⟩ (s_X5_size l D cB cI cZ E H_5.size h1 a1 (nI k1)) (cwV 0 hts (uV (uc31 _ (List.mem_of_getElem? (i := 13) rfl)) (uc7 _ (List.mem_of_getElem? (i := 22) rfl)) (uc7 _ (List.mem_of_getElem? (i := 23) rfl)) (uc1 _ (List.mem_of_getElem? (i := 14) rfl)) (uc8 _ (List.mem_of_getElem? (i := 0) rfl))) rfl rfl rfl (by decide +kernel) ⟨Nat.le_of_ble_eq_true rfl, Nat.le_of_ble_eq_true rfl⟩) (pVE hE hS hFc hK hPc hDc 0 rfl rfl) rfl rfl hl.1 rfl (lv_room (Nat.le_of_ble_eq_true rfl)) dX6_append_29 ⟨Nat.le_of_ble_eq_true rfl, Nat.le_of_ble_eq_true rfl⟩) hS (fun q _ h => hFc q h) hFc (fun r_8 u t H_9 L_10 ht hvm hw hB hz1 hk1 hS => ?_)
  obtain ⟨hP1, -, hD1⟩ := hB
  rw [ht] at hP1
  obtain ⟨hP, hD⟩ := va_join (wr := [(h0, .inr (6, [.ref lt, .ref ta1, .ref ta2, .ref ta3, .int (nI d)])), (ta1, .inl (cI, 8, .inl (upd fd1 d (nI kl)))), (ta2, .inl (cI, 8, .inl fd2)), (lt, .inr (5, [.ref la, .int (nI kl)])), (la, .inl (cB, 80, .inl fl)), (a1, .inl (cB, n1, .inl f1))]) (w1 := [(h1, .inr (5, [.ref a1, .int (nI k1)]))]) hP hD [5] [0, 1, 2, 3, 4, 6] rfl rfl (by decide) (by decide) hk1 hFc hP1 hD1
  have hP : va_P D vwCl [(h0, .inr (6, [.ref lt, .ref ta1, .ref ta2, .ref ta3, .int (nI d)])), (ta1, .inl (cI, 8, .inl (upd fd1 d (nI kl)))), (ta2, .inl (cI, 8, .inl fd2)), (lt, .inr (5, [.ref la, .int (nI kl)])), (la, .inl (cB, 80, .inl fl)), (h1, .inr (5, [.ref a1, .int (nI k1)])), (a1, .inl (cB, n1, .inl f1))] H_9 := hP.sub [0, 1, 2, 3, 4, 6, 5] rfl
  have hD : va_D A [(h0, .inr (6, [.ref lt, .ref ta1, .ref ta2, .ref ta3, .int (nI d)])), (ta1, .inl (cI, 8, .inl (upd fd1 d (nI kl)))), (ta2, .inl (cI, 8, .inl fd2)), (lt, .inr (5, [.ref la, .int (nI kl)])), (la, .inl (cB, 80, .inl fl)), (h1, .inr (5, [.ref a1, .int (nI k1)])), (a1, .inl (cB, n1, .inl f1))] := hD.sub [0, 1, 2, 3, 4, 6, 5] (by decide) rfl
  try dsimp only at hw
  subst hw
  refine va_iast (D := D) hx hb hK hP hD hS 2 1 rfl rfl (vp_in_nI (by omega) (by omega)) dX6_append_32 (fun H_11 L_12 hP hD hS => ?_)
  obtain ⟨g_13, eg_13⟩ : ∃ gg : Nat → Int32, gg = upd fd2 ((nI d)).toNatClampNeg (nI k1) := ⟨_, rfl⟩
  have hP : va_P D vwCl [(h0, .inr (6, [.ref lt, .ref ta1, .ref ta2, .ref ta3, .int (nI d)])), (ta1, .inl (cI, 8, .inl (upd fd1 d (nI kl)))), (ta2, .inl (cI, 8, .inl g_13)), (lt, .inr (5, [.ref la, .int (nI kl)])), (la, .inl (cB, 80, .inl fl)), (h1, .inr (5, [.ref a1, .int (nI k1)])), (a1, .inl (cB, n1, .inl f1))] H_11 := by rw [eg_13]; exact hP
  have hD : va_D A [(h0, .inr (6, [.ref lt, .ref ta1, .ref ta2, .ref ta3, .int (nI d)])), (ta1, .inl (cI, 8, .inl (upd fd1 d (nI kl)))), (ta2, .inl (cI, 8, .inl g_13)), (lt, .inr (5, [.ref la, .int (nI kl)])), (la, .inl (cB, 80, .inl fl)), (h1, .inr (5, [.ref a1, .int (nI k1)])), (a1, .inl (cB, n1, .inl f1))] := by rw [eg_13]; exact hD
  obtain rfl : g_13 = upd fd2 d (nI k1) := eg_13.trans (by rw [nI_clamp (by omega)])
  refine lv_aload_n hx hb dX6_append_33 rfl (lv_at hl 1 rfl) ?_
  refine va_get (D := D) (ci := 6) (v := .ref lt) (C := RX6) (T := TX6) (N := 5) hx hb hts hinX6 hown hK hP 0 rfl rfl 0 (by decide) (hts (.fieldLink RX6 14 "TaleReader$ToldNames" "letters" "LTaleReader$Text;") (uc4 _ (List.mem_of_getElem? (i := 2) rfl))) (fun _ h9 => h9) rfl dX6_append_34 ?_
  refine lv_aload_n hx hb dX6_append_37 rfl (lv_at hl 2 rfl) ?_
  have hPc := hP.sub (ws' := [(lt, .inr (5, [.ref la, .int (nI kl)])), (la, .inl (cB, 80, .inl fl)), (h1, .inr (5, [.ref a1, .int (nI k1)])), (a1, .inl (cB, n1, .inl f1))]) [3, 4, 5, 6] rfl
  have hDc := hD.sub (ws' := [(lt, .inr (5, [.ref la, .int (nI kl)])), (la, .inl (cB, 80, .inl fl)), (h1, .inr (5, [.ref a1, .int (nI k1)])), (a1, .inl (cB, n1, .inl f1))]) [3, 4, 5, 6] (by decide) rfl
  have hFc := va_free (wc := [(lt, .inr (5, [.ref la, .int (nI kl)])), (la, .inl (cB, 80, .inl fl)), (h1, .inr (5, [.ref a1, .int (nI k1)])), (a1, .inl (cB, n1, .inl f1))]) hD hS hA [3, 4, 5, 6] rfl
  refine va_callv (va_runV (As := [.ref h1]) (rest := []) ⟨hx, hb, hml, hown, hts⟩ (f_X5_addAll l D cB cI cZ E H_11.size lt h1 la kl 80 fl a1 k1 n1 f1 tg (by first | assumption | omega) (by first | assumption | omega) (by first | assumption | omega) (by first | assumption | omega) (by first | assumption | omega)) (cwV 1 hts (uV (uc31 _ (List.mem_of_getElem? (i := 22) rfl)) (uc9 _ (List.mem_of_getElem? (i := 18) rfl)) (uc9 _ (List.mem_of_getElem? (i := 19) rfl)) (uc1 _ (List.mem_of_getElem? (i := 14) rfl)) (uc9 _ (List.mem_of_getElem? (i := 20) rfl))) rfl rfl rfl (by decide +kernel) ⟨Nat.le_of_ble_eq_true rfl, Nat.le_of_ble_eq_true rfl⟩) (pVE hE hS hFc hK hPc hDc 0 rfl rfl) rfl rfl hl.1 rfl (lv_room (Nat.le_of_ble_eq_true rfl)) dX6_append_38 ⟨Nat.le_of_ble_eq_true rfl, Nat.le_of_ble_eq_true rfl⟩) hS (fun q _ h => hFc q h) hFc (fun u t H_15 L_16 ht hvm hw hB hz1 hk1 hS => ?_)
  obtain ⟨k_17, f_18⟩ := u
  obtain ⟨hP1, -, hD1⟩ := hB
  rw [ht] at hP1
  obtain ⟨hP, hD⟩ := va_join (wr := [(h0, .inr (6, [.ref lt, .ref ta1, .ref ta2, .ref ta3, .int (nI d)])), (ta1, .inl (cI, 8, .inl (upd fd1 d (nI kl)))), (ta2, .inl (cI, 8, .inl (upd fd2 d (nI k1))))]) (w1 := [(lt, .inr (5, [.ref la, .int (nI k_17)])), (la, .inl (cB, 80, .inl f_18)), (h1, .inr (5, [.ref a1, .int (nI k1)])), (a1, .inl (cB, n1, .inl f1))]) hP hD [3, 4, 5, 6] [0, 1, 2] rfl rfl (by decide) (by decide) hk1 hFc hP1 hD1
  have hP : va_P D vwCl [(h0, .inr (6, [.ref lt, .ref ta1, .ref ta2, .ref ta3, .int (nI d)])), (ta1, .inl (cI, 8, .inl (upd fd1 d (nI kl)))), (ta2, .inl (cI, 8, .inl (upd fd2 d (nI k1)))), (lt, .inr (5, [.ref la, .int (nI k_17)])), (la, .inl (cB, 80, .inl f_18)), (h1, .inr (5, [.ref a1, .int (nI k1)])), (a1, .inl (cB, n1, .inl f1))] H_15 := hP.sub [0, 1, 2, 3, 4, 5, 6] rfl
  have hD : va_D A [(h0, .inr (6, [.ref lt, .ref ta1, .ref ta2, .ref ta3, .int (nI d)])), (ta1, .inl (cI, 8, .inl (upd fd1 d (nI kl)))), (ta2, .inl (cI, 8, .inl (upd fd2 d (nI k1)))), (lt, .inr (5, [.ref la, .int (nI k_17)])), (la, .inl (cB, 80, .inl f_18)), (h1, .inr (5, [.ref a1, .int (nI k1)])), (a1, .inl (cB, n1, .inl f1))] := hD.sub [0, 1, 2, 3, 4, 5, 6] (by decide) rfl
  try dsimp only at hw
  obtain ⟨rfl, h_19, h_20⟩ := hw
  have hA1 := h_19
  have hA2 := h_20
  refine lv_aload_n hx hb dX6_append_41 rfl (lv_at hl 1 rfl) ?_
  refine lv_iload_n hx hb dX6_append_42 rfl (lv_at hl 0 rfl) ?_
  refine lv_iconst (v := 1) hx hb dX6_append_43 (by decide) ?_
  refine lv_iadd hx hb dX6_append_44 ?_
  refine lv_topi (fun z_21 ez_21 => ?_)
  obtain rfl : z_21 = nI (d + 1) := ez_21.trans (nI_add d 1)
  refine va_put (D := D) (ci := 6) (v := .int (nI (d + 1))) (ty := .int) (C := RX6) (T := TX6) (N := 5) hx hb hts hinX6 tyX6 tyX6_ok nmX6 hown hK hP hD hS 0 rfl rfl 4 (by decide) (hts (.fieldLink RX6 30 "TaleReader$ToldNames" "count" "I") (uc4 _ (List.mem_of_getElem? (i := 6) rfl))) (fun _ h9 => h9) rfl (by decide +kernel) rfl rfl (Nat.le_of_ble_eq_true rfl) dX6_append_45 (fun H_22 L_23 hP hD hS => ?_)
  have hP : va_P D vwCl [(h0, .inr (6, [.ref lt, .ref ta1, .ref ta2, .ref ta3, .int (nI (d + 1))])), (ta1, .inl (cI, 8, .inl (upd fd1 d (nI kl)))), (ta2, .inl (cI, 8, .inl (upd fd2 d (nI k1)))), (lt, .inr (5, [.ref la, .int (nI (kl + k1))])), (la, .inl (cB, 80, .inl f_18)), (h1, .inr (5, [.ref a1, .int (nI k1)])), (a1, .inl (cB, n1, .inl f1))] H_22 := hP
  have hD : va_D A [(h0, .inr (6, [.ref lt, .ref ta1, .ref ta2, .ref ta3, .int (nI (d + 1))])), (ta1, .inl (cI, 8, .inl (upd fd1 d (nI kl)))), (ta2, .inl (cI, 8, .inl (upd fd2 d (nI k1)))), (lt, .inr (5, [.ref la, .int (nI (kl + k1))])), (la, .inl (cB, 80, .inl f_18)), (h1, .inr (5, [.ref a1, .int (nI k1)])), (a1, .inl (cB, n1, .inl f1))] := hD
  refine lv_iload_n hx hb dX6_append_48 rfl (lv_at hl 0 rfl) ?_
  have hP9 := hP.sub (ws' := [(h0, .inr (6, [.ref lt, .ref ta1, .ref ta2, .ref ta3, .int (nI (d + 1))])), (ta1, .inl (cI, 8, .inl (upd fd1 d (nI kl)))), (ta2, .inl (cI, 8, .inl (upd fd2 d (nI k1)))), (lt, .inr (5, [.ref la, .int (nI (kl + k1))])), (la, .inl (cB, 80, .inl f_18)), (h1, .inr (5, [.ref a1, .int (nI k1)])), (a1, .inl (cB, n1, .inl f1))]) [0, 1, 2, 3, 4, 5, 6] rfl
  have hD9 := hD.sub (ws' := [(h0, .inr (6, [.ref lt, .ref ta1, .ref ta2, .ref ta3, .int (nI (d + 1))])), (ta1, .inl (cI, 8, .inl (upd fd1 d (nI kl)))), (ta2, .inl (cI, 8, .inl (upd fd2 d (nI k1)))), (lt, .inr (5, [.ref la, .int (nI (kl + k1))])), (la, .inl (cB, 80, .inl f_18)), (h1, .inr (5, [.ref a1, .int (nI k1)])), (a1, .inl (cB, n1, .inl f1))]) [0, 1, 2, 3, 4, 5, 6] (by decide) rfl
  exact W.iret (v := nI d) hx hb hr (fun t ht hW => ⟨⟨nI d, (d + 1, upd fd1 d (nI kl), upd fd2 d (nI k1), kl + k1, f_18), rfl, ⟨rfl, rfl, rfl, rfl, rfl, hA1, hA2⟩, ⟨by rw [ht]; exact hP9, va_K.moved hW.alike hK, hD9⟩⟩, hS.F ht⟩) hS.2.2 dX6_append_49
set_option maxHeartbeats 4000000 in
set_option maxRecDepth 100000 in
theorem f_X6_take (l : Launch) (D : va_G) (cB cI cZ : ClassId) (E : pEt) (sz : Nat) (h0 : Nat) (h1 : Nat) (x : Int32) (lt : Nat) (ta1 : Nat) (ta2 : Nat) (ta3 : Nat) (d : Nat) (fd1 : Nat → Int32) (fd2 : Nat → Int32) (la : Nat) (kl : Nat) (fl : Nat → Int32) (fd3 : Nat → Int32) (a1 : Nat) (k1 : Nat) (n1 : Nat) (f1 : Nat → Int32) (tg : Nat → Nat) (yl : Nat → Nat) (cc : Nat → Nat → Nat) (hd : d ≤ 8) (hkl : kl ≤ 80) (hk1 : k1 ≤ n1) (hn1 : n1 ≤ 600) (hT1 : qT k1 f1 tg) (hC : qC d kl fd1 fd2 fl yl cc) : Met l yX6_take (.code yX6_take cX6_take 6 (some .boolean) :: wsL_law) ({ frames := 7, cells := 0, slots := 0, locals := 158 } : Room) (va_Pc [.ref h0, .ref h1, .int x] (pInE E D (pT cB cI cZ) sz [(h0, .inr (6, [.ref lt, .ref ta1, .ref ta2, .ref ta3, .int (nI d)])), (ta1, .inl (cI, 8, .inl fd1)), (ta2, .inl (cI, 8, .inl fd2)), (lt, .inr (5, [.ref la, .int (nI kl)])), (la, .inl (cB, 80, .inl fl)), (ta3, .inl (cI, 8, .inl fd3)), (h1, .inr (5, [.ref a1, .int (nI k1)])), (a1, .inl (cB, n1, .inl f1))])) (va_Qi (fun (r : Int32) (u : Nat × (Nat → Int32) × (Nat → Int32) × (Nat → Int32) × Nat × (Nat → Int32)) => ((0 = r) ∧ (d = u.1) ∧ (u.2.2.2.2.1 ≤ 80) ∧ (¬ qAcc tg k1 x d yl cc) ∧ (qC u.1 u.2.2.2.2.1 u.2.1 u.2.2.1 u.2.2.2.2.2 yl cc)) ∨ ((1 = r) ∧ (d = u.1) ∧ (u.2.2.2.2.1 ≤ 80) ∧ (qAcc tg k1 x d yl cc) ∧ ((∃ j : Nat, j < d ∧ qFd tg yl cc 0 k1 j)) ∧ (qC u.1 u.2.2.2.2.1 u.2.1 u.2.2.1 u.2.2.2.2.2 yl cc)) ∨ ((1 = r) ∧ (d + 1 = u.1) ∧ (u.2.2.2.2.1 ≤ 80) ∧ (qAcc tg k1 x d yl cc) ∧ (¬ (∃ j : Nat, j < d ∧ qFd tg yl cc 0 k1 j)) ∧ (d < 8) ∧ (qC u.1 u.2.2.2.2.1 u.2.1 u.2.2.1 u.2.2.2.2.2 (va_up yl d k1) (va_up cc d tg)))) (fun (u : Nat × (Nat → Int32) × (Nat → Int32) × (Nat → Int32) × Nat × (Nat → Int32)) (t : State) => pAt D (pT cB cI cZ) (va_A [(h0, .inr (6, [.ref lt, .ref ta1, .ref ta2, .ref ta3, .int (nI d)])), (ta1, .inl (cI, 8, .inl fd1)), (ta2, .inl (cI, 8, .inl fd2)), (lt, .inr (5, [.ref la, .int (nI kl)])), (la, .inl (cB, 80, .inl fl)), (ta3, .inl (cI, 8, .inl fd3)), (h1, .inr (5, [.ref a1, .int (nI k1)])), (a1, .inl (cB, n1, .inl f1))] sz) [(h0, .inr (6, [.ref lt, .ref ta1, .ref ta2, .ref ta3, .int (nI u.1)])), (ta1, .inl (cI, 8, .inl u.2.1)), (ta2, .inl (cI, 8, .inl u.2.2.1)), (lt, .inr (5, [.ref la, .int (nI u.2.2.2.2.1)])), (la, .inl (cB, 80, .inl u.2.2.2.2.2)), (ta3, .inl (cI, 8, .inl u.2.2.2.1)), (h1, .inr (5, [.ref a1, .int (nI k1)])), (a1, .inl (cB, n1, .inl f1))] t) (va_A [(h0, .inr (6, [.ref lt, .ref ta1, .ref ta2, .ref ta3, .int (nI d)])), (ta1, .inl (cI, 8, .inl fd1)), (ta2, .inl (cI, 8, .inl fd2)), (lt, .inr (5, [.ref la, .int (nI kl)])), (la, .inl (cB, 80, .inl fl)), (ta3, .inl (cI, 8, .inl fd3)), (h1, .inr (5, [.ref a1, .int (nI k1)])), (a1, .inl (cB, n1, .inl f1))] sz)) 0 0 (va_A [(h0, .inr (6, [.ref lt, .ref ta1, .ref ta2, .ref ta3, .int (nI d)])), (ta1, .inl (cI, 8, .inl fd1)), (ta2, .inl (cI, 8, .inl fd2)), (lt, .inr (5, [.ref la, .int (nI kl)])), (la, .inl (cB, 80, .inl fl)), (ta3, .inl (cI, 8, .inl fd3)), (h1, .inr (5, [.ref a1, .int (nI k1)])), (a1, .inl (cB, n1, .inl f1))] sz) := by
  refine Met.ofW (cc := cX6_take) (maxL := 6) (ret := (some .boolean)) (by decide) rfl ?_
  intro p e s m args below meth cd s₁ B hml hv
  obtain ⟨rfl, hsz, hP, hK, hD0, hE⟩ := hv
  have hx := B.exec
  have hb := B.bytes
  have hr := B.returns
  have hts0 := atoms_spec (ws := .code yX6_take cX6_take 6 (some .boolean) :: wsL_law) B.pre
  have hts := fun (w : Cond) (h : w ∈ wsL_law) => hts0 w (List.mem_cons_of_mem _ h)
  have hown : s.vm.findClass RX6 = some m.cls := findClass_of_methodNamed B.named
  have hlocks := B.notSynchronized
  have hinX6 := inlX6
  subst hsz
  have hD := hD0.self (sz := s.heap.size)
  generalize hAe : va_A [(h0, .inr (6, [.ref lt, .ref ta1, .ref ta2, .ref ta3, .int (nI d)])), (ta1, .inl (cI, 8, .inl fd1)), (ta2, .inl (cI, 8, .inl fd2)), (lt, .inr (5, [.ref la, .int (nI kl)])), (la, .inl (cB, 80, .inl fl)), (ta3, .inl (cI, 8, .inl fd3)), (h1, .inr (5, [.ref a1, .int (nI k1)])), (a1, .inl (cB, n1, .inl f1))] s.heap.size = A at hD hE ⊢
  have hA : ∀ q : Nat, s.heap.size ≤ q → A q := fun q h => by rw [← hAe]; exact Or.inr h
  have hS : va_S A s.heap s.heap [] := va_S.rf
  have hP : va_P D vwCl [(h0, .inr (6, [.ref lt, .ref ta1, .ref ta2, .ref ta3, .int (nI d)])), (ta1, .inl (cI, 8, .inl fd1)), (ta2, .inl (cI, 8, .inl fd2)), (lt, .inr (5, [.ref la, .int (nI kl)])), (la, .inl (cB, 80, .inl fl)), (ta3, .inl (cI, 8, .inl fd3)), (h1, .inr (5, [.ref a1, .int (nI k1)])), (a1, .inl (cB, n1, .inl f1))] s.heap := hP
  have hl := lv_entry ([.ref h0, .ref h1, .int x]) (n := 6) (Nat.le_of_ble_eq_true rfl)
  rw [lg_entry_eq]
  generalize (lg_sl ([.ref h0, .ref h1, .int x]) ++ List.replicate (6 - (lg_sl ([.ref h0, .ref h1, .int x])).length) Slot.unset).toArray = ls at hl ⊢
  have hl : lv_has ls 6 [(0, .ref h0), (1, .ref h1), (2, .int x)] := hl
  have hkl10 := hC.1
  refine lv_aload_n hx hb dX6_take_0 rfl (lv_at hl 1 rfl) ?_
  have hPc := hP.sub (ws' := [(h1, .inr (5, [.ref a1, .int (nI k1)]))]) [6] rfl
  have hDc := hD.sub (ws' := [(h1, .inr (5, [.ref a1, .int (nI k1)]))]) [6] (by decide) rfl
  have hFc := va_free (wc := [(h1, .inr (5, [.ref a1, .int (nI k1)]))]) hD hS hA [6] rfl
  refine va_calli (va_runV (As := []) (rest := []) ⟨hx, hb, hml, hown, hts⟩ (s_X5_size l D cB cI cZ E s.heap.size h1 a1 (nI k1)) (cwV 0 hts (uV (uc31 _ (List.mem_of_getElem? (i := 13) rfl)) (uc7 _ (List.mem_of_getElem? (i := 22) rfl)) (uc7 _ (List.mem_of_getElem? (i := 23) rfl)) (uc1 _ (List.mem_of_getElem? (i := 14) rfl)) (uc8 _ (List.mem_of_getElem? (i := 0) rfl))) rfl rfl rfl (by decide +kernel) ⟨Nat.le_of_ble_eq_true rfl, Nat.le_of_ble_eq_true rfl⟩) (pVE hE hS hFc hK hPc hDc 0 rfl rfl) rfl rfl hl.1 rfl (lv_room (Nat.le_of_ble_eq_true rfl)) dX6_take_1 ⟨Nat.le_of_ble_eq_true rfl, Nat.le_of_ble_eq_true rfl⟩) hS (fun q _ h => hFc q h) hFc (fun r_1 u t H_2 L_3 ht hvm hw hB hz1 hk1 hS => ?_)
  obtain ⟨hP1, -, hD1⟩ := hB
  rw [ht] at hP1
  obtain ⟨hP, hD⟩ := va_join (wr := [(h0, .inr (6, [.ref lt, .ref ta1, .ref ta2, .ref ta3, .int (nI d)])), (ta1, .inl (cI, 8, .inl fd1)), (ta2, .inl (cI, 8, .inl fd2)), (lt, .inr (5, [.ref la, .int (nI kl)])), (la, .inl (cB, 80, .inl fl)), (ta3, .inl (cI, 8, .inl fd3)), (a1, .inl (cB, n1, .inl f1))]) (w1 := [(h1, .inr (5, [.ref a1, .int (nI k1)]))]) hP hD [6] [0, 1, 2, 3, 4, 5, 7] rfl rfl (by decide) (by decide) hk1 hFc hP1 hD1
  have hP : va_P D vwCl [(h0, .inr (6, [.ref lt, .ref ta1, .ref ta2, .ref ta3, .int (nI d)])), (ta1, .inl (cI, 8, .inl fd1)), (ta2, .inl (cI, 8, .inl fd2)), (lt, .inr (5, [.ref la, .int (nI kl)])), (la, .inl (cB, 80, .inl fl)), (ta3, .inl (cI, 8, .inl fd3)), (h1, .inr (5, [.ref a1, .int (nI k1)])), (a1, .inl (cB, n1, .inl f1))] H_2 := hP.sub [0, 1, 2, 3, 4, 5, 7, 6] rfl
  have hD : va_D A [(h0, .inr (6, [.ref lt, .ref ta1, .ref ta2, .ref ta3, .int (nI d)])), (ta1, .inl (cI, 8, .inl fd1)), (ta2, .inl (cI, 8, .inl fd2)), (lt, .inr (5, [.ref la, .int (nI kl)])), (la, .inl (cB, 80, .inl fl)), (ta3, .inl (cI, 8, .inl fd3)), (h1, .inr (5, [.ref a1, .int (nI k1)])), (a1, .inl (cB, n1, .inl f1))] := hD.sub [0, 1, 2, 3, 4, 5, 7, 6] (by decide) rfl
  try dsimp only at hw
  subst hw
  refine lv_istore_n (lv' := [(3, .int (nI k1)), (0, .ref h0), (1, .ref h1), (2, .int x)]) hx hb dX6_take_4 rfl hl (by decide) rfl (fun ls hl => ?_)
  refine lv_aload_n hx hb dX6_take_5 rfl (lv_at hl 2 rfl) ?_
  refine lv_iconst (v := 0) hx hb dX6_take_6 (by decide) ?_
  refine lv_iload_n hx hb dX6_take_7 rfl (lv_at hl 0 rfl) ?_
  have hPc := hP.sub (ws' := [(h1, .inr (5, [.ref a1, .int (nI k1)])), (a1, .inl (cB, n1, .inl f1))]) [6, 7] rfl
  have hDc := hD.sub (ws' := [(h1, .inr (5, [.ref a1, .int (nI k1)])), (a1, .inl (cB, n1, .inl f1))]) [6, 7] (by decide) rfl
  have hFc := va_free (wc := [(h1, .inr (5, [.ref a1, .int (nI k1)])), (a1, .inl (cB, n1, .inl f1))]) hD hS hA [6, 7] rfl
  refine va_calli (va_runV (As := [.int 0, .int (nI k1)]) (rest := []) ⟨hx, hb, hml, hown, hts⟩ (f_X5_looksLikeName l D cB cI cZ E H_2.size h1 0 k1 a1 k1 n1 f1 tg (by first | assumption | omega) (by first | assumption | omega) (hT1) (by first | assumption | omega)) (cwV 2 hts (uV (uc31 _ (List.mem_of_getElem? (i := 14) rfl)) (uc14 _ (List.mem_of_getElem? (i := 14) rfl)) (uc14 _ (List.mem_of_getElem? (i := 15) rfl)) (uc1 _ (List.mem_of_getElem? (i := 14) rfl)) (uc14 _ (List.mem_of_getElem? (i := 16) rfl))) rfl rfl rfl (by decide +kernel) ⟨Nat.le_of_ble_eq_true rfl, Nat.le_of_ble_eq_true rfl⟩) (pVE hE hS hFc hK hPc hDc 0 rfl rfl) rfl rfl hl.1 rfl (lv_room (Nat.le_of_ble_eq_true rfl)) dX6_take_8 ⟨Nat.le_of_ble_eq_true rfl, Nat.le_of_ble_eq_true rfl⟩) hS (fun q _ h => hFc q h) hFc (fun r_4 u t H_5 L_6 ht hvm hw hB hz1 hk1 hS => ?_)
  obtain ⟨hP1, -, hD1⟩ := hB
  rw [ht] at hP1
  obtain ⟨hP, hD⟩ := va_join (wr := [(h0, .inr (6, [.ref lt, .ref ta1, .ref ta2, .ref ta3, .int (nI d)])), (ta1, .inl (cI, 8, .inl fd1)), (ta2, .inl (cI, 8, .inl fd2)), (lt, .inr (5, [.ref la, .int (nI kl)])), (la, .inl (cB, 80, .inl fl)), (ta3, .inl (cI, 8, .inl fd3))]) (w1 := [(h1, .inr (5, [.ref a1, .int (nI k1)])), (a1, .inl (cB, n1, .inl f1))]) hP hD [6, 7] [0, 1, 2, 3, 4, 5] rfl rfl (by decide) (by decide) hk1 hFc hP1 hD1
  have hP : va_P D vwCl [(h0, .inr (6, [.ref lt, .ref ta1, .ref ta2, .ref ta3, .int (nI d)])), (ta1, .inl (cI, 8, .inl fd1)), (ta2, .inl (cI, 8, .inl fd2)), (lt, .inr (5, [.ref la, .int (nI kl)])), (la, .inl (cB, 80, .inl fl)), (ta3, .inl (cI, 8, .inl fd3)), (h1, .inr (5, [.ref a1, .int (nI k1)])), (a1, .inl (cB, n1, .inl f1))] H_5 := hP.sub [0, 1, 2, 3, 4, 5, 6, 7] rfl
  have hD : va_D A [(h0, .inr (6, [.ref lt, .ref ta1, .ref ta2, .ref ta3, .int (nI d)])), (ta1, .inl (cI, 8, .inl fd1)), (ta2, .inl (cI, 8, .inl fd2)), (lt, .inr (5, [.ref la, .int (nI kl)])), (la, .inl (cB, 80, .inl fl)), (ta3, .inl (cI, 8, .inl fd3)), (h1, .inr (5, [.ref a1, .int (nI k1)])), (a1, .inl (cB, n1, .inl f1))] := hD.sub [0, 1, 2, 3, 4, 5, 6, 7] (by decide) rfl
  try dsimp only at hw
  rcases hw with ⟨rfl, h_7⟩ | ⟨rfl, h_8⟩
  · have hnm := h_7
    have hk10 := hnm.2.1
    refine lv_if_eq (tgt := 23) hx hb dX6_take_11 (by decide) (fun c_9 => ?_) (fun c_9 => ?_)
    · exact False.elim (by revert c_9; decide)
    · refine lv_aload_n hx hb dX6_take_14 rfl (lv_at hl 2 rfl) ?_
      refine lv_iconst (v := 0) hx hb dX6_take_15 (by decide) ?_
      refine lv_iload_n hx hb dX6_take_16 rfl (lv_at hl 0 rfl) ?_
      have hPc := hP.sub (ws' := [(h1, .inr (5, [.ref a1, .int (nI k1)])), (a1, .inl (cB, n1, .inl f1))]) [6, 7] rfl
      have hDc := hD.sub (ws' := [(h1, .inr (5, [.ref a1, .int (nI k1)])), (a1, .inl (cB, n1, .inl f1))]) [6, 7] (by decide) rfl
      have hFc := va_free (wc := [(h1, .inr (5, [.ref a1, .int (nI k1)])), (a1, .inl (cB, n1, .inl f1))]) hD hS hA [6, 7] rfl
      refine va_calli (va_runV (As := [.int 0, .int (nI k1)]) (rest := []) ⟨hx, hb, hml, hown, hts⟩ (f_X5_heWordSex l D cB cI cZ E H_5.size h1 0 k1 a1 k1 n1 f1 tg (by first | assumption | omega) (by first | assumption | omega) (hT1) (by first | assumption | omega)) (cwV 2 hts (uV (uc31 _ (List.mem_of_getElem? (i := 15) rfl)) (uc11 _ (List.mem_of_getElem? (i := 17) rfl)) (uc11 _ (List.mem_of_getElem? (i := 18) rfl)) (uc1 _ (List.mem_of_getElem? (i := 14) rfl)) (uc11 _ (List.mem_of_getElem? (i := 19) rfl))) rfl rfl rfl (by decide +kernel) ⟨Nat.le_of_ble_eq_true rfl, Nat.le_of_ble_eq_true rfl⟩) (pVE hE hS hFc hK hPc hDc 0 rfl rfl) rfl rfl hl.1 rfl (lv_room (Nat.le_of_ble_eq_true rfl)) dX6_take_17 ⟨Nat.le_of_ble_eq_true rfl, Nat.le_of_ble_eq_true rfl⟩) hS (fun q _ h => hFc q h) hFc (fun r_10 u t H_11 L_12 ht hvm hw hB hz1 hk1 hS => ?_)
      obtain ⟨hP1, -, hD1⟩ := hB
      rw [ht] at hP1
      obtain ⟨hP, hD⟩ := va_join (wr := [(h0, .inr (6, [.ref lt, .ref ta1, .ref ta2, .ref ta3, .int (nI d)])), (ta1, .inl (cI, 8, .inl fd1)), (ta2, .inl (cI, 8, .inl fd2)), (lt, .inr (5, [.ref la, .int (nI kl)])), (la, .inl (cB, 80, .inl fl)), (ta3, .inl (cI, 8, .inl fd3))]) (w1 := [(h1, .inr (5, [.ref a1, .int (nI k1)])), (a1, .inl (cB, n1, .inl f1))]) hP hD [6, 7] [0, 1, 2, 3, 4, 5] rfl rfl (by decide) (by decide) hk1 hFc hP1 hD1
      have hP : va_P D vwCl [(h0, .inr (6, [.ref lt, .ref ta1, .ref ta2, .ref ta3, .int (nI d)])), (ta1, .inl (cI, 8, .inl fd1)), (ta2, .inl (cI, 8, .inl fd2)), (lt, .inr (5, [.ref la, .int (nI kl)])), (la, .inl (cB, 80, .inl fl)), (ta3, .inl (cI, 8, .inl fd3)), (h1, .inr (5, [.ref a1, .int (nI k1)])), (a1, .inl (cB, n1, .inl f1))] H_11 := hP.sub [0, 1, 2, 3, 4, 5, 6, 7] rfl
      have hD : va_D A [(h0, .inr (6, [.ref lt, .ref ta1, .ref ta2, .ref ta3, .int (nI d)])), (ta1, .inl (cI, 8, .inl fd1)), (ta2, .inl (cI, 8, .inl fd2)), (lt, .inr (5, [.ref la, .int (nI kl)])), (la, .inl (cB, 80, .inl fl)), (ta3, .inl (cI, 8, .inl fd3)), (h1, .inr (5, [.ref a1, .int (nI k1)])), (a1, .inl (cB, n1, .inl f1))] := hD.sub [0, 1, 2, 3, 4, 5, 6, 7] (by decide) rfl
      try dsimp only at hw
      rcases hw with ⟨h_13, h_14, h_15⟩ | ⟨rfl, h_16⟩
      · have hr0 := h_13
        have hhe := h_14
        refine lv_if_le (tgt := 25) hx hb dX6_take_20 (by decide) (fun c_17 => ?_) (fun c_17 => ?_)
        · exact False.elim (by exact absurd hr0 (Int32.not_lt.mpr c_17))
        · refine lv_iconst (v := 0) hx hb dX6_take_23 (by decide) ?_
          have hP9 := hP.sub (ws' := [(h0, .inr (6, [.ref lt, .ref ta1, .ref ta2, .ref ta3, .int (nI d)])), (ta1, .inl (cI, 8, .inl fd1)), (ta2, .inl (cI, 8, .inl fd2)), (lt, .inr (5, [.ref la, .int (nI kl)])), (la, .inl (cB, 80, .inl fl)), (ta3, .inl (cI, 8, .inl fd3)), (h1, .inr (5, [.ref a1, .int (nI k1)])), (a1, .inl (cB, n1, .inl f1))]) [0, 1, 2, 3, 4, 5, 6, 7] rfl
          have hD9 := hD.sub (ws' := [(h0, .inr (6, [.ref lt, .ref ta1, .ref ta2, .ref ta3, .int (nI d)])), (ta1, .inl (cI, 8, .inl fd1)), (ta2, .inl (cI, 8, .inl fd2)), (lt, .inr (5, [.ref la, .int (nI kl)])), (la, .inl (cB, 80, .inl fl)), (ta3, .inl (cI, 8, .inl fd3)), (h1, .inr (5, [.ref a1, .int (nI k1)])), (a1, .inl (cB, n1, .inl f1))]) [0, 1, 2, 3, 4, 5, 6, 7] (by decide) rfl
          exact W.zret (v := 0) hx hb hr (rfl) (fun t ht hW => ⟨⟨0, (d, fd1, fd2, fd3, kl, fl), rfl, Or.inl (⟨rfl, rfl, by omega, by first | exact (fun q => hnm q.2.1) | exact (fun q => q.2.2.1 hhe), hC⟩), ⟨by rw [ht]; exact hP9, va_K.moved hW.alike hK, hD9⟩⟩, hS.F ht⟩) hS.2.2 dX6_take_24
      · have hhe := h_16
        refine lv_if_le (tgt := 25) hx hb dX6_take_20 (by decide) (fun c_18 => ?_) (fun c_18 => ?_)
        · refine lv_iload_n hx hb dX6_take_25 rfl (lv_at hl 3 rfl) ?_
          refine lv_if_lt (tgt := 34) hx hb dX6_take_26 (by decide) (fun c_19 => ?_) (fun c_19 => ?_)
          · have hx0 := c_19
            refine lv_iconst (v := 0) hx hb dX6_take_34 (by decide) ?_
            have hP9 := hP.sub (ws' := [(h0, .inr (6, [.ref lt, .ref ta1, .ref ta2, .ref ta3, .int (nI d)])), (ta1, .inl (cI, 8, .inl fd1)), (ta2, .inl (cI, 8, .inl fd2)), (lt, .inr (5, [.ref la, .int (nI kl)])), (la, .inl (cB, 80, .inl fl)), (ta3, .inl (cI, 8, .inl fd3)), (h1, .inr (5, [.ref a1, .int (nI k1)])), (a1, .inl (cB, n1, .inl f1))]) [0, 1, 2, 3, 4, 5, 6, 7] rfl
            have hD9 := hD.sub (ws' := [(h0, .inr (6, [.ref lt, .ref ta1, .ref ta2, .ref ta3, .int (nI d)])), (ta1, .inl (cI, 8, .inl fd1)), (ta2, .inl (cI, 8, .inl fd2)), (lt, .inr (5, [.ref la, .int (nI kl)])), (la, .inl (cB, 80, .inl fl)), (ta3, .inl (cI, 8, .inl fd3)), (h1, .inr (5, [.ref a1, .int (nI k1)])), (a1, .inl (cB, n1, .inl f1))]) [0, 1, 2, 3, 4, 5, 6, 7] (by decide) rfl
            exact W.zret (v := 0) hx hb hr (rfl) (fun t ht hW => ⟨⟨0, (d, fd1, fd2, fd3, kl, fl), rfl, Or.inl (⟨rfl, rfl, by omega, by first | exact (fun q => q.1.1 hx0) | exact (fun q => q.1.2 hx3), hC⟩), ⟨by rw [ht]; exact hP9, va_K.moved hW.alike hK, hD9⟩⟩, hS.F ht⟩) hS.2.2 dX6_take_35
          · have hx0 := c_19
            refine lv_iload_n hx hb dX6_take_29 rfl (lv_at hl 3 rfl) ?_
            refine lv_iconst (v := 3) hx hb dX6_take_30 (by decide) ?_
            refine lv_icmp_le (tgt := 36) hx hb dX6_take_31 (by decide) (fun c_20 => ?_) (fun c_20 => ?_)
            · have hx3 : ¬ 3 < x := Int32.not_lt.mpr c_20
              refine lv_aload_n hx hb dX6_take_36 rfl (lv_at hl 1 rfl) ?_
              refine lv_aload_n hx hb dX6_take_37 rfl (lv_at hl 2 rfl) ?_
              refine lv_iconst (v := 0) hx hb dX6_take_38 (by decide) ?_
              refine lv_iload_n hx hb dX6_take_39 rfl (lv_at hl 0 rfl) ?_
              have hPc := hP.sub (ws' := [(h0, .inr (6, [.ref lt, .ref ta1, .ref ta2, .ref ta3, .int (nI d)])), (ta1, .inl (cI, 8, .inl fd1)), (ta2, .inl (cI, 8, .inl fd2)), (lt, .inr (5, [.ref la, .int (nI kl)])), (la, .inl (cB, 80, .inl fl)), (h1, .inr (5, [.ref a1, .int (nI k1)])), (a1, .inl (cB, n1, .inl f1))]) [0, 1, 2, 3, 4, 6, 7] rfl
              have hDc := hD.sub (ws' := [(h0, .inr (6, [.ref lt, .ref ta1, .ref ta2, .ref ta3, .int (nI d)])), (ta1, .inl (cI, 8, .inl fd1)), (ta2, .inl (cI, 8, .inl fd2)), (lt, .inr (5, [.ref la, .int (nI kl)])), (la, .inl (cB, 80, .inl fl)), (h1, .inr (5, [.ref a1, .int (nI k1)])), (a1, .inl (cB, n1, .inl f1))]) [0, 1, 2, 3, 4, 6, 7] (by decide) rfl
              have hFc := va_free (wc := [(h0, .inr (6, [.ref lt, .ref ta1, .ref ta2, .ref ta3, .int (nI d)])), (ta1, .inl (cI, 8, .inl fd1)), (ta2, .inl (cI, 8, .inl fd2)), (lt, .inr (5, [.ref la, .int (nI kl)])), (la, .inl (cB, 80, .inl fl)), (h1, .inr (5, [.ref a1, .int (nI k1)])), (a1, .inl (cB, n1, .inl f1))]) hD hS hA [0, 1, 2, 3, 4, 6, 7] rfl
              refine va_calli (va_runV (As := [.ref h1, .int 0, .int (nI k1)]) (rest := []) ⟨hx, hb, hml, hown, hts⟩ (f_X6_find l D cB cI cZ E H_11.size h0 h1 0 k1 lt ta1 ta2 ta3 d fd1 fd2 la kl fl a1 k1 n1 f1 tg yl cc (by first | assumption | omega) (by first | assumption | omega) (by first | assumption | omega) (by first | assumption | omega) (by first | assumption | omega) (by first | assumption | omega) (by first | assumption | omega)) (cwV 3 hts (uV (uc31 _ (List.mem_of_getElem? (i := 16) rfl)) (uc16 _ (List.mem_of_getElem? (i := 13) rfl)) (uc16 _ (List.mem_of_getElem? (i := 14) rfl)) (uc1 _ (List.mem_of_getElem? (i := 22) rfl)) (uc16 _ (List.mem_of_getElem? (i := 15) rfl))) rfl rfl rfl (by decide +kernel) ⟨Nat.le_of_ble_eq_true rfl, Nat.le_of_ble_eq_true rfl⟩) (pVE hE hS hFc hK hPc hDc 0 rfl rfl) rfl rfl hl.1 rfl (lv_room (Nat.le_of_ble_eq_true rfl)) dX6_take_40 ⟨Nat.le_of_ble_eq_true rfl, Nat.le_of_ble_eq_true rfl⟩) hS (fun q _ h => hFc q h) hFc (fun r_21 u t H_22 L_23 ht hvm hw hB hz1 hk1 hS => ?_)
              obtain ⟨hP1, -, hD1⟩ := hB
              rw [ht] at hP1
              obtain ⟨hP, hD⟩ := va_join (wr := [(ta3, .inl (cI, 8, .inl fd3))]) (w1 := [(h0, .inr (6, [.ref lt, .ref ta1, .ref ta2, .ref ta3, .int (nI d)])), (ta1, .inl (cI, 8, .inl fd1)), (ta2, .inl (cI, 8, .inl fd2)), (lt, .inr (5, [.ref la, .int (nI kl)])), (la, .inl (cB, 80, .inl fl)), (h1, .inr (5, [.ref a1, .int (nI k1)])), (a1, .inl (cB, n1, .inl f1))]) hP hD [0, 1, 2, 3, 4, 6, 7] [5] rfl rfl (by decide) (by decide) hk1 hFc hP1 hD1
              have hP : va_P D vwCl [(h0, .inr (6, [.ref lt, .ref ta1, .ref ta2, .ref ta3, .int (nI d)])), (ta1, .inl (cI, 8, .inl fd1)), (ta2, .inl (cI, 8, .inl fd2)), (lt, .inr (5, [.ref la, .int (nI kl)])), (la, .inl (cB, 80, .inl fl)), (ta3, .inl (cI, 8, .inl fd3)), (h1, .inr (5, [.ref a1, .int (nI k1)])), (a1, .inl (cB, n1, .inl f1))] H_22 := hP.sub [1, 2, 3, 4, 5, 0, 6, 7] rfl
              have hD : va_D A [(h0, .inr (6, [.ref lt, .ref ta1, .ref ta2, .ref ta3, .int (nI d)])), (ta1, .inl (cI, 8, .inl fd1)), (ta2, .inl (cI, 8, .inl fd2)), (lt, .inr (5, [.ref la, .int (nI kl)])), (la, .inl (cB, 80, .inl fl)), (ta3, .inl (cI, 8, .inl fd3)), (h1, .inr (5, [.ref a1, .int (nI k1)])), (a1, .inl (cB, n1, .inl f1))] := hD.sub [1, 2, 3, 4, 5, 0, 6, 7] (by decide) rfl
              try dsimp only at hw
              rcases hw with ⟨rfl, h_24⟩ | h_25
              · have hnf := h_24
                refine lv_istore (lv' := [(4, .int (-1)), (3, .int (nI k1)), (0, .ref h0), (1, .ref h1), (2, .int x)]) hx hb dX6_take_43 hl (by decide) rfl (fun ls hl => ?_)
                refine lv_iload hx hb dX6_take_45 (lv_at hl 0 rfl) ?_
                refine lv_iconst (v := (-1)) hx hb dX6_take_47 (by decide) ?_
                refine lv_icmp_ne (tgt := 62) hx hb dX6_take_48 (by decide) (fun c_26 => ?_) (fun c_26 => ?_)
                · exact False.elim (by revert c_26; decide)
                · refine lv_aload_n hx hb dX6_take_51 rfl (lv_at hl 2 rfl) ?_
                  refine va_get (D := D) (ci := 6) (v := .int (nI d)) (C := RX6) (T := TX6) (N := 5) hx hb hts hinX6 hown hK hP 0 rfl rfl 4 (by decide) (hts (.fieldLink RX6 30 "TaleReader$ToldNames" "count" "I") (uc4 _ (List.mem_of_getElem? (i := 6) rfl))) (fun _ h9 => h9) rfl dX6_take_52 ?_
                  refine lv_bipush (v := 8) hx hb dX6_take_55 (by decide) ?_
                  refine lv_icmp_lt (tgt := 62) hx hb dX6_take_57 (by decide) (fun c_27 => ?_) (fun c_27 => ?_)
                  · have hd8 : d < 8 := (nI_ltI (b := 8) (by omega) (by decide)).mp c_27
                    refine lv_iload hx hb dX6_take_62 (lv_at hl 0 rfl) ?_
                    refine lv_iconst (v := (-1)) hx hb dX6_take_64 (by decide) ?_
                    refine lv_icmp_ne (tgt := 76) hx hb dX6_take_65 (by decide) (fun c_28 => ?_) (fun c_28 => ?_)
                    · exact False.elim (by revert c_28; decide)
                    · refine lv_aload_n hx hb dX6_take_68 rfl (lv_at hl 2 rfl) ?_
                      refine lv_aload_n hx hb dX6_take_69 rfl (lv_at hl 3 rfl) ?_
                      have hPc := hP.sub (ws' := [(h0, .inr (6, [.ref lt, .ref ta1, .ref ta2, .ref ta3, .int (nI d)])), (ta1, .inl (cI, 8, .inl fd1)), (ta2, .inl (cI, 8, .inl fd2)), (lt, .inr (5, [.ref la, .int (nI kl)])), (la, .inl (cB, 80, .inl fl)), (h1, .inr (5, [.ref a1, .int (nI k1)])), (a1, .inl (cB, n1, .inl f1))]) [0, 1, 2, 3, 4, 6, 7] rfl
                      have hDc := hD.sub (ws' := [(h0, .inr (6, [.ref lt, .ref ta1, .ref ta2, .ref ta3, .int (nI d)])), (ta1, .inl (cI, 8, .inl fd1)), (ta2, .inl (cI, 8, .inl fd2)), (lt, .inr (5, [.ref la, .int (nI kl)])), (la, .inl (cB, 80, .inl fl)), (h1, .inr (5, [.ref a1, .int (nI k1)])), (a1, .inl (cB, n1, .inl f1))]) [0, 1, 2, 3, 4, 6, 7] (by decide) rfl
                      have hFc := va_free (wc := [(h0, .inr (6, [.ref lt, .ref ta1, .ref ta2, .ref ta3, .int (nI d)])), (ta1, .inl (cI, 8, .inl fd1)), (ta2, .inl (cI, 8, .inl fd2)), (lt, .inr (5, [.ref la, .int (nI kl)])), (la, .inl (cB, 80, .inl fl)), (h1, .inr (5, [.ref a1, .int (nI k1)])), (a1, .inl (cB, n1, .inl f1))]) hD hS hA [0, 1, 2, 3, 4, 6, 7] rfl
                      refine va_calli (va_runV (As := [.ref h1]) (rest := []) ⟨hx, hb, hml, hown, hts⟩ (f_X6_append l D cB cI cZ E H_22.size h0 h1 lt ta1 ta2 ta3 d fd1 fd2 la kl fl a1 k1 n1 f1 tg (by first | assumption | omega) (by first | assumption | omega) (by first | assumption | omega) (by first | assumption | omega) (by first | assumption | omega) (by first | assumption | omega) (by first | assumption | omega)) (cwV 1 hts (uV (uc31 _ (List.mem_of_getElem? (i := 17) rfl)) (uc31 _ (List.mem_of_getElem? (i := 18) rfl)) (uc31 _ (List.mem_of_getElem? (i := 19) rfl)) (uc1 _ (List.mem_of_getElem? (i := 22) rfl)) (uc31 _ (List.mem_of_getElem? (i := 20) rfl))) rfl rfl rfl (by decide +kernel) ⟨Nat.le_of_ble_eq_true rfl, Nat.le_of_ble_eq_true rfl⟩) (pVE hE hS hFc hK hPc hDc 0 rfl rfl) rfl rfl hl.1 rfl (lv_room (Nat.le_of_ble_eq_true rfl)) dX6_take_70 ⟨Nat.le_of_ble_eq_true rfl, Nat.le_of_ble_eq_true rfl⟩) hS (fun q _ h => hFc q h) hFc (fun r_29 u t H_30 L_31 ht hvm hw hB hz1 hk1 hS => ?_)
                      obtain ⟨d_32, fd1_33, fd2_34, kl_35, fl_36⟩ := u
                      obtain ⟨hP1, -, hD1⟩ := hB
                      rw [ht] at hP1
                      obtain ⟨hP, hD⟩ := va_join (wr := [(ta3, .inl (cI, 8, .inl fd3))]) (w1 := [(h0, .inr (6, [.ref lt, .ref ta1, .ref ta2, .ref ta3, .int (nI d_32)])), (ta1, .inl (cI, 8, .inl fd1_33)), (ta2, .inl (cI, 8, .inl fd2_34)), (lt, .inr (5, [.ref la, .int (nI kl_35)])), (la, .inl (cB, 80, .inl fl_36)), (h1, .inr (5, [.ref a1, .int (nI k1)])), (a1, .inl (cB, n1, .inl f1))]) hP hD [0, 1, 2, 3, 4, 6, 7] [5] rfl rfl (by decide) (by decide) hk1 hFc hP1 hD1
                      have hP : va_P D vwCl [(h0, .inr (6, [.ref lt, .ref ta1, .ref ta2, .ref ta3, .int (nI d_32)])), (ta1, .inl (cI, 8, .inl fd1_33)), (ta2, .inl (cI, 8, .inl fd2_34)), (lt, .inr (5, [.ref la, .int (nI kl_35)])), (la, .inl (cB, 80, .inl fl_36)), (ta3, .inl (cI, 8, .inl fd3)), (h1, .inr (5, [.ref a1, .int (nI k1)])), (a1, .inl (cB, n1, .inl f1))] H_30 := hP.sub [1, 2, 3, 4, 5, 0, 6, 7] rfl
                      have hD : va_D A [(h0, .inr (6, [.ref lt, .ref ta1, .ref ta2, .ref ta3, .int (nI d_32)])), (ta1, .inl (cI, 8, .inl fd1_33)), (ta2, .inl (cI, 8, .inl fd2_34)), (lt, .inr (5, [.ref la, .int (nI kl_35)])), (la, .inl (cB, 80, .inl fl_36)), (ta3, .inl (cI, 8, .inl fd3)), (h1, .inr (5, [.ref a1, .int (nI k1)])), (a1, .inl (cB, n1, .inl f1))] := hD.sub [1, 2, 3, 4, 5, 0, 6, 7] (by decide) rfl
                      try dsimp only at hw
                      obtain ⟨rfl, rfl, rfl, rfl, rfl, h_37, h_38⟩ := hw
                      have hA1 := h_37
                      have hA2 := h_38
                      refine lv_goto (tgt := 78) hx hb dX6_take_73 (by decide) ?_
                      refine lv_istore (lv' := [(5, .int (nI d)), (4, .int (-1)), (3, .int (nI k1)), (0, .ref h0), (1, .ref h1), (2, .int x)]) hx hb dX6_take_78 hl (by decide) rfl (fun ls hl => ?_)
                      refine lv_aload_n hx hb dX6_take_80 rfl (lv_at hl 3 rfl) ?_
                      refine va_get (D := D) (ci := 6) (v := .ref ta3) (C := RX6) (T := TX6) (N := 5) hx hb hts hinX6 hown hK hP 0 rfl rfl 3 (by decide) (hts (.fieldLink RX6 27 "TaleReader$ToldNames" "sexes" "[I") (uc4 _ (List.mem_of_getElem? (i := 5) rfl))) (fun _ h9 => h9) rfl dX6_take_81 ?_
                      refine lv_iload hx hb dX6_take_84 (lv_at hl 0 rfl) ?_
                      refine lv_iload_n hx hb dX6_take_86 rfl (lv_at hl 5 rfl) ?_
                      refine va_iast (D := D) hx hb hK hP hD hS 5 1 rfl rfl (vp_in_nI (by omega) (by omega)) dX6_take_87 (fun H_39 L_40 hP hD hS => ?_)
                      obtain ⟨g_41, eg_41⟩ : ∃ gg : Nat → Int32, gg = upd fd3 ((nI d)).toNatClampNeg x := ⟨_, rfl⟩
                      have hP : va_P D vwCl [(h0, .inr (6, [.ref lt, .ref ta1, .ref ta2, .ref ta3, .int (nI (d + 1))])), (ta1, .inl (cI, 8, .inl (upd fd1 d (nI kl)))), (ta2, .inl (cI, 8, .inl (upd fd2 d (nI k1)))), (lt, .inr (5, [.ref la, .int (nI (kl + k1))])), (la, .inl (cB, 80, .inl fl_36)), (ta3, .inl (cI, 8, .inl g_41)), (h1, .inr (5, [.ref a1, .int (nI k1)])), (a1, .inl (cB, n1, .inl f1))] H_39 := by rw [eg_41]; exact hP
                      have hD : va_D A [(h0, .inr (6, [.ref lt, .ref ta1, .ref ta2, .ref ta3, .int (nI (d + 1))])), (ta1, .inl (cI, 8, .inl (upd fd1 d (nI kl)))), (ta2, .inl (cI, 8, .inl (upd fd2 d (nI k1)))), (lt, .inr (5, [.ref la, .int (nI (kl + k1))])), (la, .inl (cB, 80, .inl fl_36)), (ta3, .inl (cI, 8, .inl g_41)), (h1, .inr (5, [.ref a1, .int (nI k1)])), (a1, .inl (cB, n1, .inl f1))] := by rw [eg_41]; exact hD
                      refine lv_iconst (v := 1) hx hb dX6_take_88 (by decide) ?_
                      have hP9 := hP.sub (ws' := [(h0, .inr (6, [.ref lt, .ref ta1, .ref ta2, .ref ta3, .int (nI (d + 1))])), (ta1, .inl (cI, 8, .inl (upd fd1 d (nI kl)))), (ta2, .inl (cI, 8, .inl (upd fd2 d (nI k1)))), (lt, .inr (5, [.ref la, .int (nI (kl + k1))])), (la, .inl (cB, 80, .inl fl_36)), (ta3, .inl (cI, 8, .inl g_41)), (h1, .inr (5, [.ref a1, .int (nI k1)])), (a1, .inl (cB, n1, .inl f1))]) [0, 1, 2, 3, 4, 5, 6, 7] rfl
                      have hD9 := hD.sub (ws' := [(h0, .inr (6, [.ref lt, .ref ta1, .ref ta2, .ref ta3, .int (nI (d + 1))])), (ta1, .inl (cI, 8, .inl (upd fd1 d (nI kl)))), (ta2, .inl (cI, 8, .inl (upd fd2 d (nI k1)))), (lt, .inr (5, [.ref la, .int (nI (kl + k1))])), (la, .inl (cB, 80, .inl fl_36)), (ta3, .inl (cI, 8, .inl g_41)), (h1, .inr (5, [.ref a1, .int (nI k1)])), (a1, .inl (cB, n1, .inl f1))]) [0, 1, 2, 3, 4, 5, 6, 7] (by decide) rfl
                      exact W.zret (v := 1) hx hb hr (rfl) (fun t ht hW => ⟨⟨1, (d + 1, upd fd1 d (nI kl), upd fd2 d (nI k1), g_41, kl + k1, fl_36), rfl, Or.inr (Or.inr ((⟨rfl, rfl, (show kl + k1 ≤ 80 by omega), ⟨⟨hx0, hx3⟩, hnm, hhe, Or.inl hd8⟩, fun ⟨j, hj, q⟩ => hnf j hj q, hd8, qC_add hC hnm.1 hnm.2.1 (fun j hj => (hT1 j hj).2) hA1 hA2⟩))), ⟨by rw [ht]; exact hP9, va_K.moved hW.alike hK, hD9⟩⟩, hS.F ht⟩) hS.2.2 dX6_take_89
                  · have hd8 : ¬ d < 8 := fun q => c_27 (nI_lt (b := 8) q (by decide))
                    refine lv_iconst (v := 0) hx hb dX6_take_60 (by decide) ?_
                    have hP9 := hP.sub (ws' := [(h0, .inr (6, [.ref lt, .ref ta1, .ref ta2, .ref ta3, .int (nI d)])), (ta1, .inl (cI, 8, .inl fd1)), (ta2, .inl (cI, 8, .inl fd2)), (lt, .inr (5, [.ref la, .int (nI kl)])), (la, .inl (cB, 80, .inl fl)), (ta3, .inl (cI, 8, .inl fd3)), (h1, .inr (5, [.ref a1, .int (nI k1)])), (a1, .inl (cB, n1, .inl f1))]) [0, 1, 2, 3, 4, 5, 6, 7] rfl
                    have hD9 := hD.sub (ws' := [(h0, .inr (6, [.ref lt, .ref ta1, .ref ta2, .ref ta3, .int (nI d)])), (ta1, .inl (cI, 8, .inl fd1)), (ta2, .inl (cI, 8, .inl fd2)), (lt, .inr (5, [.ref la, .int (nI kl)])), (la, .inl (cB, 80, .inl fl)), (ta3, .inl (cI, 8, .inl fd3)), (h1, .inr (5, [.ref a1, .int (nI k1)])), (a1, .inl (cB, n1, .inl f1))]) [0, 1, 2, 3, 4, 5, 6, 7] (by decide) rfl
                    exact W.zret (v := 0) hx hb hr (rfl) (fun t ht hW => ⟨⟨0, (d, fd1, fd2, fd3, kl, fl), rfl, Or.inl (⟨rfl, rfl, by omega, fun q => q.2.2.2.elim hd8 (fun ⟨j, hj, z⟩ => hnf j hj z), hC⟩), ⟨by rw [ht]; exact hP9, va_K.moved hW.alike hK, hD9⟩⟩, hS.F ht⟩) hS.2.2 dX6_take_61
              · obtain ⟨j, hj, rfl, hfj, hjn⟩ := h_25
                refine lv_istore (lv' := [(4, .int (nI j)), (3, .int (nI k1)), (0, .ref h0), (1, .ref h1), (2, .int x)]) hx hb dX6_take_43 hl (by decide) rfl (fun ls hl => ?_)
                refine lv_iload hx hb dX6_take_45 (lv_at hl 0 rfl) ?_
                refine lv_iconst (v := (-1)) hx hb dX6_take_47 (by decide) ?_
                refine lv_icmp_ne (tgt := 62) hx hb dX6_take_48 (by decide) (fun c_42 => ?_) (fun c_42 => ?_)
                · refine lv_iload hx hb dX6_take_62 (lv_at hl 0 rfl) ?_
                  refine lv_iconst (v := (-1)) hx hb dX6_take_64 (by decide) ?_
                  refine lv_icmp_ne (tgt := 76) hx hb dX6_take_65 (by decide) (fun c_43 => ?_) (fun c_43 => ?_)
                  · refine lv_iload hx hb dX6_take_76 (lv_at hl 0 rfl) ?_
                    refine lv_istore (lv' := [(5, .int (nI j)), (4, .int (nI j)), (3, .int (nI k1)), (0, .ref h0), (1, .ref h1), (2, .int x)]) hx hb dX6_take_78 hl (by decide) rfl (fun ls hl => ?_)
                    refine lv_aload_n hx hb dX6_take_80 rfl (lv_at hl 3 rfl) ?_
                    refine va_get (D := D) (ci := 6) (v := .ref ta3) (C := RX6) (T := TX6) (N := 5) hx hb hts hinX6 hown hK hP 0 rfl rfl 3 (by decide) (hts (.fieldLink RX6 27 "TaleReader$ToldNames" "sexes" "[I") (uc4 _ (List.mem_of_getElem? (i := 5) rfl))) (fun _ h9 => h9) rfl dX6_take_81 ?_
                    refine lv_iload hx hb dX6_take_84 (lv_at hl 0 rfl) ?_
                    refine lv_iload_n hx hb dX6_take_86 rfl (lv_at hl 5 rfl) ?_
                    refine va_iast (D := D) hx hb hK hP hD hS 5 1 rfl rfl (vp_in_nI (by omega) (by omega)) dX6_take_87 (fun H_44 L_45 hP hD hS => ?_)
                    obtain ⟨g_46, eg_46⟩ : ∃ gg : Nat → Int32, gg = upd fd3 ((nI j)).toNatClampNeg x := ⟨_, rfl⟩
                    have hP : va_P D vwCl [(h0, .inr (6, [.ref lt, .ref ta1, .ref ta2, .ref ta3, .int (nI d)])), (ta1, .inl (cI, 8, .inl fd1)), (ta2, .inl (cI, 8, .inl fd2)), (lt, .inr (5, [.ref la, .int (nI kl)])), (la, .inl (cB, 80, .inl fl)), (ta3, .inl (cI, 8, .inl g_46)), (h1, .inr (5, [.ref a1, .int (nI k1)])), (a1, .inl (cB, n1, .inl f1))] H_44 := by rw [eg_46]; exact hP
                    have hD : va_D A [(h0, .inr (6, [.ref lt, .ref ta1, .ref ta2, .ref ta3, .int (nI d)])), (ta1, .inl (cI, 8, .inl fd1)), (ta2, .inl (cI, 8, .inl fd2)), (lt, .inr (5, [.ref la, .int (nI kl)])), (la, .inl (cB, 80, .inl fl)), (ta3, .inl (cI, 8, .inl g_46)), (h1, .inr (5, [.ref a1, .int (nI k1)])), (a1, .inl (cB, n1, .inl f1))] := by rw [eg_46]; exact hD
                    refine lv_iconst (v := 1) hx hb dX6_take_88 (by decide) ?_
                    have hP9 := hP.sub (ws' := [(h0, .inr (6, [.ref lt, .ref ta1, .ref ta2, .ref ta3, .int (nI d)])), (ta1, .inl (cI, 8, .inl fd1)), (ta2, .inl (cI, 8, .inl fd2)), (lt, .inr (5, [.ref la, .int (nI kl)])), (la, .inl (cB, 80, .inl fl)), (ta3, .inl (cI, 8, .inl g_46)), (h1, .inr (5, [.ref a1, .int (nI k1)])), (a1, .inl (cB, n1, .inl f1))]) [0, 1, 2, 3, 4, 5, 6, 7] rfl
                    have hD9 := hD.sub (ws' := [(h0, .inr (6, [.ref lt, .ref ta1, .ref ta2, .ref ta3, .int (nI d)])), (ta1, .inl (cI, 8, .inl fd1)), (ta2, .inl (cI, 8, .inl fd2)), (lt, .inr (5, [.ref la, .int (nI kl)])), (la, .inl (cB, 80, .inl fl)), (ta3, .inl (cI, 8, .inl g_46)), (h1, .inr (5, [.ref a1, .int (nI k1)])), (a1, .inl (cB, n1, .inl f1))]) [0, 1, 2, 3, 4, 5, 6, 7] (by decide) rfl
                    exact W.zret (v := 1) hx hb hr (rfl) (fun t ht hW => ⟨⟨1, (d, fd1, fd2, g_46, kl, fl), rfl, Or.inr (Or.inl (⟨rfl, rfl, by omega, ⟨⟨hx0, hx3⟩, hnm, hhe, Or.inr ⟨j, hj, hfj⟩⟩, ⟨j, hj, hfj⟩, hC⟩)), ⟨by rw [ht]; exact hP9, va_K.moved hW.alike hK, hD9⟩⟩, hS.F ht⟩) hS.2.2 dX6_take_89
                  · exact False.elim (by exact nI_m1 (by omega) c_43)
                · exact False.elim (by exact nI_m1 (by omega) c_42)
            · have hx3 : 3 < x := Int32.not_le.mp c_20
              refine lv_iconst (v := 0) hx hb dX6_take_34 (by decide) ?_
              have hP9 := hP.sub (ws' := [(h0, .inr (6, [.ref lt, .ref ta1, .ref ta2, .ref ta3, .int (nI d)])), (ta1, .inl (cI, 8, .inl fd1)), (ta2, .inl (cI, 8, .inl fd2)), (lt, .inr (5, [.ref la, .int (nI kl)])), (la, .inl (cB, 80, .inl fl)), (ta3, .inl (cI, 8, .inl fd3)), (h1, .inr (5, [.ref a1, .int (nI k1)])), (a1, .inl (cB, n1, .inl f1))]) [0, 1, 2, 3, 4, 5, 6, 7] rfl
              have hD9 := hD.sub (ws' := [(h0, .inr (6, [.ref lt, .ref ta1, .ref ta2, .ref ta3, .int (nI d)])), (ta1, .inl (cI, 8, .inl fd1)), (ta2, .inl (cI, 8, .inl fd2)), (lt, .inr (5, [.ref la, .int (nI kl)])), (la, .inl (cB, 80, .inl fl)), (ta3, .inl (cI, 8, .inl fd3)), (h1, .inr (5, [.ref a1, .int (nI k1)])), (a1, .inl (cB, n1, .inl f1))]) [0, 1, 2, 3, 4, 5, 6, 7] (by decide) rfl
              exact W.zret (v := 0) hx hb hr (rfl) (fun t ht hW => ⟨⟨0, (d, fd1, fd2, fd3, kl, fl), rfl, Or.inl (⟨rfl, rfl, by omega, by first | exact (fun q => q.1.1 hx0) | exact (fun q => q.1.2 hx3), hC⟩), ⟨by rw [ht]; exact hP9, va_K.moved hW.alike hK, hD9⟩⟩, hS.F ht⟩) hS.2.2 dX6_take_35
        · exact False.elim (by revert c_18; decide)
  · have hnm := h_8
    refine lv_if_eq (tgt := 23) hx hb dX6_take_11 (by decide) (fun c_47 => ?_) (fun c_47 => ?_)
    · refine lv_iconst (v := 0) hx hb dX6_take_23 (by decide) ?_
      have hP9 := hP.sub (ws' := [(h0, .inr (6, [.ref lt, .ref ta1, .ref ta2, .ref ta3, .int (nI d)])), (ta1, .inl (cI, 8, .inl fd1)), (ta2, .inl (cI, 8, .inl fd2)), (lt, .inr (5, [.ref la, .int (nI kl)])), (la, .inl (cB, 80, .inl fl)), (ta3, .inl (cI, 8, .inl fd3)), (h1, .inr (5, [.ref a1, .int (nI k1)])), (a1, .inl (cB, n1, .inl f1))]) [0, 1, 2, 3, 4, 5, 6, 7] rfl
      have hD9 := hD.sub (ws' := [(h0, .inr (6, [.ref lt, .ref ta1, .ref ta2, .ref ta3, .int (nI d)])), (ta1, .inl (cI, 8, .inl fd1)), (ta2, .inl (cI, 8, .inl fd2)), (lt, .inr (5, [.ref la, .int (nI kl)])), (la, .inl (cB, 80, .inl fl)), (ta3, .inl (cI, 8, .inl fd3)), (h1, .inr (5, [.ref a1, .int (nI k1)])), (a1, .inl (cB, n1, .inl f1))]) [0, 1, 2, 3, 4, 5, 6, 7] (by decide) rfl
      exact W.zret (v := 0) hx hb hr (rfl) (fun t ht hW => ⟨⟨0, (d, fd1, fd2, fd3, kl, fl), rfl, Or.inl (⟨rfl, rfl, by omega, by first | exact (fun q => hnm q.2.1) | exact (fun q => q.2.2.1 hhe), hC⟩), ⟨by rw [ht]; exact hP9, va_K.moved hW.alike hK, hD9⟩⟩, hS.F ht⟩) hS.2.2 dX6_take_24
    · exact False.elim (by revert c_47; decide)
