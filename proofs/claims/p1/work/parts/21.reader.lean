set_option maxHeartbeats 4000000 in
set_option maxRecDepth 100000 in
theorem c_X8_readAnew_0 (l : Launch) (D : va_G) (cB cI cZ : ClassId) (sz : Nat) (h0 : Nat) (tp : Nat) (wd : Nat) (td : Nat) (pn : Nat) (mn : Nat) (cs : Nat) (nm : Nat) (rd : Nat) (tl : Nat) (wa1 : Nat) (wa2 : Nat) (wa3 : Nat) (wa4 : Nat) (ma1 : Nat) (ma2 : Nat) (ma3 : Nat) (ma4 : Nat) (ma5 : Nat) (ma6 : Nat) (ma7 : Nat) (ca1 : Nat) (ca2 : Nat) (ca3 : Nat) (ca4 : Nat) (na1 : Nat) (na2 : Nat) (cnt : Int32) (cut : Int32) (cc : Int32) (nc : Int32) (sc : Int32) : Met l yX8_readAnew (.code yX8_readAnew cX8_readAnew 2 none :: wsL_law) ({ frames := 2, cells := 0, slots := 0, locals := 44 } : Room) (va_Pc [.ref h0] (pIn D (pT cB cI cZ) sz [(h0, .inr (8, [.ref tp, .ref wd, .ref td, .ref pn, .ref mn, .ref cs, .ref nm, .ref rd])), (mn, .inr (1, [.ref wd, .ref ma1, .ref ma2, .ref ma3, .ref ma4, .ref ma5, .ref ma6, .ref ma7, .int cnt, .int cut])), (wd, .inr (7, [.ref tl, .ref wa1, .ref wa2, .ref wa3, .ref wa4, .int 0, .int sc])), (cs, .inr (0, [.ref ca1, .ref ca2, .ref ca3, .ref ca4, .int cc])), (nm, .inr (2, [.ref mn, .ref na1, .ref na2, .int nc]))])) (va_Qv (fun (u : Unit) => True) (fun (u : Unit) (t : State) => pAt D (pT cB cI cZ) (va_A [(h0, .inr (8, [.ref tp, .ref wd, .ref td, .ref pn, .ref mn, .ref cs, .ref nm, .ref rd])), (mn, .inr (1, [.ref wd, .ref ma1, .ref ma2, .ref ma3, .ref ma4, .ref ma5, .ref ma6, .ref ma7, .int cnt, .int cut])), (wd, .inr (7, [.ref tl, .ref wa1, .ref wa2, .ref wa3, .ref wa4, .int 0, .int sc])), (cs, .inr (0, [.ref ca1, .ref ca2, .ref ca3, .ref ca4, .int cc])), (nm, .inr (2, [.ref mn, .ref na1, .ref na2, .int nc]))] sz) [(h0, .inr (8, [.ref tp, .ref wd, .ref td, .ref pn, .ref mn, .ref cs, .ref nm, .ref rd])), (mn, .inr (1, [.ref wd, .ref ma1, .ref ma2, .ref ma3, .ref ma4, .ref ma5, .ref ma6, .ref ma7, .int 0, .int 0])), (wd, .inr (7, [.ref tl, .ref wa1, .ref wa2, .ref wa3, .ref wa4, .int 0, .int sc])), (cs, .inr (0, [.ref ca1, .ref ca2, .ref ca3, .ref ca4, .int 0])), (nm, .inr (2, [.ref mn, .ref na1, .ref na2, .int 0]))] t) (va_A [(h0, .inr (8, [.ref tp, .ref wd, .ref td, .ref pn, .ref mn, .ref cs, .ref nm, .ref rd])), (mn, .inr (1, [.ref wd, .ref ma1, .ref ma2, .ref ma3, .ref ma4, .ref ma5, .ref ma6, .ref ma7, .int cnt, .int cut])), (wd, .inr (7, [.ref tl, .ref wa1, .ref wa2, .ref wa3, .ref wa4, .int 0, .int sc])), (cs, .inr (0, [.ref ca1, .ref ca2, .ref ca3, .ref ca4, .int cc])), (nm, .inr (2, [.ref mn, .ref na1, .ref na2, .int nc]))] sz)) 0 0 (va_A [(h0, .inr (8, [.ref tp, .ref wd, .ref td, .ref pn, .ref mn, .ref cs, .ref nm, .ref rd])), (mn, .inr (1, [.ref wd, .ref ma1, .ref ma2, .ref ma3, .ref ma4, .ref ma5, .ref ma6, .ref ma7, .int cnt, .int cut])), (wd, .inr (7, [.ref tl, .ref wa1, .ref wa2, .ref wa3, .ref wa4, .int 0, .int sc])), (cs, .inr (0, [.ref ca1, .ref ca2, .ref ca3, .ref ca4, .int cc])), (nm, .inr (2, [.ref mn, .ref na1, .ref na2, .int nc]))] sz) := by
  refine Met.ofW (cc := cX8_readAnew) (maxL := 2) (ret := none) (by decide) rfl ?_
  intro p e s m args below meth c s₁ B hml hv
  obtain ⟨rfl, hsz, hP, hK, hD0⟩ := hv
  have hx := B.exec
  have hb := B.bytes
  have hr := B.returns
  have hts0 := atoms_spec (ws := .code yX8_readAnew cX8_readAnew 2 none :: wsL_law) B.pre
  have hts := fun (w : Cond) (h : w ∈ wsL_law) => hts0 w (List.mem_cons_of_mem _ h)
  have hown : s.vm.findClass RX8 = some m.cls := findClass_of_methodNamed B.named
  have hlocks := B.notSynchronized
  have hinX8 := inlX8
  subst hsz
  have hD := hD0.self (sz := s.heap.size)
  generalize hAe : va_A [(h0, .inr (8, [.ref tp, .ref wd, .ref td, .ref pn, .ref mn, .ref cs, .ref nm, .ref rd])), (mn, .inr (1, [.ref wd, .ref ma1, .ref ma2, .ref ma3, .ref ma4, .ref ma5, .ref ma6, .ref ma7, .int cnt, .int cut])), (wd, .inr (7, [.ref tl, .ref wa1, .ref wa2, .ref wa3, .ref wa4, .int 0, .int sc])), (cs, .inr (0, [.ref ca1, .ref ca2, .ref ca3, .ref ca4, .int cc])), (nm, .inr (2, [.ref mn, .ref na1, .ref na2, .int nc]))] s.heap.size = A at hD ⊢
  have hA : ∀ q : Nat, s.heap.size ≤ q → A q := fun q h => by rw [← hAe]; exact Or.inr h
  have hS : va_S A s.heap s.heap [] := va_S.rf
  have hP : va_P D vwCl [(h0, .inr (8, [.ref tp, .ref wd, .ref td, .ref pn, .ref mn, .ref cs, .ref nm, .ref rd])), (mn, .inr (1, [.ref wd, .ref ma1, .ref ma2, .ref ma3, .ref ma4, .ref ma5, .ref ma6, .ref ma7, .int cnt, .int cut])), (wd, .inr (7, [.ref tl, .ref wa1, .ref wa2, .ref wa3, .ref wa4, .int 0, .int sc])), (cs, .inr (0, [.ref ca1, .ref ca2, .ref ca3, .ref ca4, .int cc])), (nm, .inr (2, [.ref mn, .ref na1, .ref na2, .int nc]))] s.heap := hP
  have hl := lv_entry ([.ref h0]) (n := 2) (Nat.le_of_ble_eq_true rfl)
  rw [lg_entry_eq]
  generalize (lg_sl ([.ref h0]) ++ List.replicate (2 - (lg_sl ([.ref h0])).length) Slot.unset).toArray = ls at hl ⊢
  have hl : lv_has ls 2 [(0, .ref h0)] := hl
  refine lv_aload_n hx hb dX8_readAnew_0 rfl (lv_at hl 0 rfl) ?_
  refine va_get (D := D) (ci := 8) (v := .ref mn) (C := RX8) (T := TX8) (N := 8) hx hb hts hinX8 hown hK hP 0 rfl rfl 4 (by decide) (hts (.fieldLink RX8 44 "TaleReader" "mentions" "LTaleReader$Mentions;") (uc2 _ (List.mem_of_getElem? (i := 7) rfl))) (fun _ h9 => h9) rfl dX8_readAnew_1 ?_
  refine lv_aload_n hx hb dX8_readAnew_4 rfl (lv_at hl 0 rfl) ?_
  refine va_get (D := D) (ci := 8) (v := .ref td) (C := RX8) (T := TX8) (N := 8) hx hb hts hinX8 hown hK hP 0 rfl rfl 2 (by decide) (hts (.fieldLink RX8 28 "TaleReader" "told" "LTaleReader$ToldNames;") (uc1 _ (List.mem_of_getElem? (i := 23) rfl))) (fun _ h9 => h9) rfl dX8_readAnew_5 ?_
  have hPc := hP.sub (ws' := [(mn, .inr (1, [.ref wd, .ref ma1, .ref ma2, .ref ma3, .ref ma4, .ref ma5, .ref ma6, .ref ma7, .int cnt, .int cut])), (wd, .inr (7, [.ref tl, .ref wa1, .ref wa2, .ref wa3, .ref wa4, .int 0, .int sc]))]) [1, 2] rfl
  have hDc := hD.sub (ws' := [(mn, .inr (1, [.ref wd, .ref ma1, .ref ma2, .ref ma3, .ref ma4, .ref ma5, .ref ma6, .ref ma7, .int cnt, .int cut])), (wd, .inr (7, [.ref tl, .ref wa1, .ref wa2, .ref wa3, .ref wa4, .int 0, .int sc]))]) [1, 2] (by decide) rfl
  have hFc := va_free (wc := [(mn, .inr (1, [.ref wd, .ref ma1, .ref ma2, .ref ma3, .ref ma4, .ref ma5, .ref ma6, .ref ma7, .int cnt, .int cut])), (wd, .inr (7, [.ref tl, .ref wa1, .ref wa2, .ref wa3, .ref wa4, .int 0, .int sc]))]) hD hS hA [1, 2] rfl
  refine va_callv (va_runV (As := [.ref td]) (rest := []) ⟨hx, hb, hml, hown, hts⟩ (c_X1_gather_0 l D cB cI cZ s.heap.size mn wd ma1 ma2 ma3 ma4 ma5 ma6 ma7 cnt cut tl td wa1 wa2 wa3 wa4 sc) (cwV 1 hts (uV (uc15 _ (List.mem_of_getElem? (i := 18) rfl)) (uc15 _ (List.mem_of_getElem? (i := 19) rfl)) (uc15 _ (List.mem_of_getElem? (i := 20) rfl)) (uc2 _ (List.mem_of_getElem? (i := 6) rfl)) (uc15 _ (List.mem_of_getElem? (i := 21) rfl))) rfl rfl rfl (by decide +kernel) ⟨Nat.le_of_ble_eq_true rfl, Nat.le_of_ble_eq_true rfl⟩) (pV hK hPc hDc 0 rfl rfl) rfl rfl hl.1 rfl (lv_room (Nat.le_of_ble_eq_true rfl)) dX8_readAnew_8 ⟨Nat.le_of_ble_eq_true rfl, Nat.le_of_ble_eq_true rfl⟩) hS (fun q _ h => hFc q h) hFc (fun u t H_2 L_3 ht hvm hw hB hz1 hk1 hS => ?_)
  obtain ⟨hP1, -, hD1⟩ := hB
  rw [ht] at hP1
  obtain ⟨hP, hD⟩ := va_join (wr := [(h0, .inr (8, [.ref tp, .ref wd, .ref td, .ref pn, .ref mn, .ref cs, .ref nm, .ref rd])), (cs, .inr (0, [.ref ca1, .ref ca2, .ref ca3, .ref ca4, .int cc])), (nm, .inr (2, [.ref mn, .ref na1, .ref na2, .int nc]))]) (w1 := [(mn, .inr (1, [.ref wd, .ref ma1, .ref ma2, .ref ma3, .ref ma4, .ref ma5, .ref ma6, .ref ma7, .int 0, .int 0])), (wd, .inr (7, [.ref tl, .ref wa1, .ref wa2, .ref wa3, .ref wa4, .int 0, .int sc]))]) hP hD [1, 2] [0, 3, 4] rfl rfl (by decide) (by decide) hk1 hFc hP1 hD1
  have hP : va_P D vwCl [(h0, .inr (8, [.ref tp, .ref wd, .ref td, .ref pn, .ref mn, .ref cs, .ref nm, .ref rd])), (mn, .inr (1, [.ref wd, .ref ma1, .ref ma2, .ref ma3, .ref ma4, .ref ma5, .ref ma6, .ref ma7, .int 0, .int 0])), (wd, .inr (7, [.ref tl, .ref wa1, .ref wa2, .ref wa3, .ref wa4, .int 0, .int sc])), (cs, .inr (0, [.ref ca1, .ref ca2, .ref ca3, .ref ca4, .int cc])), (nm, .inr (2, [.ref mn, .ref na1, .ref na2, .int nc]))] H_2 := hP.sub [0, 3, 4, 1, 2] rfl
  have hD : va_D A [(h0, .inr (8, [.ref tp, .ref wd, .ref td, .ref pn, .ref mn, .ref cs, .ref nm, .ref rd])), (mn, .inr (1, [.ref wd, .ref ma1, .ref ma2, .ref ma3, .ref ma4, .ref ma5, .ref ma6, .ref ma7, .int 0, .int 0])), (wd, .inr (7, [.ref tl, .ref wa1, .ref wa2, .ref wa3, .ref wa4, .int 0, .int sc])), (cs, .inr (0, [.ref ca1, .ref ca2, .ref ca3, .ref ca4, .int cc])), (nm, .inr (2, [.ref mn, .ref na1, .ref na2, .int nc]))] := hD.sub [0, 3, 4, 1, 2] (by decide) rfl
  try dsimp only at hw
  refine lv_aload_n hx hb dX8_readAnew_11 rfl (lv_at hl 0 rfl) ?_
  refine va_get (D := D) (ci := 8) (v := .ref cs) (C := RX8) (T := TX8) (N := 8) hx hb hts hinX8 hown hK hP 0 rfl rfl 5 (by decide) (hts (.fieldLink RX8 51 "TaleReader" "cast" "LTaleReader$Cast;") (uc2 _ (List.mem_of_getElem? (i := 11) rfl))) (fun _ h9 => h9) rfl dX8_readAnew_12 ?_
  have hPc := hP.sub (ws' := [(cs, .inr (0, [.ref ca1, .ref ca2, .ref ca3, .ref ca4, .int cc]))]) [3] rfl
  have hDc := hD.sub (ws' := [(cs, .inr (0, [.ref ca1, .ref ca2, .ref ca3, .ref ca4, .int cc]))]) [3] (by decide) rfl
  have hFc := va_free (wc := [(cs, .inr (0, [.ref ca1, .ref ca2, .ref ca3, .ref ca4, .int cc]))]) hD hS hA [3] rfl
  refine va_callv (va_runV (As := []) (rest := []) ⟨hx, hb, hml, hown, hts⟩ (c_X0_clear l D cB cI cZ H_2.size cs ca1 ca2 ca3 ca4 cc) (cwV 0 hts (uV (uc17 _ (List.mem_of_getElem? (i := 14) rfl)) (uc17 _ (List.mem_of_getElem? (i := 15) rfl)) (uc17 _ (List.mem_of_getElem? (i := 16) rfl)) (uc2 _ (List.mem_of_getElem? (i := 10) rfl)) (uc17 _ (List.mem_of_getElem? (i := 17) rfl))) rfl rfl rfl (by decide +kernel) ⟨Nat.le_of_ble_eq_true rfl, Nat.le_of_ble_eq_true rfl⟩) (pV hK hPc hDc 0 rfl rfl) rfl rfl hl.1 rfl (lv_room (Nat.le_of_ble_eq_true rfl)) dX8_readAnew_15 ⟨Nat.le_of_ble_eq_true rfl, Nat.le_of_ble_eq_true rfl⟩) hS (fun q _ h => hFc q h) hFc (fun u t H_5 L_6 ht hvm hw hB hz1 hk1 hS => ?_)
  obtain ⟨hP1, -, hD1⟩ := hB
  rw [ht] at hP1
  obtain ⟨hP, hD⟩ := va_join (wr := [(h0, .inr (8, [.ref tp, .ref wd, .ref td, .ref pn, .ref mn, .ref cs, .ref nm, .ref rd])), (mn, .inr (1, [.ref wd, .ref ma1, .ref ma2, .ref ma3, .ref ma4, .ref ma5, .ref ma6, .ref ma7, .int 0, .int 0])), (wd, .inr (7, [.ref tl, .ref wa1, .ref wa2, .ref wa3, .ref wa4, .int 0, .int sc])), (nm, .inr (2, [.ref mn, .ref na1, .ref na2, .int nc]))]) (w1 := [(cs, .inr (0, [.ref ca1, .ref ca2, .ref ca3, .ref ca4, .int 0]))]) hP hD [3] [0, 1, 2, 4] rfl rfl (by decide) (by decide) hk1 hFc hP1 hD1
  have hP : va_P D vwCl [(h0, .inr (8, [.ref tp, .ref wd, .ref td, .ref pn, .ref mn, .ref cs, .ref nm, .ref rd])), (mn, .inr (1, [.ref wd, .ref ma1, .ref ma2, .ref ma3, .ref ma4, .ref ma5, .ref ma6, .ref ma7, .int 0, .int 0])), (wd, .inr (7, [.ref tl, .ref wa1, .ref wa2, .ref wa3, .ref wa4, .int 0, .int sc])), (cs, .inr (0, [.ref ca1, .ref ca2, .ref ca3, .ref ca4, .int 0])), (nm, .inr (2, [.ref mn, .ref na1, .ref na2, .int nc]))] H_5 := hP.sub [0, 1, 2, 4, 3] rfl
  have hD : va_D A [(h0, .inr (8, [.ref tp, .ref wd, .ref td, .ref pn, .ref mn, .ref cs, .ref nm, .ref rd])), (mn, .inr (1, [.ref wd, .ref ma1, .ref ma2, .ref ma3, .ref ma4, .ref ma5, .ref ma6, .ref ma7, .int 0, .int 0])), (wd, .inr (7, [.ref tl, .ref wa1, .ref wa2, .ref wa3, .ref wa4, .int 0, .int sc])), (cs, .inr (0, [.ref ca1, .ref ca2, .ref ca3, .ref ca4, .int 0])), (nm, .inr (2, [.ref mn, .ref na1, .ref na2, .int nc]))] := hD.sub [0, 1, 2, 4, 3] (by decide) rfl
  try dsimp only at hw
  refine lv_aload_n hx hb dX8_readAnew_18 rfl (lv_at hl 0 rfl) ?_
  refine va_get (D := D) (ci := 8) (v := .ref nm) (C := RX8) (T := TX8) (N := 8) hx hb hts hinX8 hown hK hP 0 rfl rfl 6 (by decide) (hts (.fieldLink RX8 60 "TaleReader" "names" "LTaleReader$Names;") (uc2 _ (List.mem_of_getElem? (i := 15) rfl))) (fun _ h9 => h9) rfl dX8_readAnew_19 ?_
  have hPc := hP.sub (ws' := [(nm, .inr (2, [.ref mn, .ref na1, .ref na2, .int nc]))]) [4] rfl
  have hDc := hD.sub (ws' := [(nm, .inr (2, [.ref mn, .ref na1, .ref na2, .int nc]))]) [4] (by decide) rfl
  have hFc := va_free (wc := [(nm, .inr (2, [.ref mn, .ref na1, .ref na2, .int nc]))]) hD hS hA [4] rfl
  refine va_callv (va_runV (As := []) (rest := []) ⟨hx, hb, hml, hown, hts⟩ (c_X2_clear l D cB cI cZ H_5.size nm mn na1 na2 nc) (cwV 0 hts (uV (uc17 _ (List.mem_of_getElem? (i := 18) rfl)) (uc17 _ (List.mem_of_getElem? (i := 19) rfl)) (uc17 _ (List.mem_of_getElem? (i := 20) rfl)) (uc2 _ (List.mem_of_getElem? (i := 14) rfl)) (uc17 _ (List.mem_of_getElem? (i := 21) rfl))) rfl rfl rfl (by decide +kernel) ⟨Nat.le_of_ble_eq_true rfl, Nat.le_of_ble_eq_true rfl⟩) (pV hK hPc hDc 0 rfl rfl) rfl rfl hl.1 rfl (lv_room (Nat.le_of_ble_eq_true rfl)) dX8_readAnew_22 ⟨Nat.le_of_ble_eq_true rfl, Nat.le_of_ble_eq_true rfl⟩) hS (fun q _ h => hFc q h) hFc (fun u t H_8 L_9 ht hvm hw hB hz1 hk1 hS => ?_)
  obtain ⟨hP1, -, hD1⟩ := hB
  rw [ht] at hP1
  obtain ⟨hP, hD⟩ := va_join (wr := [(h0, .inr (8, [.ref tp, .ref wd, .ref td, .ref pn, .ref mn, .ref cs, .ref nm, .ref rd])), (mn, .inr (1, [.ref wd, .ref ma1, .ref ma2, .ref ma3, .ref ma4, .ref ma5, .ref ma6, .ref ma7, .int 0, .int 0])), (wd, .inr (7, [.ref tl, .ref wa1, .ref wa2, .ref wa3, .ref wa4, .int 0, .int sc])), (cs, .inr (0, [.ref ca1, .ref ca2, .ref ca3, .ref ca4, .int 0]))]) (w1 := [(nm, .inr (2, [.ref mn, .ref na1, .ref na2, .int 0]))]) hP hD [4] [0, 1, 2, 3] rfl rfl (by decide) (by decide) hk1 hFc hP1 hD1
  have hP : va_P D vwCl [(h0, .inr (8, [.ref tp, .ref wd, .ref td, .ref pn, .ref mn, .ref cs, .ref nm, .ref rd])), (mn, .inr (1, [.ref wd, .ref ma1, .ref ma2, .ref ma3, .ref ma4, .ref ma5, .ref ma6, .ref ma7, .int 0, .int 0])), (wd, .inr (7, [.ref tl, .ref wa1, .ref wa2, .ref wa3, .ref wa4, .int 0, .int sc])), (cs, .inr (0, [.ref ca1, .ref ca2, .ref ca3, .ref ca4, .int 0])), (nm, .inr (2, [.ref mn, .ref na1, .ref na2, .int 0]))] H_8 := hP.sub [0, 1, 2, 3, 4] rfl
  have hD : va_D A [(h0, .inr (8, [.ref tp, .ref wd, .ref td, .ref pn, .ref mn, .ref cs, .ref nm, .ref rd])), (mn, .inr (1, [.ref wd, .ref ma1, .ref ma2, .ref ma3, .ref ma4, .ref ma5, .ref ma6, .ref ma7, .int 0, .int 0])), (wd, .inr (7, [.ref tl, .ref wa1, .ref wa2, .ref wa3, .ref wa4, .int 0, .int sc])), (cs, .inr (0, [.ref ca1, .ref ca2, .ref ca3, .ref ca4, .int 0])), (nm, .inr (2, [.ref mn, .ref na1, .ref na2, .int 0]))] := hD.sub [0, 1, 2, 3, 4] (by decide) rfl
  try dsimp only at hw
  refine lv_iconst (v := 0) hx hb dX8_readAnew_25 (by decide) ?_
  refine lv_istore_n (lv' := [(1, .int 0), (0, .ref h0)]) hx hb dX8_readAnew_26 rfl hl (by decide) rfl (fun ls hl => ?_)
  refine lv_iload_n hx hb dX8_readAnew_27 rfl (lv_at hl 0 rfl) ?_
  refine lv_aload_n hx hb dX8_readAnew_28 rfl (lv_at hl 1 rfl) ?_
  refine va_get (D := D) (ci := 8) (v := .ref mn) (C := RX8) (T := TX8) (N := 8) hx hb hts hinX8 hown hK hP 0 rfl rfl 4 (by decide) (hts (.fieldLink RX8 44 "TaleReader" "mentions" "LTaleReader$Mentions;") (uc2 _ (List.mem_of_getElem? (i := 7) rfl))) (fun _ h9 => h9) rfl dX8_readAnew_29 ?_
  have hPc := hP.sub (ws' := [(mn, .inr (1, [.ref wd, .ref ma1, .ref ma2, .ref ma3, .ref ma4, .ref ma5, .ref ma6, .ref ma7, .int 0, .int 0]))]) [1] rfl
  have hDc := hD.sub (ws' := [(mn, .inr (1, [.ref wd, .ref ma1, .ref ma2, .ref ma3, .ref ma4, .ref ma5, .ref ma6, .ref ma7, .int 0, .int 0]))]) [1] (by decide) rfl
  have hFc := va_free (wc := [(mn, .inr (1, [.ref wd, .ref ma1, .ref ma2, .ref ma3, .ref ma4, .ref ma5, .ref ma6, .ref ma7, .int 0, .int 0]))]) hD hS hA [1] rfl
  refine va_calli (va_runV (As := []) (rest := [.int 0]) ⟨hx, hb, hml, hown, hts⟩ (c_X1_size l D cB cI cZ H_8.size mn wd ma1 ma2 ma3 ma4 ma5 ma6 ma7 0 0) (cwV 0 hts (uV (uc17 _ (List.mem_of_getElem? (i := 22) rfl)) (uc17 _ (List.mem_of_getElem? (i := 23) rfl)) (uc18 _ (List.mem_of_getElem? (i := 0) rfl)) (uc2 _ (List.mem_of_getElem? (i := 6) rfl)) (uc18 _ (List.mem_of_getElem? (i := 1) rfl))) rfl rfl rfl (by decide +kernel) ⟨Nat.le_of_ble_eq_true rfl, Nat.le_of_ble_eq_true rfl⟩) (pV hK hPc hDc 0 rfl rfl) rfl rfl hl.1 rfl (lv_room (Nat.le_of_ble_eq_true rfl)) dX8_readAnew_32 ⟨Nat.le_of_ble_eq_true rfl, Nat.le_of_ble_eq_true rfl⟩) hS (fun q _ h => hFc q h) hFc (fun r_10 u t H_11 L_12 ht hvm hw hB hz1 hk1 hS => ?_)
  obtain ⟨hP1, -, hD1⟩ := hB
  rw [ht] at hP1
  obtain ⟨hP, hD⟩ := va_join (wr := [(h0, .inr (8, [.ref tp, .ref wd, .ref td, .ref pn, .ref mn, .ref cs, .ref nm, .ref rd])), (wd, .inr (7, [.ref tl, .ref wa1, .ref wa2, .ref wa3, .ref wa4, .int 0, .int sc])), (cs, .inr (0, [.ref ca1, .ref ca2, .ref ca3, .ref ca4, .int 0])), (nm, .inr (2, [.ref mn, .ref na1, .ref na2, .int 0]))]) (w1 := [(mn, .inr (1, [.ref wd, .ref ma1, .ref ma2, .ref ma3, .ref ma4, .ref ma5, .ref ma6, .ref ma7, .int 0, .int 0]))]) hP hD [1] [0, 2, 3, 4] rfl rfl (by decide) (by decide) hk1 hFc hP1 hD1
  have hP : va_P D vwCl [(h0, .inr (8, [.ref tp, .ref wd, .ref td, .ref pn, .ref mn, .ref cs, .ref nm, .ref rd])), (mn, .inr (1, [.ref wd, .ref ma1, .ref ma2, .ref ma3, .ref ma4, .ref ma5, .ref ma6, .ref ma7, .int 0, .int 0])), (wd, .inr (7, [.ref tl, .ref wa1, .ref wa2, .ref wa3, .ref wa4, .int 0, .int sc])), (cs, .inr (0, [.ref ca1, .ref ca2, .ref ca3, .ref ca4, .int 0])), (nm, .inr (2, [.ref mn, .ref na1, .ref na2, .int 0]))] H_11 := hP.sub [0, 4, 1, 2, 3] rfl
  have hD : va_D A [(h0, .inr (8, [.ref tp, .ref wd, .ref td, .ref pn, .ref mn, .ref cs, .ref nm, .ref rd])), (mn, .inr (1, [.ref wd, .ref ma1, .ref ma2, .ref ma3, .ref ma4, .ref ma5, .ref ma6, .ref ma7, .int 0, .int 0])), (wd, .inr (7, [.ref tl, .ref wa1, .ref wa2, .ref wa3, .ref wa4, .int 0, .int sc])), (cs, .inr (0, [.ref ca1, .ref ca2, .ref ca3, .ref ca4, .int 0])), (nm, .inr (2, [.ref mn, .ref na1, .ref na2, .int 0]))] := hD.sub [0, 4, 1, 2, 3] (by decide) rfl
  try dsimp only at hw
  subst hw
  refine lv_icmp_ge (tgt := 52) hx hb dX8_readAnew_35 (by decide) (fun c_13 => ?_) (fun c_13 => ?_)
  · have hP9 := hP.sub (ws' := [(h0, .inr (8, [.ref tp, .ref wd, .ref td, .ref pn, .ref mn, .ref cs, .ref nm, .ref rd])), (mn, .inr (1, [.ref wd, .ref ma1, .ref ma2, .ref ma3, .ref ma4, .ref ma5, .ref ma6, .ref ma7, .int 0, .int 0])), (wd, .inr (7, [.ref tl, .ref wa1, .ref wa2, .ref wa3, .ref wa4, .int 0, .int sc])), (cs, .inr (0, [.ref ca1, .ref ca2, .ref ca3, .ref ca4, .int 0])), (nm, .inr (2, [.ref mn, .ref na1, .ref na2, .int 0]))]) [0, 1, 2, 3, 4] rfl
    have hD9 := hD.sub (ws' := [(h0, .inr (8, [.ref tp, .ref wd, .ref td, .ref pn, .ref mn, .ref cs, .ref nm, .ref rd])), (mn, .inr (1, [.ref wd, .ref ma1, .ref ma2, .ref ma3, .ref ma4, .ref ma5, .ref ma6, .ref ma7, .int 0, .int 0])), (wd, .inr (7, [.ref tl, .ref wa1, .ref wa2, .ref wa3, .ref wa4, .int 0, .int sc])), (cs, .inr (0, [.ref ca1, .ref ca2, .ref ca3, .ref ca4, .int 0])), (nm, .inr (2, [.ref mn, .ref na1, .ref na2, .int 0]))]) [0, 1, 2, 3, 4] (by decide) rfl
    exact W.vret hx hb hr (fun t ht hW => ⟨⟨(), rfl, trivial, ⟨by rw [ht]; exact hP9, va_K.moved hW.alike hK, hD9⟩⟩, hS.F ht⟩) hS.2.2 dX8_readAnew_52
  · exact False.elim (by revert c_13; decide)
set_option maxHeartbeats 4000000 in
set_option maxRecDepth 100000 in
theorem c_X8_feed_0 (l : Launch) (D : va_G) (cB cI cZ : ClassId) (sz : Nat) (h0 : Nat) (tp : Nat) (wd : Nat) (td : Nat) (pn : Nat) (mn : Nat) (cs : Nat) (nm : Nat) (rd : Nat) (tpa : Nat) (f : Nat → Int32) (x1 : Int32) (x2 : Int32) (x3 : Int32) (x4 : Int32) (x5 : Int32) : Met l yX8_feed (.code yX8_feed cX8_feed 6 (some .int) :: wsL_law) ({ frames := 2, cells := 0, slots := 0, locals := 43 } : Room) (va_Pc [.ref h0, .int x1, .int x2, .int x3, .int x4, .int x5] (pIn D (pT cB cI cZ) sz [(h0, .inr (8, [.ref tp, .ref wd, .ref td, .ref pn, .ref mn, .ref cs, .ref nm, .ref rd])), (tp, .inr (5, [.ref tpa, .int 0])), (tpa, .inl (cB, 600, .inl f))])) (va_Qi (fun (r : Int32) (u : Unit) => r = 20) (fun (u : Unit) (t : State) => pAt D (pT cB cI cZ) (va_A [(h0, .inr (8, [.ref tp, .ref wd, .ref td, .ref pn, .ref mn, .ref cs, .ref nm, .ref rd])), (tp, .inr (5, [.ref tpa, .int 0])), (tpa, .inl (cB, 600, .inl f))] sz) [] t) (va_A [(h0, .inr (8, [.ref tp, .ref wd, .ref td, .ref pn, .ref mn, .ref cs, .ref nm, .ref rd])), (tp, .inr (5, [.ref tpa, .int 0])), (tpa, .inl (cB, 600, .inl f))] sz)) 0 0 (va_A [(h0, .inr (8, [.ref tp, .ref wd, .ref td, .ref pn, .ref mn, .ref cs, .ref nm, .ref rd])), (tp, .inr (5, [.ref tpa, .int 0])), (tpa, .inl (cB, 600, .inl f))] sz) := by
  refine Met.ofW (cc := cX8_feed) (maxL := 6) (ret := (some .int)) (by decide) rfl ?_
  intro p e s m args below meth c s₁ B hml hv
  obtain ⟨rfl, hsz, hP, hK, hD0⟩ := hv
  have hx := B.exec
  have hb := B.bytes
  have hr := B.returns
  have hts0 := atoms_spec (ws := .code yX8_feed cX8_feed 6 (some .int) :: wsL_law) B.pre
  have hts := fun (w : Cond) (h : w ∈ wsL_law) => hts0 w (List.mem_cons_of_mem _ h)
  have hown : s.vm.findClass RX8 = some m.cls := findClass_of_methodNamed B.named
  have hlocks := B.notSynchronized
  have hinX8 := inlX8
  subst hsz
  have hD := hD0.self (sz := s.heap.size)
  generalize hAe : va_A [(h0, .inr (8, [.ref tp, .ref wd, .ref td, .ref pn, .ref mn, .ref cs, .ref nm, .ref rd])), (tp, .inr (5, [.ref tpa, .int 0])), (tpa, .inl (cB, 600, .inl f))] s.heap.size = A at hD ⊢
  have hA : ∀ q : Nat, s.heap.size ≤ q → A q := fun q h => by rw [← hAe]; exact Or.inr h
  have hS : va_S A s.heap s.heap [] := va_S.rf
  have hP : va_P D vwCl [(h0, .inr (8, [.ref tp, .ref wd, .ref td, .ref pn, .ref mn, .ref cs, .ref nm, .ref rd])), (tp, .inr (5, [.ref tpa, .int 0])), (tpa, .inl (cB, 600, .inl f))] s.heap := hP
  have hl := lv_entry ([.ref h0, .int x1, .int x2, .int x3, .int x4, .int x5]) (n := 6) (Nat.le_of_ble_eq_true rfl)
  rw [lg_entry_eq]
  generalize (lg_sl ([.ref h0, .int x1, .int x2, .int x3, .int x4, .int x5]) ++ List.replicate (6 - (lg_sl ([.ref h0, .int x1, .int x2, .int x3, .int x4, .int x5])).length) Slot.unset).toArray = ls at hl ⊢
  have hl : lv_has ls 6 [(0, .ref h0), (1, .int x1), (2, .int x2), (3, .int x3), (4, .int x4), (5, .int x5)] := hl
  refine lv_aload_n hx hb dX8_feed_0 rfl (lv_at hl 0 rfl) ?_
  refine va_get (D := D) (ci := 8) (v := .ref tp) (C := RX8) (T := TX8) (N := 8) hx hb hts hinX8 hown hK hP 0 rfl rfl 0 (by decide) (hts (.fieldLink RX8 14 "TaleReader" "tape" "LTaleReader$Text;") (uc1 _ (List.mem_of_getElem? (i := 15) rfl))) (fun _ h9 => h9) rfl dX8_feed_1 ?_
  have hPc := hP.sub (ws' := [(tp, .inr (5, [.ref tpa, .int 0]))]) [1] rfl
  have hDc := hD.sub (ws' := [(tp, .inr (5, [.ref tpa, .int 0]))]) [1] (by decide) rfl
  have hFc := va_free (wc := [(tp, .inr (5, [.ref tpa, .int 0]))]) hD hS hA [1] rfl
  refine va_calli (va_runV (As := []) (rest := []) ⟨hx, hb, hml, hown, hts⟩ (c_X5_size l D cB cI cZ s.heap.size tp tpa 0) (cwV 0 hts (uV (uc7 _ (List.mem_of_getElem? (i := 21) rfl)) (uc7 _ (List.mem_of_getElem? (i := 22) rfl)) (uc7 _ (List.mem_of_getElem? (i := 23) rfl)) (uc1 _ (List.mem_of_getElem? (i := 14) rfl)) (uc8 _ (List.mem_of_getElem? (i := 0) rfl))) rfl rfl rfl (by decide +kernel) ⟨Nat.le_of_ble_eq_true rfl, Nat.le_of_ble_eq_true rfl⟩) (pV hK hPc hDc 0 rfl rfl) rfl rfl hl.1 rfl (lv_room (Nat.le_of_ble_eq_true rfl)) dX8_feed_4 ⟨Nat.le_of_ble_eq_true rfl, Nat.le_of_ble_eq_true rfl⟩) hS (fun q _ h => hFc q h) hFc (fun r_1 u t H_2 L_3 ht hvm hw hB hz1 hk1 hS => ?_)
  obtain ⟨hP1, -, hD1⟩ := hB
  rw [ht] at hP1
  obtain ⟨hP, hD⟩ := va_join (wr := [(h0, .inr (8, [.ref tp, .ref wd, .ref td, .ref pn, .ref mn, .ref cs, .ref nm, .ref rd])), (tpa, .inl (cB, 600, .inl f))]) (w1 := [(tp, .inr (5, [.ref tpa, .int 0]))]) hP hD [1] [0, 2] rfl rfl (by decide) (by decide) hk1 hFc hP1 hD1
  have hP : va_P D vwCl [(h0, .inr (8, [.ref tp, .ref wd, .ref td, .ref pn, .ref mn, .ref cs, .ref nm, .ref rd])), (tp, .inr (5, [.ref tpa, .int 0])), (tpa, .inl (cB, 600, .inl f))] H_2 := hP.sub [0, 2, 1] rfl
  have hD : va_D A [(h0, .inr (8, [.ref tp, .ref wd, .ref td, .ref pn, .ref mn, .ref cs, .ref nm, .ref rd])), (tp, .inr (5, [.ref tpa, .int 0])), (tpa, .inl (cB, 600, .inl f))] := hD.sub [0, 2, 1] (by decide) rfl
  try dsimp only at hw
  subst hw
  refine lv_bipush (v := 20) hx hb dX8_feed_7 (by decide) ?_
  refine lv_iadd hx hb dX8_feed_9 ?_
  refine lv_topi (fun z_4 ez_4 => ?_)
  obtain rfl : z_4 = 20 := ez_4.trans (by decide)
  refine lv_sipush (v := 600) hx hb dX8_feed_10 (by decide) ?_
  refine lv_icmp_le (tgt := 18) hx hb dX8_feed_13 (by decide) (fun c_5 => ?_) (fun c_5 => ?_)
  · refine lv_aload_n hx hb dX8_feed_18 rfl (lv_at hl 0 rfl) ?_
    refine va_get (D := D) (ci := 8) (v := .ref tp) (C := RX8) (T := TX8) (N := 8) hx hb hts hinX8 hown hK hP 0 rfl rfl 0 (by decide) (hts (.fieldLink RX8 14 "TaleReader" "tape" "LTaleReader$Text;") (uc1 _ (List.mem_of_getElem? (i := 15) rfl))) (fun _ h9 => h9) rfl dX8_feed_19 ?_
    refine lv_iload_n hx hb dX8_feed_22 rfl (lv_at hl 1 rfl) ?_
    have hPc := hP.sub (ws' := [(tp, .inr (5, [.ref tpa, .int (nI 0)])), (tpa, .inl (cB, 600, .inl f))]) [1, 2] rfl
    have hDc := hD.sub (ws' := [(tp, .inr (5, [.ref tpa, .int (nI 0)])), (tpa, .inl (cB, 600, .inl f))]) [1, 2] (by decide) rfl
    have hFc := va_free (wc := [(tp, .inr (5, [.ref tpa, .int (nI 0)])), (tpa, .inl (cB, 600, .inl f))]) hD hS hA [1, 2] rfl
    refine va_callv (va_runV (As := [.int x1]) (rest := []) ⟨hx, hb, hml, hown, hts⟩ (c_X5_addNumber l D cB cI cZ H_2.size tp tpa 600 0 f x1 (by omega) (by omega)) (cwV 1 hts (uV (uc8 _ (List.mem_of_getElem? (i := 1) rfl)) (uc8 _ (List.mem_of_getElem? (i := 2) rfl)) (uc8 _ (List.mem_of_getElem? (i := 3) rfl)) (uc1 _ (List.mem_of_getElem? (i := 14) rfl)) (uc8 _ (List.mem_of_getElem? (i := 4) rfl))) rfl rfl rfl (by decide +kernel) ⟨Nat.le_of_ble_eq_true rfl, Nat.le_of_ble_eq_true rfl⟩) (pV hK hPc hDc 0 rfl rfl) rfl rfl hl.1 rfl (lv_room (Nat.le_of_ble_eq_true rfl)) dX8_feed_23 ⟨Nat.le_of_ble_eq_true rfl, Nat.le_of_ble_eq_true rfl⟩) hS (fun q _ h => hFc q h) hFc (fun u t H_7 L_8 ht hvm hw hB hz1 hk1 hS => ?_)
    obtain ⟨g_9, rfl⟩ : ∃ z, z = u := ⟨_, rfl⟩
    obtain ⟨hP1, -, hD1⟩ := hB
    rw [ht] at hP1
    obtain ⟨hP, hD⟩ := va_join (wr := [(h0, .inr (8, [.ref tp, .ref wd, .ref td, .ref pn, .ref mn, .ref cs, .ref nm, .ref rd]))]) (w1 := [(tp, .inr (5, [.ref tpa, .int (nI 4)])), (tpa, .inl (cB, 600, .inl g_9))]) hP hD [1, 2] [0] rfl rfl (by decide) (by decide) hk1 hFc hP1 hD1
    have hP : va_P D vwCl [(h0, .inr (8, [.ref tp, .ref wd, .ref td, .ref pn, .ref mn, .ref cs, .ref nm, .ref rd])), (tp, .inr (5, [.ref tpa, .int (nI 4)])), (tpa, .inl (cB, 600, .inl g_9))] H_7 := hP.sub [0, 1, 2] rfl
    have hD : va_D A [(h0, .inr (8, [.ref tp, .ref wd, .ref td, .ref pn, .ref mn, .ref cs, .ref nm, .ref rd])), (tp, .inr (5, [.ref tpa, .int (nI 4)])), (tpa, .inl (cB, 600, .inl g_9))] := hD.sub [0, 1, 2] (by decide) rfl
    try dsimp only at hw
    refine lv_aload_n hx hb dX8_feed_26 rfl (lv_at hl 0 rfl) ?_
    refine va_get (D := D) (ci := 8) (v := .ref tp) (C := RX8) (T := TX8) (N := 8) hx hb hts hinX8 hown hK hP 0 rfl rfl 0 (by decide) (hts (.fieldLink RX8 14 "TaleReader" "tape" "LTaleReader$Text;") (uc1 _ (List.mem_of_getElem? (i := 15) rfl))) (fun _ h9 => h9) rfl dX8_feed_27 ?_
    refine lv_iload_n hx hb dX8_feed_30 rfl (lv_at hl 2 rfl) ?_
    have hPc := hP.sub (ws' := [(tp, .inr (5, [.ref tpa, .int (nI 4)])), (tpa, .inl (cB, 600, .inl g_9))]) [1, 2] rfl
    have hDc := hD.sub (ws' := [(tp, .inr (5, [.ref tpa, .int (nI 4)])), (tpa, .inl (cB, 600, .inl g_9))]) [1, 2] (by decide) rfl
    have hFc := va_free (wc := [(tp, .inr (5, [.ref tpa, .int (nI 4)])), (tpa, .inl (cB, 600, .inl g_9))]) hD hS hA [1, 2] rfl
    refine va_callv (va_runV (As := [.int x2]) (rest := []) ⟨hx, hb, hml, hown, hts⟩ (c_X5_addNumber l D cB cI cZ H_7.size tp tpa 600 4 g_9 x2 (by omega) (by omega)) (cwV 1 hts (uV (uc8 _ (List.mem_of_getElem? (i := 1) rfl)) (uc8 _ (List.mem_of_getElem? (i := 2) rfl)) (uc8 _ (List.mem_of_getElem? (i := 3) rfl)) (uc1 _ (List.mem_of_getElem? (i := 14) rfl)) (uc8 _ (List.mem_of_getElem? (i := 4) rfl))) rfl rfl rfl (by decide +kernel) ⟨Nat.le_of_ble_eq_true rfl, Nat.le_of_ble_eq_true rfl⟩) (pV hK hPc hDc 0 rfl rfl) rfl rfl hl.1 rfl (lv_room (Nat.le_of_ble_eq_true rfl)) dX8_feed_31 ⟨Nat.le_of_ble_eq_true rfl, Nat.le_of_ble_eq_true rfl⟩) hS (fun q _ h => hFc q h) hFc (fun u t H_11 L_12 ht hvm hw hB hz1 hk1 hS => ?_)
    obtain ⟨g_13, rfl⟩ : ∃ z, z = u := ⟨_, rfl⟩
    obtain ⟨hP1, -, hD1⟩ := hB
    rw [ht] at hP1
    obtain ⟨hP, hD⟩ := va_join (wr := [(h0, .inr (8, [.ref tp, .ref wd, .ref td, .ref pn, .ref mn, .ref cs, .ref nm, .ref rd]))]) (w1 := [(tp, .inr (5, [.ref tpa, .int (nI 8)])), (tpa, .inl (cB, 600, .inl g_13))]) hP hD [1, 2] [0] rfl rfl (by decide) (by decide) hk1 hFc hP1 hD1
    have hP : va_P D vwCl [(h0, .inr (8, [.ref tp, .ref wd, .ref td, .ref pn, .ref mn, .ref cs, .ref nm, .ref rd])), (tp, .inr (5, [.ref tpa, .int (nI 8)])), (tpa, .inl (cB, 600, .inl g_13))] H_11 := hP.sub [0, 1, 2] rfl
    have hD : va_D A [(h0, .inr (8, [.ref tp, .ref wd, .ref td, .ref pn, .ref mn, .ref cs, .ref nm, .ref rd])), (tp, .inr (5, [.ref tpa, .int (nI 8)])), (tpa, .inl (cB, 600, .inl g_13))] := hD.sub [0, 1, 2] (by decide) rfl
    try dsimp only at hw
    refine lv_aload_n hx hb dX8_feed_34 rfl (lv_at hl 0 rfl) ?_
    refine va_get (D := D) (ci := 8) (v := .ref tp) (C := RX8) (T := TX8) (N := 8) hx hb hts hinX8 hown hK hP 0 rfl rfl 0 (by decide) (hts (.fieldLink RX8 14 "TaleReader" "tape" "LTaleReader$Text;") (uc1 _ (List.mem_of_getElem? (i := 15) rfl))) (fun _ h9 => h9) rfl dX8_feed_35 ?_
    refine lv_iload_n hx hb dX8_feed_38 rfl (lv_at hl 3 rfl) ?_
    have hPc := hP.sub (ws' := [(tp, .inr (5, [.ref tpa, .int (nI 8)])), (tpa, .inl (cB, 600, .inl g_13))]) [1, 2] rfl
    have hDc := hD.sub (ws' := [(tp, .inr (5, [.ref tpa, .int (nI 8)])), (tpa, .inl (cB, 600, .inl g_13))]) [1, 2] (by decide) rfl
    have hFc := va_free (wc := [(tp, .inr (5, [.ref tpa, .int (nI 8)])), (tpa, .inl (cB, 600, .inl g_13))]) hD hS hA [1, 2] rfl
    refine va_callv (va_runV (As := [.int x3]) (rest := []) ⟨hx, hb, hml, hown, hts⟩ (c_X5_addNumber l D cB cI cZ H_11.size tp tpa 600 8 g_13 x3 (by omega) (by omega)) (cwV 1 hts (uV (uc8 _ (List.mem_of_getElem? (i := 1) rfl)) (uc8 _ (List.mem_of_getElem? (i := 2) rfl)) (uc8 _ (List.mem_of_getElem? (i := 3) rfl)) (uc1 _ (List.mem_of_getElem? (i := 14) rfl)) (uc8 _ (List.mem_of_getElem? (i := 4) rfl))) rfl rfl rfl (by decide +kernel) ⟨Nat.le_of_ble_eq_true rfl, Nat.le_of_ble_eq_true rfl⟩) (pV hK hPc hDc 0 rfl rfl) rfl rfl hl.1 rfl (lv_room (Nat.le_of_ble_eq_true rfl)) dX8_feed_39 ⟨Nat.le_of_ble_eq_true rfl, Nat.le_of_ble_eq_true rfl⟩) hS (fun q _ h => hFc q h) hFc (fun u t H_15 L_16 ht hvm hw hB hz1 hk1 hS => ?_)
    obtain ⟨g_17, rfl⟩ : ∃ z, z = u := ⟨_, rfl⟩
    obtain ⟨hP1, -, hD1⟩ := hB
    rw [ht] at hP1
    obtain ⟨hP, hD⟩ := va_join (wr := [(h0, .inr (8, [.ref tp, .ref wd, .ref td, .ref pn, .ref mn, .ref cs, .ref nm, .ref rd]))]) (w1 := [(tp, .inr (5, [.ref tpa, .int (nI 12)])), (tpa, .inl (cB, 600, .inl g_17))]) hP hD [1, 2] [0] rfl rfl (by decide) (by decide) hk1 hFc hP1 hD1
    have hP : va_P D vwCl [(h0, .inr (8, [.ref tp, .ref wd, .ref td, .ref pn, .ref mn, .ref cs, .ref nm, .ref rd])), (tp, .inr (5, [.ref tpa, .int (nI 12)])), (tpa, .inl (cB, 600, .inl g_17))] H_15 := hP.sub [0, 1, 2] rfl
    have hD : va_D A [(h0, .inr (8, [.ref tp, .ref wd, .ref td, .ref pn, .ref mn, .ref cs, .ref nm, .ref rd])), (tp, .inr (5, [.ref tpa, .int (nI 12)])), (tpa, .inl (cB, 600, .inl g_17))] := hD.sub [0, 1, 2] (by decide) rfl
    try dsimp only at hw
    refine lv_aload_n hx hb dX8_feed_42 rfl (lv_at hl 0 rfl) ?_
    refine va_get (D := D) (ci := 8) (v := .ref tp) (C := RX8) (T := TX8) (N := 8) hx hb hts hinX8 hown hK hP 0 rfl rfl 0 (by decide) (hts (.fieldLink RX8 14 "TaleReader" "tape" "LTaleReader$Text;") (uc1 _ (List.mem_of_getElem? (i := 15) rfl))) (fun _ h9 => h9) rfl dX8_feed_43 ?_
    refine lv_iload hx hb dX8_feed_46 (lv_at hl 4 rfl) ?_
    have hPc := hP.sub (ws' := [(tp, .inr (5, [.ref tpa, .int (nI 12)])), (tpa, .inl (cB, 600, .inl g_17))]) [1, 2] rfl
    have hDc := hD.sub (ws' := [(tp, .inr (5, [.ref tpa, .int (nI 12)])), (tpa, .inl (cB, 600, .inl g_17))]) [1, 2] (by decide) rfl
    have hFc := va_free (wc := [(tp, .inr (5, [.ref tpa, .int (nI 12)])), (tpa, .inl (cB, 600, .inl g_17))]) hD hS hA [1, 2] rfl
    refine va_callv (va_runV (As := [.int x4]) (rest := []) ⟨hx, hb, hml, hown, hts⟩ (c_X5_addNumber l D cB cI cZ H_15.size tp tpa 600 12 g_17 x4 (by omega) (by omega)) (cwV 1 hts (uV (uc8 _ (List.mem_of_getElem? (i := 1) rfl)) (uc8 _ (List.mem_of_getElem? (i := 2) rfl)) (uc8 _ (List.mem_of_getElem? (i := 3) rfl)) (uc1 _ (List.mem_of_getElem? (i := 14) rfl)) (uc8 _ (List.mem_of_getElem? (i := 4) rfl))) rfl rfl rfl (by decide +kernel) ⟨Nat.le_of_ble_eq_true rfl, Nat.le_of_ble_eq_true rfl⟩) (pV hK hPc hDc 0 rfl rfl) rfl rfl hl.1 rfl (lv_room (Nat.le_of_ble_eq_true rfl)) dX8_feed_48 ⟨Nat.le_of_ble_eq_true rfl, Nat.le_of_ble_eq_true rfl⟩) hS (fun q _ h => hFc q h) hFc (fun u t H_19 L_20 ht hvm hw hB hz1 hk1 hS => ?_)
    obtain ⟨g_21, rfl⟩ : ∃ z, z = u := ⟨_, rfl⟩
    obtain ⟨hP1, -, hD1⟩ := hB
    rw [ht] at hP1
    obtain ⟨hP, hD⟩ := va_join (wr := [(h0, .inr (8, [.ref tp, .ref wd, .ref td, .ref pn, .ref mn, .ref cs, .ref nm, .ref rd]))]) (w1 := [(tp, .inr (5, [.ref tpa, .int (nI 16)])), (tpa, .inl (cB, 600, .inl g_21))]) hP hD [1, 2] [0] rfl rfl (by decide) (by decide) hk1 hFc hP1 hD1
    have hP : va_P D vwCl [(h0, .inr (8, [.ref tp, .ref wd, .ref td, .ref pn, .ref mn, .ref cs, .ref nm, .ref rd])), (tp, .inr (5, [.ref tpa, .int (nI 16)])), (tpa, .inl (cB, 600, .inl g_21))] H_19 := hP.sub [0, 1, 2] rfl
    have hD : va_D A [(h0, .inr (8, [.ref tp, .ref wd, .ref td, .ref pn, .ref mn, .ref cs, .ref nm, .ref rd])), (tp, .inr (5, [.ref tpa, .int (nI 16)])), (tpa, .inl (cB, 600, .inl g_21))] := hD.sub [0, 1, 2] (by decide) rfl
    try dsimp only at hw
    refine lv_aload_n hx hb dX8_feed_51 rfl (lv_at hl 0 rfl) ?_
    refine va_get (D := D) (ci := 8) (v := .ref tp) (C := RX8) (T := TX8) (N := 8) hx hb hts hinX8 hown hK hP 0 rfl rfl 0 (by decide) (hts (.fieldLink RX8 14 "TaleReader" "tape" "LTaleReader$Text;") (uc1 _ (List.mem_of_getElem? (i := 15) rfl))) (fun _ h9 => h9) rfl dX8_feed_52 ?_
    refine lv_iload hx hb dX8_feed_55 (lv_at hl 5 rfl) ?_
    have hPc := hP.sub (ws' := [(tp, .inr (5, [.ref tpa, .int (nI 16)])), (tpa, .inl (cB, 600, .inl g_21))]) [1, 2] rfl
    have hDc := hD.sub (ws' := [(tp, .inr (5, [.ref tpa, .int (nI 16)])), (tpa, .inl (cB, 600, .inl g_21))]) [1, 2] (by decide) rfl
    have hFc := va_free (wc := [(tp, .inr (5, [.ref tpa, .int (nI 16)])), (tpa, .inl (cB, 600, .inl g_21))]) hD hS hA [1, 2] rfl
    refine va_callv (va_runV (As := [.int x5]) (rest := []) ⟨hx, hb, hml, hown, hts⟩ (c_X5_addNumber l D cB cI cZ H_19.size tp tpa 600 16 g_21 x5 (by omega) (by omega)) (cwV 1 hts (uV (uc8 _ (List.mem_of_getElem? (i := 1) rfl)) (uc8 _ (List.mem_of_getElem? (i := 2) rfl)) (uc8 _ (List.mem_of_getElem? (i := 3) rfl)) (uc1 _ (List.mem_of_getElem? (i := 14) rfl)) (uc8 _ (List.mem_of_getElem? (i := 4) rfl))) rfl rfl rfl (by decide +kernel) ⟨Nat.le_of_ble_eq_true rfl, Nat.le_of_ble_eq_true rfl⟩) (pV hK hPc hDc 0 rfl rfl) rfl rfl hl.1 rfl (lv_room (Nat.le_of_ble_eq_true rfl)) dX8_feed_57 ⟨Nat.le_of_ble_eq_true rfl, Nat.le_of_ble_eq_true rfl⟩) hS (fun q _ h => hFc q h) hFc (fun u t H_23 L_24 ht hvm hw hB hz1 hk1 hS => ?_)
    obtain ⟨g_25, rfl⟩ : ∃ z, z = u := ⟨_, rfl⟩
    obtain ⟨hP1, -, hD1⟩ := hB
    rw [ht] at hP1
    obtain ⟨hP, hD⟩ := va_join (wr := [(h0, .inr (8, [.ref tp, .ref wd, .ref td, .ref pn, .ref mn, .ref cs, .ref nm, .ref rd]))]) (w1 := [(tp, .inr (5, [.ref tpa, .int (nI 20)])), (tpa, .inl (cB, 600, .inl g_25))]) hP hD [1, 2] [0] rfl rfl (by decide) (by decide) hk1 hFc hP1 hD1
    have hP : va_P D vwCl [(h0, .inr (8, [.ref tp, .ref wd, .ref td, .ref pn, .ref mn, .ref cs, .ref nm, .ref rd])), (tp, .inr (5, [.ref tpa, .int (nI 20)])), (tpa, .inl (cB, 600, .inl g_25))] H_23 := hP.sub [0, 1, 2] rfl
    have hD : va_D A [(h0, .inr (8, [.ref tp, .ref wd, .ref td, .ref pn, .ref mn, .ref cs, .ref nm, .ref rd])), (tp, .inr (5, [.ref tpa, .int (nI 20)])), (tpa, .inl (cB, 600, .inl g_25))] := hD.sub [0, 1, 2] (by decide) rfl
    try dsimp only at hw
    refine lv_aload_n hx hb dX8_feed_60 rfl (lv_at hl 0 rfl) ?_
    refine va_get (D := D) (ci := 8) (v := .ref tp) (C := RX8) (T := TX8) (N := 8) hx hb hts hinX8 hown hK hP 0 rfl rfl 0 (by decide) (hts (.fieldLink RX8 14 "TaleReader" "tape" "LTaleReader$Text;") (uc1 _ (List.mem_of_getElem? (i := 15) rfl))) (fun _ h9 => h9) rfl dX8_feed_61 ?_
    have hPc := hP.sub (ws' := [(tp, .inr (5, [.ref tpa, .int (nI 20)]))]) [1] rfl
    have hDc := hD.sub (ws' := [(tp, .inr (5, [.ref tpa, .int (nI 20)]))]) [1] (by decide) rfl
    have hFc := va_free (wc := [(tp, .inr (5, [.ref tpa, .int (nI 20)]))]) hD hS hA [1] rfl
    refine va_calli (va_runV (As := []) (rest := []) ⟨hx, hb, hml, hown, hts⟩ (c_X5_size l D cB cI cZ H_23.size tp tpa (nI 20)) (cwV 0 hts (uV (uc7 _ (List.mem_of_getElem? (i := 21) rfl)) (uc7 _ (List.mem_of_getElem? (i := 22) rfl)) (uc7 _ (List.mem_of_getElem? (i := 23) rfl)) (uc1 _ (List.mem_of_getElem? (i := 14) rfl)) (uc8 _ (List.mem_of_getElem? (i := 0) rfl))) rfl rfl rfl (by decide +kernel) ⟨Nat.le_of_ble_eq_true rfl, Nat.le_of_ble_eq_true rfl⟩) (pV hK hPc hDc 0 rfl rfl) rfl rfl hl.1 rfl (lv_room (Nat.le_of_ble_eq_true rfl)) dX8_feed_64 ⟨Nat.le_of_ble_eq_true rfl, Nat.le_of_ble_eq_true rfl⟩) hS (fun q _ h => hFc q h) hFc (fun r_26 u t H_27 L_28 ht hvm hw hB hz1 hk1 hS => ?_)
    obtain ⟨hP1, -, hD1⟩ := hB
    rw [ht] at hP1
    obtain ⟨hP, hD⟩ := va_join (wr := [(h0, .inr (8, [.ref tp, .ref wd, .ref td, .ref pn, .ref mn, .ref cs, .ref nm, .ref rd])), (tpa, .inl (cB, 600, .inl g_25))]) (w1 := [(tp, .inr (5, [.ref tpa, .int (nI 20)]))]) hP hD [1] [0, 2] rfl rfl (by decide) (by decide) hk1 hFc hP1 hD1
    have hP : va_P D vwCl [(h0, .inr (8, [.ref tp, .ref wd, .ref td, .ref pn, .ref mn, .ref cs, .ref nm, .ref rd])), (tp, .inr (5, [.ref tpa, .int (nI 20)])), (tpa, .inl (cB, 600, .inl g_25))] H_27 := hP.sub [0, 2, 1] rfl
    have hD : va_D A [(h0, .inr (8, [.ref tp, .ref wd, .ref td, .ref pn, .ref mn, .ref cs, .ref nm, .ref rd])), (tp, .inr (5, [.ref tpa, .int (nI 20)])), (tpa, .inl (cB, 600, .inl g_25))] := hD.sub [0, 2, 1] (by decide) rfl
    try dsimp only at hw
    subst hw
    have hP9 := hP.sub (ws' := []) [] rfl
    have hD9 := hD.sub (ws' := []) [] (by decide) rfl
    exact W.iret (v := nI 20) hx hb hr (fun t ht hW => ⟨⟨nI 20, (), rfl, (by decide), ⟨by rw [ht]; exact hP9, va_K.moved hW.alike hK, hD9⟩⟩, hS.F ht⟩) hS.2.2 dX8_feed_67
  · exact False.elim (by revert c_5; decide)
set_option maxHeartbeats 4000000 in
set_option maxRecDepth 100000 in
theorem c_X8_end_0 (l : Launch) (D : va_G) (cB cI cZ : ClassId) (sz : Nat) (h0 : Nat) (tp : Nat) (wd : Nat) (td : Nat) (pn : Nat) (mn : Nat) (cs : Nat) (nm : Nat) (rd : Nat) (tpa : Nat) (k : Int32) : Met l yX8_end (.code yX8_end cX8_end 2 (some .boolean) :: wsL_law) ({ frames := 1, cells := 0, slots := 0, locals := 21 } : Room) (va_Pc [.ref h0, .int k] (pIn D (pT cB cI cZ) sz [(h0, .inr (8, [.ref tp, .ref wd, .ref td, .ref pn, .ref mn, .ref cs, .ref nm, .ref rd])), (tp, .inr (5, [.ref tpa, .int 0]))])) (va_Qi (fun (r : Int32) (u : Unit) => r = (if k = 0 then 1 else 0)) (fun (u : Unit) (t : State) => pAt D (pT cB cI cZ) (va_A [(h0, .inr (8, [.ref tp, .ref wd, .ref td, .ref pn, .ref mn, .ref cs, .ref nm, .ref rd])), (tp, .inr (5, [.ref tpa, .int 0]))] sz) [] t) (va_A [(h0, .inr (8, [.ref tp, .ref wd, .ref td, .ref pn, .ref mn, .ref cs, .ref nm, .ref rd])), (tp, .inr (5, [.ref tpa, .int 0]))] sz)) 0 0 (va_A [(h0, .inr (8, [.ref tp, .ref wd, .ref td, .ref pn, .ref mn, .ref cs, .ref nm, .ref rd])), (tp, .inr (5, [.ref tpa, .int 0]))] sz) := by
  refine Met.ofW (cc := cX8_end) (maxL := 2) (ret := (some .boolean)) (by decide) rfl ?_
  intro p e s m args below meth c s₁ B hml hv
  obtain ⟨rfl, hsz, hP, hK, hD0⟩ := hv
  have hx := B.exec
  have hb := B.bytes
  have hr := B.returns
  have hts0 := atoms_spec (ws := .code yX8_end cX8_end 2 (some .boolean) :: wsL_law) B.pre
  have hts := fun (w : Cond) (h : w ∈ wsL_law) => hts0 w (List.mem_cons_of_mem _ h)
  have hown : s.vm.findClass RX8 = some m.cls := findClass_of_methodNamed B.named
  have hlocks := B.notSynchronized
  have hinX8 := inlX8
  subst hsz
  have hD := hD0.self (sz := s.heap.size)
  generalize hAe : va_A [(h0, .inr (8, [.ref tp, .ref wd, .ref td, .ref pn, .ref mn, .ref cs, .ref nm, .ref rd])), (tp, .inr (5, [.ref tpa, .int 0]))] s.heap.size = A at hD ⊢
  have hA : ∀ q : Nat, s.heap.size ≤ q → A q := fun q h => by rw [← hAe]; exact Or.inr h
  have hS : va_S A s.heap s.heap [] := va_S.rf
  have hP : va_P D vwCl [(h0, .inr (8, [.ref tp, .ref wd, .ref td, .ref pn, .ref mn, .ref cs, .ref nm, .ref rd])), (tp, .inr (5, [.ref tpa, .int 0]))] s.heap := hP
  have hl := lv_entry ([.ref h0, .int k]) (n := 2) (Nat.le_of_ble_eq_true rfl)
  rw [lg_entry_eq]
  generalize (lg_sl ([.ref h0, .int k]) ++ List.replicate (2 - (lg_sl ([.ref h0, .int k])).length) Slot.unset).toArray = ls at hl ⊢
  have hl : lv_has ls 2 [(0, .ref h0), (1, .int k)] := hl
  refine lv_aload_n hx hb dX8_end_0 rfl (lv_at hl 0 rfl) ?_
  refine va_get (D := D) (ci := 8) (v := .ref tp) (C := RX8) (T := TX8) (N := 8) hx hb hts hinX8 hown hK hP 0 rfl rfl 0 (by decide) (hts (.fieldLink RX8 14 "TaleReader" "tape" "LTaleReader$Text;") (uc1 _ (List.mem_of_getElem? (i := 15) rfl))) (fun _ h9 => h9) rfl dX8_end_1 ?_
  refine lv_iload_n hx hb dX8_end_4 rfl (lv_at hl 1 rfl) ?_
  have hPc := hP.sub (ws' := [(tp, .inr (5, [.ref tpa, .int 0]))]) [1] rfl
  have hDc := hD.sub (ws' := [(tp, .inr (5, [.ref tpa, .int 0]))]) [1] (by decide) rfl
  have hFc := va_free (wc := [(tp, .inr (5, [.ref tpa, .int 0]))]) hD hS hA [1] rfl
  refine va_calli (va_runV (As := [.int k]) (rest := []) ⟨hx, hb, hml, hown, hts⟩ (c_X5_shorten l D cB cI cZ s.heap.size tp tpa 0 k) (cwV 1 hts (uV (uc8 _ (List.mem_of_getElem? (i := 18) rfl)) (uc8 _ (List.mem_of_getElem? (i := 19) rfl)) (uc8 _ (List.mem_of_getElem? (i := 20) rfl)) (uc1 _ (List.mem_of_getElem? (i := 14) rfl)) (uc8 _ (List.mem_of_getElem? (i := 21) rfl))) rfl rfl rfl (by decide +kernel) ⟨Nat.le_of_ble_eq_true rfl, Nat.le_of_ble_eq_true rfl⟩) (pV hK hPc hDc 0 rfl rfl) rfl rfl hl.1 rfl (lv_room (Nat.le_of_ble_eq_true rfl)) dX8_end_5 ⟨Nat.le_of_ble_eq_true rfl, Nat.le_of_ble_eq_true rfl⟩) hS (fun q _ h => hFc q h) hFc (fun r_1 u t H_2 L_3 ht hvm hw hB hz1 hk1 hS => ?_)
  obtain ⟨v_4, rfl⟩ : ∃ z, z = u := ⟨_, rfl⟩
  obtain ⟨hP1, -, hD1⟩ := hB
  rw [ht] at hP1
  obtain ⟨hP, hD⟩ := va_join (wr := [(h0, .inr (8, [.ref tp, .ref wd, .ref td, .ref pn, .ref mn, .ref cs, .ref nm, .ref rd]))]) (w1 := [(tp, .inr (5, [.ref tpa, .int v_4]))]) hP hD [1] [0] rfl rfl (by decide) (by decide) hk1 hFc hP1 hD1
  have hP : va_P D vwCl [(h0, .inr (8, [.ref tp, .ref wd, .ref td, .ref pn, .ref mn, .ref cs, .ref nm, .ref rd])), (tp, .inr (5, [.ref tpa, .int v_4]))] H_2 := hP.sub [0, 1] rfl
  have hD : va_D A [(h0, .inr (8, [.ref tp, .ref wd, .ref td, .ref pn, .ref mn, .ref cs, .ref nm, .ref rd])), (tp, .inr (5, [.ref tpa, .int v_4]))] := hD.sub [0, 1] (by decide) rfl
  try dsimp only at hw
  rcases hw with ⟨rfl, h_5, h_6⟩ | ⟨rfl, h_7, h_8, h_9⟩
  · have hb0 := h_6
    have hP9 := hP.sub (ws' := []) [] rfl
    have hD9 := hD.sub (ws' := []) [] (by decide) rfl
    exact W.zret (v := 0) hx hb hr (rfl) (fun t ht hW => ⟨⟨0, (), rfl, (if_neg (fun q => by subst q; revert hb0; decide)).symm, ⟨by rw [ht]; exact hP9, va_K.moved hW.alike hK, hD9⟩⟩, hS.F ht⟩) hS.2.2 dX8_end_8
  · have ha0 := h_8
    have ha1 := h_9
    have hP9 := hP.sub (ws' := []) [] rfl
    have hD9 := hD.sub (ws' := []) [] (by decide) rfl
    exact W.zret (v := 1) hx hb hr (rfl) (fun t ht hW => ⟨⟨1, (), rfl, (if_pos (pE2 ha0 ha1)).symm, ⟨by rw [ht]; exact hP9, va_K.moved hW.alike hK, hD9⟩⟩, hS.F ht⟩) hS.2.2 dX8_end_8
set_option maxHeartbeats 4000000 in
set_option maxRecDepth 100000 in
theorem c_X8_read_0 (l : Launch) (D : va_G) (cB cI cZ : ClassId) (sz : Nat) (h0 : Nat) (tp : Nat) (wd : Nat) (td : Nat) (pn : Nat) (mn : Nat) (cs : Nat) (nm : Nat) (rd : Nat) (tpa : Nat) (tl : Nat) (tla : Nat) (wa1 : Nat) (wa2 : Nat) (wa3 : Nat) (wa4 : Nat) (pna : Nat) (ma1 : Nat) (ma2 : Nat) (ma3 : Nat) (ma4 : Nat) (ma5 : Nat) (ma6 : Nat) (ma7 : Nat) (ca1 : Nat) (ca2 : Nat) (ca3 : Nat) (ca4 : Nat) (na1 : Nat) (na2 : Nat) (g : Nat → Int32) : Met l yX8_read (.code yX8_read cX8_read 1 (some .int) :: wsL_law) ({ frames := 3, cells := 0, slots := 0, locals := 66 } : Room) (va_Pc [.ref h0] (pIn D (pT cB cI cZ) sz [(h0, .inr (8, [.ref tp, .ref wd, .ref td, .ref pn, .ref mn, .ref cs, .ref nm, .ref rd])), (tp, .inr (5, [.ref tpa, .int 0])), (wd, .inr (7, [.ref tl, .ref wa1, .ref wa2, .ref wa3, .ref wa4, .int 0, .int 0])), (tl, .inr (5, [.ref tla, .int 0])), (pn, .inr (3, [.ref pna, .int 0])), (pna, .inl (cI, 80, .inl g)), (mn, .inr (1, [.ref wd, .ref ma1, .ref ma2, .ref ma3, .ref ma4, .ref ma5, .ref ma6, .ref ma7, .int 0, .int 0])), (cs, .inr (0, [.ref ca1, .ref ca2, .ref ca3, .ref ca4, .int 0])), (nm, .inr (2, [.ref mn, .ref na1, .ref na2, .int 0]))])) (va_Qi (fun (r : Int32) (u : Unit) => r = 0) (fun (u : Unit) (t : State) => pAt D (pT cB cI cZ) (va_A [(h0, .inr (8, [.ref tp, .ref wd, .ref td, .ref pn, .ref mn, .ref cs, .ref nm, .ref rd])), (tp, .inr (5, [.ref tpa, .int 0])), (wd, .inr (7, [.ref tl, .ref wa1, .ref wa2, .ref wa3, .ref wa4, .int 0, .int 0])), (tl, .inr (5, [.ref tla, .int 0])), (pn, .inr (3, [.ref pna, .int 0])), (pna, .inl (cI, 80, .inl g)), (mn, .inr (1, [.ref wd, .ref ma1, .ref ma2, .ref ma3, .ref ma4, .ref ma5, .ref ma6, .ref ma7, .int 0, .int 0])), (cs, .inr (0, [.ref ca1, .ref ca2, .ref ca3, .ref ca4, .int 0])), (nm, .inr (2, [.ref mn, .ref na1, .ref na2, .int 0]))] sz) [] t) (va_A [(h0, .inr (8, [.ref tp, .ref wd, .ref td, .ref pn, .ref mn, .ref cs, .ref nm, .ref rd])), (tp, .inr (5, [.ref tpa, .int 0])), (wd, .inr (7, [.ref tl, .ref wa1, .ref wa2, .ref wa3, .ref wa4, .int 0, .int 0])), (tl, .inr (5, [.ref tla, .int 0])), (pn, .inr (3, [.ref pna, .int 0])), (pna, .inl (cI, 80, .inl g)), (mn, .inr (1, [.ref wd, .ref ma1, .ref ma2, .ref ma3, .ref ma4, .ref ma5, .ref ma6, .ref ma7, .int 0, .int 0])), (cs, .inr (0, [.ref ca1, .ref ca2, .ref ca3, .ref ca4, .int 0])), (nm, .inr (2, [.ref mn, .ref na1, .ref na2, .int 0]))] sz)) 0 0 (va_A [(h0, .inr (8, [.ref tp, .ref wd, .ref td, .ref pn, .ref mn, .ref cs, .ref nm, .ref rd])), (tp, .inr (5, [.ref tpa, .int 0])), (wd, .inr (7, [.ref tl, .ref wa1, .ref wa2, .ref wa3, .ref wa4, .int 0, .int 0])), (tl, .inr (5, [.ref tla, .int 0])), (pn, .inr (3, [.ref pna, .int 0])), (pna, .inl (cI, 80, .inl g)), (mn, .inr (1, [.ref wd, .ref ma1, .ref ma2, .ref ma3, .ref ma4, .ref ma5, .ref ma6, .ref ma7, .int 0, .int 0])), (cs, .inr (0, [.ref ca1, .ref ca2, .ref ca3, .ref ca4, .int 0])), (nm, .inr (2, [.ref mn, .ref na1, .ref na2, .int 0]))] sz) := by
  refine Met.ofW (cc := cX8_read) (maxL := 1) (ret := (some .int)) (by decide) rfl ?_
  intro p e s m args below meth c s₁ B hml hv
  obtain ⟨rfl, hsz, hP, hK, hD0⟩ := hv
  have hx := B.exec
  have hb := B.bytes
  have hr := B.returns
  have hts0 := atoms_spec (ws := .code yX8_read cX8_read 1 (some .int) :: wsL_law) B.pre
  have hts := fun (w : Cond) (h : w ∈ wsL_law) => hts0 w (List.mem_cons_of_mem _ h)
  have hown : s.vm.findClass RX8 = some m.cls := findClass_of_methodNamed B.named
  have hlocks := B.notSynchronized
  have hinX8 := inlX8
  subst hsz
  have hD := hD0.self (sz := s.heap.size)
  generalize hAe : va_A [(h0, .inr (8, [.ref tp, .ref wd, .ref td, .ref pn, .ref mn, .ref cs, .ref nm, .ref rd])), (tp, .inr (5, [.ref tpa, .int 0])), (wd, .inr (7, [.ref tl, .ref wa1, .ref wa2, .ref wa3, .ref wa4, .int 0, .int 0])), (tl, .inr (5, [.ref tla, .int 0])), (pn, .inr (3, [.ref pna, .int 0])), (pna, .inl (cI, 80, .inl g)), (mn, .inr (1, [.ref wd, .ref ma1, .ref ma2, .ref ma3, .ref ma4, .ref ma5, .ref ma6, .ref ma7, .int 0, .int 0])), (cs, .inr (0, [.ref ca1, .ref ca2, .ref ca3, .ref ca4, .int 0])), (nm, .inr (2, [.ref mn, .ref na1, .ref na2, .int 0]))] s.heap.size = A at hD ⊢
  have hA : ∀ q : Nat, s.heap.size ≤ q → A q := fun q h => by rw [← hAe]; exact Or.inr h
  have hS : va_S A s.heap s.heap [] := va_S.rf
  have hP : va_P D vwCl [(h0, .inr (8, [.ref tp, .ref wd, .ref td, .ref pn, .ref mn, .ref cs, .ref nm, .ref rd])), (tp, .inr (5, [.ref tpa, .int 0])), (wd, .inr (7, [.ref tl, .ref wa1, .ref wa2, .ref wa3, .ref wa4, .int 0, .int 0])), (tl, .inr (5, [.ref tla, .int 0])), (pn, .inr (3, [.ref pna, .int 0])), (pna, .inl (cI, 80, .inl g)), (mn, .inr (1, [.ref wd, .ref ma1, .ref ma2, .ref ma3, .ref ma4, .ref ma5, .ref ma6, .ref ma7, .int 0, .int 0])), (cs, .inr (0, [.ref ca1, .ref ca2, .ref ca3, .ref ca4, .int 0])), (nm, .inr (2, [.ref mn, .ref na1, .ref na2, .int 0]))] s.heap := hP
  have hl := lv_entry ([.ref h0]) (n := 1) (Nat.le_of_ble_eq_true rfl)
  rw [lg_entry_eq]
  generalize (lg_sl ([.ref h0]) ++ List.replicate (1 - (lg_sl ([.ref h0])).length) Slot.unset).toArray = ls at hl ⊢
  have hl : lv_has ls 1 [(0, .ref h0)] := hl
  refine lv_aload_n hx hb dX8_read_0 rfl (lv_at hl 0 rfl) ?_
  refine va_get (D := D) (ci := 8) (v := .ref wd) (C := RX8) (T := TX8) (N := 8) hx hb hts hinX8 hown hK hP 0 rfl rfl 1 (by decide) (hts (.fieldLink RX8 21 "TaleReader" "words" "LTaleReader$Words;") (uc1 _ (List.mem_of_getElem? (i := 19) rfl))) (fun _ h9 => h9) rfl dX8_read_1 ?_
  refine lv_aload_n hx hb dX8_read_4 rfl (lv_at hl 0 rfl) ?_
  refine va_get (D := D) (ci := 8) (v := .ref tp) (C := RX8) (T := TX8) (N := 8) hx hb hts hinX8 hown hK hP 0 rfl rfl 0 (by decide) (hts (.fieldLink RX8 14 "TaleReader" "tape" "LTaleReader$Text;") (uc1 _ (List.mem_of_getElem? (i := 15) rfl))) (fun _ h9 => h9) rfl dX8_read_5 ?_
  have hPc := hP.sub (ws' := [(wd, .inr (7, [.ref tl, .ref wa1, .ref wa2, .ref wa3, .ref wa4, .int 0, .int 0])), (tl, .inr (5, [.ref tla, .int 0])), (tp, .inr (5, [.ref tpa, .int 0]))]) [2, 3, 1] rfl
  have hDc := hD.sub (ws' := [(wd, .inr (7, [.ref tl, .ref wa1, .ref wa2, .ref wa3, .ref wa4, .int 0, .int 0])), (tl, .inr (5, [.ref tla, .int 0])), (tp, .inr (5, [.ref tpa, .int 0]))]) [2, 3, 1] (by decide) rfl
  have hFc := va_free (wc := [(wd, .inr (7, [.ref tl, .ref wa1, .ref wa2, .ref wa3, .ref wa4, .int 0, .int 0])), (tl, .inr (5, [.ref tla, .int 0])), (tp, .inr (5, [.ref tpa, .int 0]))]) hD hS hA [2, 3, 1] rfl
  refine va_callv (va_runV (As := [.ref tp]) (rest := []) ⟨hx, hb, hml, hown, hts⟩ (c_X7_take_0 l D cB cI cZ s.heap.size wd tl tla wa1 wa2 wa3 wa4 0 0 tp tpa 0) (cwV 1 hts (uV (uc9 _ (List.mem_of_getElem? (i := 9) rfl)) (uc9 _ (List.mem_of_getElem? (i := 10) rfl)) (uc9 _ (List.mem_of_getElem? (i := 11) rfl)) (uc1 _ (List.mem_of_getElem? (i := 18) rfl)) (uc9 _ (List.mem_of_getElem? (i := 12) rfl))) rfl rfl rfl (by decide +kernel) ⟨Nat.le_of_ble_eq_true rfl, Nat.le_of_ble_eq_true rfl⟩) (pV hK hPc hDc 0 rfl rfl) rfl rfl hl.1 rfl (lv_room (Nat.le_of_ble_eq_true rfl)) dX8_read_8 ⟨Nat.le_of_ble_eq_true rfl, Nat.le_of_ble_eq_true rfl⟩) hS (fun q _ h => hFc q h) hFc (fun u t H_2 L_3 ht hvm hw hB hz1 hk1 hS => ?_)
  obtain ⟨hP1, -, hD1⟩ := hB
  rw [ht] at hP1
  obtain ⟨hP, hD⟩ := va_join (wr := [(h0, .inr (8, [.ref tp, .ref wd, .ref td, .ref pn, .ref mn, .ref cs, .ref nm, .ref rd])), (pn, .inr (3, [.ref pna, .int 0])), (pna, .inl (cI, 80, .inl g)), (mn, .inr (1, [.ref wd, .ref ma1, .ref ma2, .ref ma3, .ref ma4, .ref ma5, .ref ma6, .ref ma7, .int 0, .int 0])), (cs, .inr (0, [.ref ca1, .ref ca2, .ref ca3, .ref ca4, .int 0])), (nm, .inr (2, [.ref mn, .ref na1, .ref na2, .int 0]))]) (w1 := [(wd, .inr (7, [.ref tl, .ref wa1, .ref wa2, .ref wa3, .ref wa4, .int 0, .int 0])), (tl, .inr (5, [.ref tla, .int 0])), (tp, .inr (5, [.ref tpa, .int 0]))]) hP hD [2, 3, 1] [0, 4, 5, 6, 7, 8] rfl rfl (by decide) (by decide) hk1 hFc hP1 hD1
  have hP : va_P D vwCl [(h0, .inr (8, [.ref tp, .ref wd, .ref td, .ref pn, .ref mn, .ref cs, .ref nm, .ref rd])), (tp, .inr (5, [.ref tpa, .int 0])), (wd, .inr (7, [.ref tl, .ref wa1, .ref wa2, .ref wa3, .ref wa4, .int 0, .int 0])), (tl, .inr (5, [.ref tla, .int 0])), (pn, .inr (3, [.ref pna, .int 0])), (pna, .inl (cI, 80, .inl g)), (mn, .inr (1, [.ref wd, .ref ma1, .ref ma2, .ref ma3, .ref ma4, .ref ma5, .ref ma6, .ref ma7, .int 0, .int 0])), (cs, .inr (0, [.ref ca1, .ref ca2, .ref ca3, .ref ca4, .int 0])), (nm, .inr (2, [.ref mn, .ref na1, .ref na2, .int 0]))] H_2 := hP.sub [0, 8, 6, 7, 1, 2, 3, 4, 5] rfl
  have hD : va_D A [(h0, .inr (8, [.ref tp, .ref wd, .ref td, .ref pn, .ref mn, .ref cs, .ref nm, .ref rd])), (tp, .inr (5, [.ref tpa, .int 0])), (wd, .inr (7, [.ref tl, .ref wa1, .ref wa2, .ref wa3, .ref wa4, .int 0, .int 0])), (tl, .inr (5, [.ref tla, .int 0])), (pn, .inr (3, [.ref pna, .int 0])), (pna, .inl (cI, 80, .inl g)), (mn, .inr (1, [.ref wd, .ref ma1, .ref ma2, .ref ma3, .ref ma4, .ref ma5, .ref ma6, .ref ma7, .int 0, .int 0])), (cs, .inr (0, [.ref ca1, .ref ca2, .ref ca3, .ref ca4, .int 0])), (nm, .inr (2, [.ref mn, .ref na1, .ref na2, .int 0]))] := hD.sub [0, 8, 6, 7, 1, 2, 3, 4, 5] (by decide) rfl
  try dsimp only at hw
  refine lv_aload_n hx hb dX8_read_11 rfl (lv_at hl 0 rfl) ?_
  refine va_get (D := D) (ci := 8) (v := .ref tp) (C := RX8) (T := TX8) (N := 8) hx hb hts hinX8 hown hK hP 0 rfl rfl 0 (by decide) (hts (.fieldLink RX8 14 "TaleReader" "tape" "LTaleReader$Text;") (uc1 _ (List.mem_of_getElem? (i := 15) rfl))) (fun _ h9 => h9) rfl dX8_read_12 ?_
  have hPc := hP.sub (ws' := [(tp, .inr (5, [.ref tpa, .int 0]))]) [1] rfl
  have hDc := hD.sub (ws' := [(tp, .inr (5, [.ref tpa, .int 0]))]) [1] (by decide) rfl
  have hFc := va_free (wc := [(tp, .inr (5, [.ref tpa, .int 0]))]) hD hS hA [1] rfl
  refine va_callv (va_runV (As := []) (rest := []) ⟨hx, hb, hml, hown, hts⟩ (c_X5_clear l D cB cI cZ H_2.size tp tpa 0) (cwV 0 hts (uV (uc15 _ (List.mem_of_getElem? (i := 9) rfl)) (uc9 _ (List.mem_of_getElem? (i := 14) rfl)) (uc9 _ (List.mem_of_getElem? (i := 15) rfl)) (uc1 _ (List.mem_of_getElem? (i := 14) rfl)) (uc9 _ (List.mem_of_getElem? (i := 16) rfl))) rfl rfl rfl (by decide +kernel) ⟨Nat.le_of_ble_eq_true rfl, Nat.le_of_ble_eq_true rfl⟩) (pV hK hPc hDc 0 rfl rfl) rfl rfl hl.1 rfl (lv_room (Nat.le_of_ble_eq_true rfl)) dX8_read_15 ⟨Nat.le_of_ble_eq_true rfl, Nat.le_of_ble_eq_true rfl⟩) hS (fun q _ h => hFc q h) hFc (fun u t H_5 L_6 ht hvm hw hB hz1 hk1 hS => ?_)
  obtain ⟨hP1, -, hD1⟩ := hB
  rw [ht] at hP1
  obtain ⟨hP, hD⟩ := va_join (wr := [(h0, .inr (8, [.ref tp, .ref wd, .ref td, .ref pn, .ref mn, .ref cs, .ref nm, .ref rd])), (wd, .inr (7, [.ref tl, .ref wa1, .ref wa2, .ref wa3, .ref wa4, .int 0, .int 0])), (tl, .inr (5, [.ref tla, .int 0])), (pn, .inr (3, [.ref pna, .int 0])), (pna, .inl (cI, 80, .inl g)), (mn, .inr (1, [.ref wd, .ref ma1, .ref ma2, .ref ma3, .ref ma4, .ref ma5, .ref ma6, .ref ma7, .int 0, .int 0])), (cs, .inr (0, [.ref ca1, .ref ca2, .ref ca3, .ref ca4, .int 0])), (nm, .inr (2, [.ref mn, .ref na1, .ref na2, .int 0]))]) (w1 := [(tp, .inr (5, [.ref tpa, .int 0]))]) hP hD [1] [0, 2, 3, 4, 5, 6, 7, 8] rfl rfl (by decide) (by decide) hk1 hFc hP1 hD1
  have hP : va_P D vwCl [(h0, .inr (8, [.ref tp, .ref wd, .ref td, .ref pn, .ref mn, .ref cs, .ref nm, .ref rd])), (tp, .inr (5, [.ref tpa, .int 0])), (wd, .inr (7, [.ref tl, .ref wa1, .ref wa2, .ref wa3, .ref wa4, .int 0, .int 0])), (tl, .inr (5, [.ref tla, .int 0])), (pn, .inr (3, [.ref pna, .int 0])), (pna, .inl (cI, 80, .inl g)), (mn, .inr (1, [.ref wd, .ref ma1, .ref ma2, .ref ma3, .ref ma4, .ref ma5, .ref ma6, .ref ma7, .int 0, .int 0])), (cs, .inr (0, [.ref ca1, .ref ca2, .ref ca3, .ref ca4, .int 0])), (nm, .inr (2, [.ref mn, .ref na1, .ref na2, .int 0]))] H_5 := hP.sub [0, 8, 1, 2, 3, 4, 5, 6, 7] rfl
  have hD : va_D A [(h0, .inr (8, [.ref tp, .ref wd, .ref td, .ref pn, .ref mn, .ref cs, .ref nm, .ref rd])), (tp, .inr (5, [.ref tpa, .int 0])), (wd, .inr (7, [.ref tl, .ref wa1, .ref wa2, .ref wa3, .ref wa4, .int 0, .int 0])), (tl, .inr (5, [.ref tla, .int 0])), (pn, .inr (3, [.ref pna, .int 0])), (pna, .inl (cI, 80, .inl g)), (mn, .inr (1, [.ref wd, .ref ma1, .ref ma2, .ref ma3, .ref ma4, .ref ma5, .ref ma6, .ref ma7, .int 0, .int 0])), (cs, .inr (0, [.ref ca1, .ref ca2, .ref ca3, .ref ca4, .int 0])), (nm, .inr (2, [.ref mn, .ref na1, .ref na2, .int 0]))] := hD.sub [0, 8, 1, 2, 3, 4, 5, 6, 7] (by decide) rfl
  try dsimp only at hw
  refine lv_aload_n hx hb dX8_read_18 rfl (lv_at hl 0 rfl) ?_
  refine va_get (D := D) (ci := 8) (v := .ref pn) (C := RX8) (T := TX8) (N := 8) hx hb hts hinX8 hown hK hP 0 rfl rfl 3 (by decide) (hts (.fieldLink RX8 35 "TaleReader" "pins" "LTaleReader$Pins;") (uc2 _ (List.mem_of_getElem? (i := 3) rfl))) (fun _ h9 => h9) rfl dX8_read_19 ?_
  have hPc := hP.sub (ws' := [(pn, .inr (3, [.ref pna, .int 0])), (pna, .inl (cI, 80, .inl g))]) [4, 5] rfl
  have hDc := hD.sub (ws' := [(pn, .inr (3, [.ref pna, .int 0])), (pna, .inl (cI, 80, .inl g))]) [4, 5] (by decide) rfl
  have hFc := va_free (wc := [(pn, .inr (3, [.ref pna, .int 0])), (pna, .inl (cI, 80, .inl g))]) hD hS hA [4, 5] rfl
  refine va_callv (va_runV (As := []) (rest := []) ⟨hx, hb, hml, hown, hts⟩ (c_X3_clear l D cB cI cZ H_5.size pn pna 0 g) (cwV 0 hts (uV (uc15 _ (List.mem_of_getElem? (i := 10) rfl)) (uc15 _ (List.mem_of_getElem? (i := 11) rfl)) (uc15 _ (List.mem_of_getElem? (i := 12) rfl)) (uc2 _ (List.mem_of_getElem? (i := 2) rfl)) (uc15 _ (List.mem_of_getElem? (i := 13) rfl))) rfl rfl rfl (by decide +kernel) ⟨Nat.le_of_ble_eq_true rfl, Nat.le_of_ble_eq_true rfl⟩) (pV hK hPc hDc 0 rfl rfl) rfl rfl hl.1 rfl (lv_room (Nat.le_of_ble_eq_true rfl)) dX8_read_22 ⟨Nat.le_of_ble_eq_true rfl, Nat.le_of_ble_eq_true rfl⟩) hS (fun q _ h => hFc q h) hFc (fun u t H_8 L_9 ht hvm hw hB hz1 hk1 hS => ?_)
  obtain ⟨g_10, rfl⟩ : ∃ z, z = u := ⟨_, rfl⟩
  obtain ⟨hP1, -, hD1⟩ := hB
  rw [ht] at hP1
  obtain ⟨hP, hD⟩ := va_join (wr := [(h0, .inr (8, [.ref tp, .ref wd, .ref td, .ref pn, .ref mn, .ref cs, .ref nm, .ref rd])), (tp, .inr (5, [.ref tpa, .int 0])), (wd, .inr (7, [.ref tl, .ref wa1, .ref wa2, .ref wa3, .ref wa4, .int 0, .int 0])), (tl, .inr (5, [.ref tla, .int 0])), (mn, .inr (1, [.ref wd, .ref ma1, .ref ma2, .ref ma3, .ref ma4, .ref ma5, .ref ma6, .ref ma7, .int 0, .int 0])), (cs, .inr (0, [.ref ca1, .ref ca2, .ref ca3, .ref ca4, .int 0])), (nm, .inr (2, [.ref mn, .ref na1, .ref na2, .int 0]))]) (w1 := [(pn, .inr (3, [.ref pna, .int 0])), (pna, .inl (cI, 80, .inl g_10))]) hP hD [4, 5] [0, 1, 2, 3, 6, 7, 8] rfl rfl (by decide) (by decide) hk1 hFc hP1 hD1
  have hP : va_P D vwCl [(h0, .inr (8, [.ref tp, .ref wd, .ref td, .ref pn, .ref mn, .ref cs, .ref nm, .ref rd])), (tp, .inr (5, [.ref tpa, .int 0])), (wd, .inr (7, [.ref tl, .ref wa1, .ref wa2, .ref wa3, .ref wa4, .int 0, .int 0])), (tl, .inr (5, [.ref tla, .int 0])), (pn, .inr (3, [.ref pna, .int 0])), (pna, .inl (cI, 80, .inl g_10)), (mn, .inr (1, [.ref wd, .ref ma1, .ref ma2, .ref ma3, .ref ma4, .ref ma5, .ref ma6, .ref ma7, .int 0, .int 0])), (cs, .inr (0, [.ref ca1, .ref ca2, .ref ca3, .ref ca4, .int 0])), (nm, .inr (2, [.ref mn, .ref na1, .ref na2, .int 0]))] H_8 := hP.sub [0, 1, 2, 3, 7, 8, 4, 5, 6] rfl
  have hD : va_D A [(h0, .inr (8, [.ref tp, .ref wd, .ref td, .ref pn, .ref mn, .ref cs, .ref nm, .ref rd])), (tp, .inr (5, [.ref tpa, .int 0])), (wd, .inr (7, [.ref tl, .ref wa1, .ref wa2, .ref wa3, .ref wa4, .int 0, .int 0])), (tl, .inr (5, [.ref tla, .int 0])), (pn, .inr (3, [.ref pna, .int 0])), (pna, .inl (cI, 80, .inl g_10)), (mn, .inr (1, [.ref wd, .ref ma1, .ref ma2, .ref ma3, .ref ma4, .ref ma5, .ref ma6, .ref ma7, .int 0, .int 0])), (cs, .inr (0, [.ref ca1, .ref ca2, .ref ca3, .ref ca4, .int 0])), (nm, .inr (2, [.ref mn, .ref na1, .ref na2, .int 0]))] := hD.sub [0, 1, 2, 3, 7, 8, 4, 5, 6] (by decide) rfl
  try dsimp only at hw
  have h_11 := hw
  refine lv_aload_n hx hb dX8_read_25 rfl (lv_at hl 0 rfl) ?_
  have hPc := hP.sub (ws' := [(h0, .inr (8, [.ref tp, .ref wd, .ref td, .ref pn, .ref mn, .ref cs, .ref nm, .ref rd])), (mn, .inr (1, [.ref wd, .ref ma1, .ref ma2, .ref ma3, .ref ma4, .ref ma5, .ref ma6, .ref ma7, .int 0, .int 0])), (wd, .inr (7, [.ref tl, .ref wa1, .ref wa2, .ref wa3, .ref wa4, .int 0, .int 0])), (cs, .inr (0, [.ref ca1, .ref ca2, .ref ca3, .ref ca4, .int 0])), (nm, .inr (2, [.ref mn, .ref na1, .ref na2, .int 0]))]) [0, 6, 2, 7, 8] rfl
  have hDc := hD.sub (ws' := [(h0, .inr (8, [.ref tp, .ref wd, .ref td, .ref pn, .ref mn, .ref cs, .ref nm, .ref rd])), (mn, .inr (1, [.ref wd, .ref ma1, .ref ma2, .ref ma3, .ref ma4, .ref ma5, .ref ma6, .ref ma7, .int 0, .int 0])), (wd, .inr (7, [.ref tl, .ref wa1, .ref wa2, .ref wa3, .ref wa4, .int 0, .int 0])), (cs, .inr (0, [.ref ca1, .ref ca2, .ref ca3, .ref ca4, .int 0])), (nm, .inr (2, [.ref mn, .ref na1, .ref na2, .int 0]))]) [0, 6, 2, 7, 8] (by decide) rfl
  have hFc := va_free (wc := [(h0, .inr (8, [.ref tp, .ref wd, .ref td, .ref pn, .ref mn, .ref cs, .ref nm, .ref rd])), (mn, .inr (1, [.ref wd, .ref ma1, .ref ma2, .ref ma3, .ref ma4, .ref ma5, .ref ma6, .ref ma7, .int 0, .int 0])), (wd, .inr (7, [.ref tl, .ref wa1, .ref wa2, .ref wa3, .ref wa4, .int 0, .int 0])), (cs, .inr (0, [.ref ca1, .ref ca2, .ref ca3, .ref ca4, .int 0])), (nm, .inr (2, [.ref mn, .ref na1, .ref na2, .int 0]))]) hD hS hA [0, 6, 2, 7, 8] rfl
  refine va_callv (va_runV (As := []) (rest := []) ⟨hx, hb, hml, hown, hts⟩ (c_X8_readAnew_0 l D cB cI cZ H_8.size h0 tp wd td pn mn cs nm rd tl wa1 wa2 wa3 wa4 ma1 ma2 ma3 ma4 ma5 ma6 ma7 ca1 ca2 ca3 ca4 na1 na2 0 0 0 0 0) (cwV 0 hts (uV (uc15 _ (List.mem_of_getElem? (i := 14) rfl)) (uc15 _ (List.mem_of_getElem? (i := 15) rfl)) (uc15 _ (List.mem_of_getElem? (i := 16) rfl)) (uc1 _ (List.mem_of_getElem? (i := 2) rfl)) (uc15 _ (List.mem_of_getElem? (i := 17) rfl))) rfl rfl rfl (by decide +kernel) ⟨Nat.le_of_ble_eq_true rfl, Nat.le_of_ble_eq_true rfl⟩) (pV hK hPc hDc 0 rfl rfl) rfl rfl hl.1 rfl (lv_room (Nat.le_of_ble_eq_true rfl)) dX8_read_26 ⟨Nat.le_of_ble_eq_true rfl, Nat.le_of_ble_eq_true rfl⟩) hS (fun q _ h => hFc q h) hFc (fun u t H_13 L_14 ht hvm hw hB hz1 hk1 hS => ?_)
  obtain ⟨hP1, -, hD1⟩ := hB
  rw [ht] at hP1
  obtain ⟨hP, hD⟩ := va_join (wr := [(tp, .inr (5, [.ref tpa, .int 0])), (tl, .inr (5, [.ref tla, .int 0])), (pn, .inr (3, [.ref pna, .int 0])), (pna, .inl (cI, 80, .inl g_10))]) (w1 := [(h0, .inr (8, [.ref tp, .ref wd, .ref td, .ref pn, .ref mn, .ref cs, .ref nm, .ref rd])), (mn, .inr (1, [.ref wd, .ref ma1, .ref ma2, .ref ma3, .ref ma4, .ref ma5, .ref ma6, .ref ma7, .int 0, .int 0])), (wd, .inr (7, [.ref tl, .ref wa1, .ref wa2, .ref wa3, .ref wa4, .int 0, .int 0])), (cs, .inr (0, [.ref ca1, .ref ca2, .ref ca3, .ref ca4, .int 0])), (nm, .inr (2, [.ref mn, .ref na1, .ref na2, .int 0]))]) hP hD [0, 6, 2, 7, 8] [1, 3, 4, 5] rfl rfl (by decide) (by decide) hk1 hFc hP1 hD1
  have hP : va_P D vwCl [(h0, .inr (8, [.ref tp, .ref wd, .ref td, .ref pn, .ref mn, .ref cs, .ref nm, .ref rd])), (tp, .inr (5, [.ref tpa, .int 0])), (wd, .inr (7, [.ref tl, .ref wa1, .ref wa2, .ref wa3, .ref wa4, .int 0, .int 0])), (tl, .inr (5, [.ref tla, .int 0])), (pn, .inr (3, [.ref pna, .int 0])), (pna, .inl (cI, 80, .inl g_10)), (mn, .inr (1, [.ref wd, .ref ma1, .ref ma2, .ref ma3, .ref ma4, .ref ma5, .ref ma6, .ref ma7, .int 0, .int 0])), (cs, .inr (0, [.ref ca1, .ref ca2, .ref ca3, .ref ca4, .int 0])), (nm, .inr (2, [.ref mn, .ref na1, .ref na2, .int 0]))] H_13 := hP.sub [4, 0, 6, 1, 2, 3, 5, 7, 8] rfl
  have hD : va_D A [(h0, .inr (8, [.ref tp, .ref wd, .ref td, .ref pn, .ref mn, .ref cs, .ref nm, .ref rd])), (tp, .inr (5, [.ref tpa, .int 0])), (wd, .inr (7, [.ref tl, .ref wa1, .ref wa2, .ref wa3, .ref wa4, .int 0, .int 0])), (tl, .inr (5, [.ref tla, .int 0])), (pn, .inr (3, [.ref pna, .int 0])), (pna, .inl (cI, 80, .inl g_10)), (mn, .inr (1, [.ref wd, .ref ma1, .ref ma2, .ref ma3, .ref ma4, .ref ma5, .ref ma6, .ref ma7, .int 0, .int 0])), (cs, .inr (0, [.ref ca1, .ref ca2, .ref ca3, .ref ca4, .int 0])), (nm, .inr (2, [.ref mn, .ref na1, .ref na2, .int 0]))] := hD.sub [4, 0, 6, 1, 2, 3, 5, 7, 8] (by decide) rfl
  try dsimp only at hw
  refine lv_aload_n hx hb dX8_read_29 rfl (lv_at hl 0 rfl) ?_
  refine va_get (D := D) (ci := 8) (v := .ref mn) (C := RX8) (T := TX8) (N := 8) hx hb hts hinX8 hown hK hP 0 rfl rfl 4 (by decide) (hts (.fieldLink RX8 44 "TaleReader" "mentions" "LTaleReader$Mentions;") (uc2 _ (List.mem_of_getElem? (i := 7) rfl))) (fun _ h9 => h9) rfl dX8_read_30 ?_
  have hPc := hP.sub (ws' := [(mn, .inr (1, [.ref wd, .ref ma1, .ref ma2, .ref ma3, .ref ma4, .ref ma5, .ref ma6, .ref ma7, .int 0, .int 0]))]) [6] rfl
  have hDc := hD.sub (ws' := [(mn, .inr (1, [.ref wd, .ref ma1, .ref ma2, .ref ma3, .ref ma4, .ref ma5, .ref ma6, .ref ma7, .int 0, .int 0]))]) [6] (by decide) rfl
  have hFc := va_free (wc := [(mn, .inr (1, [.ref wd, .ref ma1, .ref ma2, .ref ma3, .ref ma4, .ref ma5, .ref ma6, .ref ma7, .int 0, .int 0]))]) hD hS hA [6] rfl
  refine va_calli (va_runV (As := []) (rest := []) ⟨hx, hb, hml, hown, hts⟩ (c_X1_size l D cB cI cZ H_13.size mn wd ma1 ma2 ma3 ma4 ma5 ma6 ma7 0 0) (cwV 0 hts (uV (uc17 _ (List.mem_of_getElem? (i := 22) rfl)) (uc17 _ (List.mem_of_getElem? (i := 23) rfl)) (uc18 _ (List.mem_of_getElem? (i := 0) rfl)) (uc2 _ (List.mem_of_getElem? (i := 6) rfl)) (uc18 _ (List.mem_of_getElem? (i := 1) rfl))) rfl rfl rfl (by decide +kernel) ⟨Nat.le_of_ble_eq_true rfl, Nat.le_of_ble_eq_true rfl⟩) (pV hK hPc hDc 0 rfl rfl) rfl rfl hl.1 rfl (lv_room (Nat.le_of_ble_eq_true rfl)) dX8_read_33 ⟨Nat.le_of_ble_eq_true rfl, Nat.le_of_ble_eq_true rfl⟩) hS (fun q _ h => hFc q h) hFc (fun r_15 u t H_16 L_17 ht hvm hw hB hz1 hk1 hS => ?_)
  obtain ⟨hP1, -, hD1⟩ := hB
  rw [ht] at hP1
  obtain ⟨hP, hD⟩ := va_join (wr := [(h0, .inr (8, [.ref tp, .ref wd, .ref td, .ref pn, .ref mn, .ref cs, .ref nm, .ref rd])), (tp, .inr (5, [.ref tpa, .int 0])), (wd, .inr (7, [.ref tl, .ref wa1, .ref wa2, .ref wa3, .ref wa4, .int 0, .int 0])), (tl, .inr (5, [.ref tla, .int 0])), (pn, .inr (3, [.ref pna, .int 0])), (pna, .inl (cI, 80, .inl g_10)), (cs, .inr (0, [.ref ca1, .ref ca2, .ref ca3, .ref ca4, .int 0])), (nm, .inr (2, [.ref mn, .ref na1, .ref na2, .int 0]))]) (w1 := [(mn, .inr (1, [.ref wd, .ref ma1, .ref ma2, .ref ma3, .ref ma4, .ref ma5, .ref ma6, .ref ma7, .int 0, .int 0]))]) hP hD [6] [0, 1, 2, 3, 4, 5, 7, 8] rfl rfl (by decide) (by decide) hk1 hFc hP1 hD1
  have hP : va_P D vwCl [(h0, .inr (8, [.ref tp, .ref wd, .ref td, .ref pn, .ref mn, .ref cs, .ref nm, .ref rd])), (tp, .inr (5, [.ref tpa, .int 0])), (wd, .inr (7, [.ref tl, .ref wa1, .ref wa2, .ref wa3, .ref wa4, .int 0, .int 0])), (tl, .inr (5, [.ref tla, .int 0])), (pn, .inr (3, [.ref pna, .int 0])), (pna, .inl (cI, 80, .inl g_10)), (mn, .inr (1, [.ref wd, .ref ma1, .ref ma2, .ref ma3, .ref ma4, .ref ma5, .ref ma6, .ref ma7, .int 0, .int 0])), (cs, .inr (0, [.ref ca1, .ref ca2, .ref ca3, .ref ca4, .int 0])), (nm, .inr (2, [.ref mn, .ref na1, .ref na2, .int 0]))] H_16 := hP.sub [0, 1, 2, 3, 4, 5, 8, 6, 7] rfl
  have hD : va_D A [(h0, .inr (8, [.ref tp, .ref wd, .ref td, .ref pn, .ref mn, .ref cs, .ref nm, .ref rd])), (tp, .inr (5, [.ref tpa, .int 0])), (wd, .inr (7, [.ref tl, .ref wa1, .ref wa2, .ref wa3, .ref wa4, .int 0, .int 0])), (tl, .inr (5, [.ref tla, .int 0])), (pn, .inr (3, [.ref pna, .int 0])), (pna, .inl (cI, 80, .inl g_10)), (mn, .inr (1, [.ref wd, .ref ma1, .ref ma2, .ref ma3, .ref ma4, .ref ma5, .ref ma6, .ref ma7, .int 0, .int 0])), (cs, .inr (0, [.ref ca1, .ref ca2, .ref ca3, .ref ca4, .int 0])), (nm, .inr (2, [.ref mn, .ref na1, .ref na2, .int 0]))] := hD.sub [0, 1, 2, 3, 4, 5, 8, 6, 7] (by decide) rfl
  try dsimp only at hw
  subst hw
  have hP9 := hP.sub (ws' := []) [] rfl
  have hD9 := hD.sub (ws' := []) [] (by decide) rfl
  exact W.iret (v := 0) hx hb hr (fun t ht hW => ⟨⟨0, (), rfl, rfl, ⟨by rw [ht]; exact hP9, va_K.moved hW.alike hK, hD9⟩⟩, hS.F ht⟩) hS.2.2 dX8_read_36
set_option maxHeartbeats 4000000 in
set_option maxRecDepth 100000 in
theorem c_X8_tell_0 (l : Launch) (D : va_G) (cB cI cZ : ClassId) (sz : Nat) (h0 : Nat) (tp : Nat) (wd : Nat) (td : Nat) (pn : Nat) (mn : Nat) (cs : Nat) (nm : Nat) (rd : Nat) (tpa : Nat) (lt : Nat) (ta1 : Nat) (ta2 : Nat) (ta3 : Nat) (x : Int32) : Met l yX8_tell (.code yX8_tell cX8_tell 3 (some .boolean) :: wsL_law) ({ frames := 2, cells := 0, slots := 0, locals := 48 } : Room) (va_Pc [.ref h0, .int x] (pIn D (pT cB cI cZ) sz [(h0, .inr (8, [.ref tp, .ref wd, .ref td, .ref pn, .ref mn, .ref cs, .ref nm, .ref rd])), (tp, .inr (5, [.ref tpa, .int 0])), (td, .inr (6, [.ref lt, .ref ta1, .ref ta2, .ref ta3, .int 0]))])) (va_Qi (fun (r : Int32) (u : Unit) => r = 0) (fun (u : Unit) (t : State) => pAt D (pT cB cI cZ) (va_A [(h0, .inr (8, [.ref tp, .ref wd, .ref td, .ref pn, .ref mn, .ref cs, .ref nm, .ref rd])), (tp, .inr (5, [.ref tpa, .int 0])), (td, .inr (6, [.ref lt, .ref ta1, .ref ta2, .ref ta3, .int 0]))] sz) [] t) (va_A [(h0, .inr (8, [.ref tp, .ref wd, .ref td, .ref pn, .ref mn, .ref cs, .ref nm, .ref rd])), (tp, .inr (5, [.ref tpa, .int 0])), (td, .inr (6, [.ref lt, .ref ta1, .ref ta2, .ref ta3, .int 0]))] sz)) 0 0 (va_A [(h0, .inr (8, [.ref tp, .ref wd, .ref td, .ref pn, .ref mn, .ref cs, .ref nm, .ref rd])), (tp, .inr (5, [.ref tpa, .int 0])), (td, .inr (6, [.ref lt, .ref ta1, .ref ta2, .ref ta3, .int 0]))] sz) := by
  refine Met.ofW (cc := cX8_tell) (maxL := 3) (ret := (some .boolean)) (by decide) rfl ?_
  intro p e s m args below meth c s₁ B hml hv
  obtain ⟨rfl, hsz, hP, hK, hD0⟩ := hv
  have hx := B.exec
  have hb := B.bytes
  have hr := B.returns
  have hts0 := atoms_spec (ws := .code yX8_tell cX8_tell 3 (some .boolean) :: wsL_law) B.pre
  have hts := fun (w : Cond) (h : w ∈ wsL_law) => hts0 w (List.mem_cons_of_mem _ h)
  have hown : s.vm.findClass RX8 = some m.cls := findClass_of_methodNamed B.named
  have hlocks := B.notSynchronized
  have hinX8 := inlX8
  subst hsz
  have hD := hD0.self (sz := s.heap.size)
  generalize hAe : va_A [(h0, .inr (8, [.ref tp, .ref wd, .ref td, .ref pn, .ref mn, .ref cs, .ref nm, .ref rd])), (tp, .inr (5, [.ref tpa, .int 0])), (td, .inr (6, [.ref lt, .ref ta1, .ref ta2, .ref ta3, .int 0]))] s.heap.size = A at hD ⊢
  have hA : ∀ q : Nat, s.heap.size ≤ q → A q := fun q h => by rw [← hAe]; exact Or.inr h
  have hS : va_S A s.heap s.heap [] := va_S.rf
  have hP : va_P D vwCl [(h0, .inr (8, [.ref tp, .ref wd, .ref td, .ref pn, .ref mn, .ref cs, .ref nm, .ref rd])), (tp, .inr (5, [.ref tpa, .int 0])), (td, .inr (6, [.ref lt, .ref ta1, .ref ta2, .ref ta3, .int 0]))] s.heap := hP
  have hl := lv_entry ([.ref h0, .int x]) (n := 3) (Nat.le_of_ble_eq_true rfl)
  rw [lg_entry_eq]
  generalize (lg_sl ([.ref h0, .int x]) ++ List.replicate (3 - (lg_sl ([.ref h0, .int x])).length) Slot.unset).toArray = ls at hl ⊢
  have hl : lv_has ls 3 [(0, .ref h0), (1, .int x)] := hl
  refine lv_aload_n hx hb dX8_tell_0 rfl (lv_at hl 0 rfl) ?_
  refine va_get (D := D) (ci := 8) (v := .ref td) (C := RX8) (T := TX8) (N := 8) hx hb hts hinX8 hown hK hP 0 rfl rfl 2 (by decide) (hts (.fieldLink RX8 28 "TaleReader" "told" "LTaleReader$ToldNames;") (uc1 _ (List.mem_of_getElem? (i := 23) rfl))) (fun _ h9 => h9) rfl dX8_tell_1 ?_
  refine lv_aload_n hx hb dX8_tell_4 rfl (lv_at hl 0 rfl) ?_
  refine va_get (D := D) (ci := 8) (v := .ref tp) (C := RX8) (T := TX8) (N := 8) hx hb hts hinX8 hown hK hP 0 rfl rfl 0 (by decide) (hts (.fieldLink RX8 14 "TaleReader" "tape" "LTaleReader$Text;") (uc1 _ (List.mem_of_getElem? (i := 15) rfl))) (fun _ h9 => h9) rfl dX8_tell_5 ?_
  refine lv_iload_n hx hb dX8_tell_8 rfl (lv_at hl 1 rfl) ?_
  have hPc := hP.sub (ws' := [(td, .inr (6, [.ref lt, .ref ta1, .ref ta2, .ref ta3, .int 0])), (tp, .inr (5, [.ref tpa, .int 0]))]) [2, 1] rfl
  have hDc := hD.sub (ws' := [(td, .inr (6, [.ref lt, .ref ta1, .ref ta2, .ref ta3, .int 0])), (tp, .inr (5, [.ref tpa, .int 0]))]) [2, 1] (by decide) rfl
  have hFc := va_free (wc := [(td, .inr (6, [.ref lt, .ref ta1, .ref ta2, .ref ta3, .int 0])), (tp, .inr (5, [.ref tpa, .int 0]))]) hD hS hA [2, 1] rfl
  refine va_calli (va_runV (As := [.ref tp, .int x]) (rest := []) ⟨hx, hb, hml, hown, hts⟩ (c_X6_take_0 l D cB cI cZ s.heap.size td lt ta1 ta2 ta3 0 tp tpa x) (cwV 2 hts (uV (uc31 _ (List.mem_of_getElem? (i := 9) rfl)) (uc31 _ (List.mem_of_getElem? (i := 10) rfl)) (uc31 _ (List.mem_of_getElem? (i := 11) rfl)) (uc1 _ (List.mem_of_getElem? (i := 22) rfl)) (uc31 _ (List.mem_of_getElem? (i := 12) rfl))) rfl rfl rfl (by decide +kernel) ⟨Nat.le_of_ble_eq_true rfl, Nat.le_of_ble_eq_true rfl⟩) (pV hK hPc hDc 0 rfl rfl) rfl rfl hl.1 rfl (lv_room (Nat.le_of_ble_eq_true rfl)) dX8_tell_9 ⟨Nat.le_of_ble_eq_true rfl, Nat.le_of_ble_eq_true rfl⟩) hS (fun q _ h => hFc q h) hFc (fun r_1 u t H_2 L_3 ht hvm hw hB hz1 hk1 hS => ?_)
  obtain ⟨hP1, -, hD1⟩ := hB
  rw [ht] at hP1
  obtain ⟨hP, hD⟩ := va_join (wr := [(h0, .inr (8, [.ref tp, .ref wd, .ref td, .ref pn, .ref mn, .ref cs, .ref nm, .ref rd]))]) (w1 := [(td, .inr (6, [.ref lt, .ref ta1, .ref ta2, .ref ta3, .int 0])), (tp, .inr (5, [.ref tpa, .int 0]))]) hP hD [2, 1] [0] rfl rfl (by decide) (by decide) hk1 hFc hP1 hD1
  have hP : va_P D vwCl [(h0, .inr (8, [.ref tp, .ref wd, .ref td, .ref pn, .ref mn, .ref cs, .ref nm, .ref rd])), (tp, .inr (5, [.ref tpa, .int 0])), (td, .inr (6, [.ref lt, .ref ta1, .ref ta2, .ref ta3, .int 0]))] H_2 := hP.sub [0, 2, 1] rfl
  have hD : va_D A [(h0, .inr (8, [.ref tp, .ref wd, .ref td, .ref pn, .ref mn, .ref cs, .ref nm, .ref rd])), (tp, .inr (5, [.ref tpa, .int 0])), (td, .inr (6, [.ref lt, .ref ta1, .ref ta2, .ref ta3, .int 0]))] := hD.sub [0, 2, 1] (by decide) rfl
  try dsimp only at hw
  subst hw
  refine lv_istore_n (lv' := [(2, .int 0), (0, .ref h0), (1, .int x)]) hx hb dX8_tell_12 rfl hl (by decide) rfl (fun ls hl => ?_)
  refine lv_aload_n hx hb dX8_tell_13 rfl (lv_at hl 1 rfl) ?_
  refine va_get (D := D) (ci := 8) (v := .ref tp) (C := RX8) (T := TX8) (N := 8) hx hb hts hinX8 hown hK hP 0 rfl rfl 0 (by decide) (hts (.fieldLink RX8 14 "TaleReader" "tape" "LTaleReader$Text;") (uc1 _ (List.mem_of_getElem? (i := 15) rfl))) (fun _ h9 => h9) rfl dX8_tell_14 ?_
  have hPc := hP.sub (ws' := [(tp, .inr (5, [.ref tpa, .int 0]))]) [1] rfl
  have hDc := hD.sub (ws' := [(tp, .inr (5, [.ref tpa, .int 0]))]) [1] (by decide) rfl
  have hFc := va_free (wc := [(tp, .inr (5, [.ref tpa, .int 0]))]) hD hS hA [1] rfl
  refine va_callv (va_runV (As := []) (rest := []) ⟨hx, hb, hml, hown, hts⟩ (c_X5_clear l D cB cI cZ H_2.size tp tpa 0) (cwV 0 hts (uV (uc15 _ (List.mem_of_getElem? (i := 9) rfl)) (uc9 _ (List.mem_of_getElem? (i := 14) rfl)) (uc9 _ (List.mem_of_getElem? (i := 15) rfl)) (uc1 _ (List.mem_of_getElem? (i := 14) rfl)) (uc9 _ (List.mem_of_getElem? (i := 16) rfl))) rfl rfl rfl (by decide +kernel) ⟨Nat.le_of_ble_eq_true rfl, Nat.le_of_ble_eq_true rfl⟩) (pV hK hPc hDc 0 rfl rfl) rfl rfl hl.1 rfl (lv_room (Nat.le_of_ble_eq_true rfl)) dX8_tell_17 ⟨Nat.le_of_ble_eq_true rfl, Nat.le_of_ble_eq_true rfl⟩) hS (fun q _ h => hFc q h) hFc (fun u t H_5 L_6 ht hvm hw hB hz1 hk1 hS => ?_)
  obtain ⟨hP1, -, hD1⟩ := hB
  rw [ht] at hP1
  obtain ⟨hP, hD⟩ := va_join (wr := [(h0, .inr (8, [.ref tp, .ref wd, .ref td, .ref pn, .ref mn, .ref cs, .ref nm, .ref rd])), (td, .inr (6, [.ref lt, .ref ta1, .ref ta2, .ref ta3, .int 0]))]) (w1 := [(tp, .inr (5, [.ref tpa, .int 0]))]) hP hD [1] [0, 2] rfl rfl (by decide) (by decide) hk1 hFc hP1 hD1
  have hP : va_P D vwCl [(h0, .inr (8, [.ref tp, .ref wd, .ref td, .ref pn, .ref mn, .ref cs, .ref nm, .ref rd])), (tp, .inr (5, [.ref tpa, .int 0])), (td, .inr (6, [.ref lt, .ref ta1, .ref ta2, .ref ta3, .int 0]))] H_5 := hP.sub [0, 2, 1] rfl
  have hD : va_D A [(h0, .inr (8, [.ref tp, .ref wd, .ref td, .ref pn, .ref mn, .ref cs, .ref nm, .ref rd])), (tp, .inr (5, [.ref tpa, .int 0])), (td, .inr (6, [.ref lt, .ref ta1, .ref ta2, .ref ta3, .int 0]))] := hD.sub [0, 2, 1] (by decide) rfl
  try dsimp only at hw
  refine lv_iload_n hx hb dX8_tell_20 rfl (lv_at hl 0 rfl) ?_
  refine lv_if_eq (tgt := 28) hx hb dX8_tell_21 (by decide) (fun c_7 => ?_) (fun c_7 => ?_)
  · refine lv_iload_n hx hb dX8_tell_28 rfl (lv_at hl 0 rfl) ?_
    have hP9 := hP.sub (ws' := []) [] rfl
    have hD9 := hD.sub (ws' := []) [] (by decide) rfl
    exact W.zret (v := 0) hx hb hr (rfl) (fun t ht hW => ⟨⟨0, (), rfl, rfl, ⟨by rw [ht]; exact hP9, va_K.moved hW.alike hK, hD9⟩⟩, hS.F ht⟩) hS.2.2 dX8_tell_29
  · exact False.elim (by revert c_7; decide)
set_option maxHeartbeats 4000000 in
set_option maxRecDepth 100000 in
theorem c_X8_forget_0 (l : Launch) (D : va_G) (cB cI cZ : ClassId) (sz : Nat) (h0 : Nat) (tp : Nat) (wd : Nat) (td : Nat) (pn : Nat) (mn : Nat) (cs : Nat) (nm : Nat) (rd : Nat) (lt : Nat) (lta : Nat) (ta1 : Nat) (ta2 : Nat) (ta3 : Nat) (tl : Nat) (wa1 : Nat) (wa2 : Nat) (wa3 : Nat) (wa4 : Nat) (ma1 : Nat) (ma2 : Nat) (ma3 : Nat) (ma4 : Nat) (ma5 : Nat) (ma6 : Nat) (ma7 : Nat) (ca1 : Nat) (ca2 : Nat) (ca3 : Nat) (ca4 : Nat) (na1 : Nat) (na2 : Nat) : Met l yX8_forget (.code yX8_forget cX8_forget 1 none :: wsL_law) ({ frames := 3, cells := 0, slots := 0, locals := 65 } : Room) (va_Pc [.ref h0] (pIn D (pT cB cI cZ) sz [(h0, .inr (8, [.ref tp, .ref wd, .ref td, .ref pn, .ref mn, .ref cs, .ref nm, .ref rd])), (td, .inr (6, [.ref lt, .ref ta1, .ref ta2, .ref ta3, .int 0])), (lt, .inr (5, [.ref lta, .int 0])), (wd, .inr (7, [.ref tl, .ref wa1, .ref wa2, .ref wa3, .ref wa4, .int 0, .int 0])), (mn, .inr (1, [.ref wd, .ref ma1, .ref ma2, .ref ma3, .ref ma4, .ref ma5, .ref ma6, .ref ma7, .int 0, .int 0])), (cs, .inr (0, [.ref ca1, .ref ca2, .ref ca3, .ref ca4, .int 0])), (nm, .inr (2, [.ref mn, .ref na1, .ref na2, .int 0]))])) (va_Qv (fun (u : Unit) => True) (fun (u : Unit) (t : State) => pAt D (pT cB cI cZ) (va_A [(h0, .inr (8, [.ref tp, .ref wd, .ref td, .ref pn, .ref mn, .ref cs, .ref nm, .ref rd])), (td, .inr (6, [.ref lt, .ref ta1, .ref ta2, .ref ta3, .int 0])), (lt, .inr (5, [.ref lta, .int 0])), (wd, .inr (7, [.ref tl, .ref wa1, .ref wa2, .ref wa3, .ref wa4, .int 0, .int 0])), (mn, .inr (1, [.ref wd, .ref ma1, .ref ma2, .ref ma3, .ref ma4, .ref ma5, .ref ma6, .ref ma7, .int 0, .int 0])), (cs, .inr (0, [.ref ca1, .ref ca2, .ref ca3, .ref ca4, .int 0])), (nm, .inr (2, [.ref mn, .ref na1, .ref na2, .int 0]))] sz) [] t) (va_A [(h0, .inr (8, [.ref tp, .ref wd, .ref td, .ref pn, .ref mn, .ref cs, .ref nm, .ref rd])), (td, .inr (6, [.ref lt, .ref ta1, .ref ta2, .ref ta3, .int 0])), (lt, .inr (5, [.ref lta, .int 0])), (wd, .inr (7, [.ref tl, .ref wa1, .ref wa2, .ref wa3, .ref wa4, .int 0, .int 0])), (mn, .inr (1, [.ref wd, .ref ma1, .ref ma2, .ref ma3, .ref ma4, .ref ma5, .ref ma6, .ref ma7, .int 0, .int 0])), (cs, .inr (0, [.ref ca1, .ref ca2, .ref ca3, .ref ca4, .int 0])), (nm, .inr (2, [.ref mn, .ref na1, .ref na2, .int 0]))] sz)) 0 0 (va_A [(h0, .inr (8, [.ref tp, .ref wd, .ref td, .ref pn, .ref mn, .ref cs, .ref nm, .ref rd])), (td, .inr (6, [.ref lt, .ref ta1, .ref ta2, .ref ta3, .int 0])), (lt, .inr (5, [.ref lta, .int 0])), (wd, .inr (7, [.ref tl, .ref wa1, .ref wa2, .ref wa3, .ref wa4, .int 0, .int 0])), (mn, .inr (1, [.ref wd, .ref ma1, .ref ma2, .ref ma3, .ref ma4, .ref ma5, .ref ma6, .ref ma7, .int 0, .int 0])), (cs, .inr (0, [.ref ca1, .ref ca2, .ref ca3, .ref ca4, .int 0])), (nm, .inr (2, [.ref mn, .ref na1, .ref na2, .int 0]))] sz) := by
  refine Met.ofW (cc := cX8_forget) (maxL := 1) (ret := none) (by decide) rfl ?_
  intro p e s m args below meth c s₁ B hml hv
  obtain ⟨rfl, hsz, hP, hK, hD0⟩ := hv
  have hx := B.exec
  have hb := B.bytes
  have hr := B.returns
  have hts0 := atoms_spec (ws := .code yX8_forget cX8_forget 1 none :: wsL_law) B.pre
  have hts := fun (w : Cond) (h : w ∈ wsL_law) => hts0 w (List.mem_cons_of_mem _ h)
  have hown : s.vm.findClass RX8 = some m.cls := findClass_of_methodNamed B.named
  have hlocks := B.notSynchronized
  have hinX8 := inlX8
  subst hsz
  have hD := hD0.self (sz := s.heap.size)
  generalize hAe : va_A [(h0, .inr (8, [.ref tp, .ref wd, .ref td, .ref pn, .ref mn, .ref cs, .ref nm, .ref rd])), (td, .inr (6, [.ref lt, .ref ta1, .ref ta2, .ref ta3, .int 0])), (lt, .inr (5, [.ref lta, .int 0])), (wd, .inr (7, [.ref tl, .ref wa1, .ref wa2, .ref wa3, .ref wa4, .int 0, .int 0])), (mn, .inr (1, [.ref wd, .ref ma1, .ref ma2, .ref ma3, .ref ma4, .ref ma5, .ref ma6, .ref ma7, .int 0, .int 0])), (cs, .inr (0, [.ref ca1, .ref ca2, .ref ca3, .ref ca4, .int 0])), (nm, .inr (2, [.ref mn, .ref na1, .ref na2, .int 0]))] s.heap.size = A at hD ⊢
  have hA : ∀ q : Nat, s.heap.size ≤ q → A q := fun q h => by rw [← hAe]; exact Or.inr h
  have hS : va_S A s.heap s.heap [] := va_S.rf
  have hP : va_P D vwCl [(h0, .inr (8, [.ref tp, .ref wd, .ref td, .ref pn, .ref mn, .ref cs, .ref nm, .ref rd])), (td, .inr (6, [.ref lt, .ref ta1, .ref ta2, .ref ta3, .int 0])), (lt, .inr (5, [.ref lta, .int 0])), (wd, .inr (7, [.ref tl, .ref wa1, .ref wa2, .ref wa3, .ref wa4, .int 0, .int 0])), (mn, .inr (1, [.ref wd, .ref ma1, .ref ma2, .ref ma3, .ref ma4, .ref ma5, .ref ma6, .ref ma7, .int 0, .int 0])), (cs, .inr (0, [.ref ca1, .ref ca2, .ref ca3, .ref ca4, .int 0])), (nm, .inr (2, [.ref mn, .ref na1, .ref na2, .int 0]))] s.heap := hP
  have hl := lv_entry ([.ref h0]) (n := 1) (Nat.le_of_ble_eq_true rfl)
  rw [lg_entry_eq]
  generalize (lg_sl ([.ref h0]) ++ List.replicate (1 - (lg_sl ([.ref h0])).length) Slot.unset).toArray = ls at hl ⊢
  have hl : lv_has ls 1 [(0, .ref h0)] := hl
  refine lv_aload_n hx hb dX8_forget_0 rfl (lv_at hl 0 rfl) ?_
  refine va_get (D := D) (ci := 8) (v := .ref td) (C := RX8) (T := TX8) (N := 8) hx hb hts hinX8 hown hK hP 0 rfl rfl 2 (by decide) (hts (.fieldLink RX8 28 "TaleReader" "told" "LTaleReader$ToldNames;") (uc1 _ (List.mem_of_getElem? (i := 23) rfl))) (fun _ h9 => h9) rfl dX8_forget_1 ?_
  have hPc := hP.sub (ws' := [(td, .inr (6, [.ref lt, .ref ta1, .ref ta2, .ref ta3, .int 0])), (lt, .inr (5, [.ref lta, .int 0]))]) [1, 2] rfl
  have hDc := hD.sub (ws' := [(td, .inr (6, [.ref lt, .ref ta1, .ref ta2, .ref ta3, .int 0])), (lt, .inr (5, [.ref lta, .int 0]))]) [1, 2] (by decide) rfl
  have hFc := va_free (wc := [(td, .inr (6, [.ref lt, .ref ta1, .ref ta2, .ref ta3, .int 0])), (lt, .inr (5, [.ref lta, .int 0]))]) hD hS hA [1, 2] rfl
  refine va_callv (va_runV (As := []) (rest := []) ⟨hx, hb, hml, hown, hts⟩ (c_X6_clear l D cB cI cZ s.heap.size td lt ta1 ta2 ta3 0 lta 0) (cwV 0 hts (uV (uc32 _ (List.mem_of_getElem? (i := 11) rfl)) (uc32 _ (List.mem_of_getElem? (i := 12) rfl)) (uc32 _ (List.mem_of_getElem? (i := 13) rfl)) (uc1 _ (List.mem_of_getElem? (i := 22) rfl)) (uc32 _ (List.mem_of_getElem? (i := 14) rfl))) rfl rfl rfl (by decide +kernel) ⟨Nat.le_of_ble_eq_true rfl, Nat.le_of_ble_eq_true rfl⟩) (pV hK hPc hDc 0 rfl rfl) rfl rfl hl.1 rfl (lv_room (Nat.le_of_ble_eq_true rfl)) dX8_forget_4 ⟨Nat.le_of_ble_eq_true rfl, Nat.le_of_ble_eq_true rfl⟩) hS (fun q _ h => hFc q h) hFc (fun u t H_2 L_3 ht hvm hw hB hz1 hk1 hS => ?_)
  obtain ⟨hP1, -, hD1⟩ := hB
  rw [ht] at hP1
  obtain ⟨hP, hD⟩ := va_join (wr := [(h0, .inr (8, [.ref tp, .ref wd, .ref td, .ref pn, .ref mn, .ref cs, .ref nm, .ref rd])), (wd, .inr (7, [.ref tl, .ref wa1, .ref wa2, .ref wa3, .ref wa4, .int 0, .int 0])), (mn, .inr (1, [.ref wd, .ref ma1, .ref ma2, .ref ma3, .ref ma4, .ref ma5, .ref ma6, .ref ma7, .int 0, .int 0])), (cs, .inr (0, [.ref ca1, .ref ca2, .ref ca3, .ref ca4, .int 0])), (nm, .inr (2, [.ref mn, .ref na1, .ref na2, .int 0]))]) (w1 := [(td, .inr (6, [.ref lt, .ref ta1, .ref ta2, .ref ta3, .int 0])), (lt, .inr (5, [.ref lta, .int 0]))]) hP hD [1, 2] [0, 3, 4, 5, 6] rfl rfl (by decide) (by decide) hk1 hFc hP1 hD1
  have hP : va_P D vwCl [(h0, .inr (8, [.ref tp, .ref wd, .ref td, .ref pn, .ref mn, .ref cs, .ref nm, .ref rd])), (td, .inr (6, [.ref lt, .ref ta1, .ref ta2, .ref ta3, .int 0])), (lt, .inr (5, [.ref lta, .int 0])), (wd, .inr (7, [.ref tl, .ref wa1, .ref wa2, .ref wa3, .ref wa4, .int 0, .int 0])), (mn, .inr (1, [.ref wd, .ref ma1, .ref ma2, .ref ma3, .ref ma4, .ref ma5, .ref ma6, .ref ma7, .int 0, .int 0])), (cs, .inr (0, [.ref ca1, .ref ca2, .ref ca3, .ref ca4, .int 0])), (nm, .inr (2, [.ref mn, .ref na1, .ref na2, .int 0]))] H_2 := hP.sub [0, 5, 6, 1, 2, 3, 4] rfl
  have hD : va_D A [(h0, .inr (8, [.ref tp, .ref wd, .ref td, .ref pn, .ref mn, .ref cs, .ref nm, .ref rd])), (td, .inr (6, [.ref lt, .ref ta1, .ref ta2, .ref ta3, .int 0])), (lt, .inr (5, [.ref lta, .int 0])), (wd, .inr (7, [.ref tl, .ref wa1, .ref wa2, .ref wa3, .ref wa4, .int 0, .int 0])), (mn, .inr (1, [.ref wd, .ref ma1, .ref ma2, .ref ma3, .ref ma4, .ref ma5, .ref ma6, .ref ma7, .int 0, .int 0])), (cs, .inr (0, [.ref ca1, .ref ca2, .ref ca3, .ref ca4, .int 0])), (nm, .inr (2, [.ref mn, .ref na1, .ref na2, .int 0]))] := hD.sub [0, 5, 6, 1, 2, 3, 4] (by decide) rfl
  try dsimp only at hw
  refine lv_aload_n hx hb dX8_forget_7 rfl (lv_at hl 0 rfl) ?_
  have hPc := hP.sub (ws' := [(h0, .inr (8, [.ref tp, .ref wd, .ref td, .ref pn, .ref mn, .ref cs, .ref nm, .ref rd])), (mn, .inr (1, [.ref wd, .ref ma1, .ref ma2, .ref ma3, .ref ma4, .ref ma5, .ref ma6, .ref ma7, .int 0, .int 0])), (wd, .inr (7, [.ref tl, .ref wa1, .ref wa2, .ref wa3, .ref wa4, .int 0, .int 0])), (cs, .inr (0, [.ref ca1, .ref ca2, .ref ca3, .ref ca4, .int 0])), (nm, .inr (2, [.ref mn, .ref na1, .ref na2, .int 0]))]) [0, 4, 3, 5, 6] rfl
  have hDc := hD.sub (ws' := [(h0, .inr (8, [.ref tp, .ref wd, .ref td, .ref pn, .ref mn, .ref cs, .ref nm, .ref rd])), (mn, .inr (1, [.ref wd, .ref ma1, .ref ma2, .ref ma3, .ref ma4, .ref ma5, .ref ma6, .ref ma7, .int 0, .int 0])), (wd, .inr (7, [.ref tl, .ref wa1, .ref wa2, .ref wa3, .ref wa4, .int 0, .int 0])), (cs, .inr (0, [.ref ca1, .ref ca2, .ref ca3, .ref ca4, .int 0])), (nm, .inr (2, [.ref mn, .ref na1, .ref na2, .int 0]))]) [0, 4, 3, 5, 6] (by decide) rfl
  have hFc := va_free (wc := [(h0, .inr (8, [.ref tp, .ref wd, .ref td, .ref pn, .ref mn, .ref cs, .ref nm, .ref rd])), (mn, .inr (1, [.ref wd, .ref ma1, .ref ma2, .ref ma3, .ref ma4, .ref ma5, .ref ma6, .ref ma7, .int 0, .int 0])), (wd, .inr (7, [.ref tl, .ref wa1, .ref wa2, .ref wa3, .ref wa4, .int 0, .int 0])), (cs, .inr (0, [.ref ca1, .ref ca2, .ref ca3, .ref ca4, .int 0])), (nm, .inr (2, [.ref mn, .ref na1, .ref na2, .int 0]))]) hD hS hA [0, 4, 3, 5, 6] rfl
  refine va_callv (va_runV (As := []) (rest := []) ⟨hx, hb, hml, hown, hts⟩ (c_X8_readAnew_0 l D cB cI cZ H_2.size h0 tp wd td pn mn cs nm rd tl wa1 wa2 wa3 wa4 ma1 ma2 ma3 ma4 ma5 ma6 ma7 ca1 ca2 ca3 ca4 na1 na2 0 0 0 0 0) (cwV 0 hts (uV (uc15 _ (List.mem_of_getElem? (i := 14) rfl)) (uc15 _ (List.mem_of_getElem? (i := 15) rfl)) (uc15 _ (List.mem_of_getElem? (i := 16) rfl)) (uc1 _ (List.mem_of_getElem? (i := 2) rfl)) (uc15 _ (List.mem_of_getElem? (i := 17) rfl))) rfl rfl rfl (by decide +kernel) ⟨Nat.le_of_ble_eq_true rfl, Nat.le_of_ble_eq_true rfl⟩) (pV hK hPc hDc 0 rfl rfl) rfl rfl hl.1 rfl (lv_room (Nat.le_of_ble_eq_true rfl)) dX8_forget_8 ⟨Nat.le_of_ble_eq_true rfl, Nat.le_of_ble_eq_true rfl⟩) hS (fun q _ h => hFc q h) hFc (fun u t H_5 L_6 ht hvm hw hB hz1 hk1 hS => ?_)
  obtain ⟨hP1, -, hD1⟩ := hB
  rw [ht] at hP1
  obtain ⟨hP, hD⟩ := va_join (wr := [(td, .inr (6, [.ref lt, .ref ta1, .ref ta2, .ref ta3, .int 0])), (lt, .inr (5, [.ref lta, .int 0]))]) (w1 := [(h0, .inr (8, [.ref tp, .ref wd, .ref td, .ref pn, .ref mn, .ref cs, .ref nm, .ref rd])), (mn, .inr (1, [.ref wd, .ref ma1, .ref ma2, .ref ma3, .ref ma4, .ref ma5, .ref ma6, .ref ma7, .int 0, .int 0])), (wd, .inr (7, [.ref tl, .ref wa1, .ref wa2, .ref wa3, .ref wa4, .int 0, .int 0])), (cs, .inr (0, [.ref ca1, .ref ca2, .ref ca3, .ref ca4, .int 0])), (nm, .inr (2, [.ref mn, .ref na1, .ref na2, .int 0]))]) hP hD [0, 4, 3, 5, 6] [1, 2] rfl rfl (by decide) (by decide) hk1 hFc hP1 hD1
  have hP : va_P D vwCl [(h0, .inr (8, [.ref tp, .ref wd, .ref td, .ref pn, .ref mn, .ref cs, .ref nm, .ref rd])), (td, .inr (6, [.ref lt, .ref ta1, .ref ta2, .ref ta3, .int 0])), (lt, .inr (5, [.ref lta, .int 0])), (wd, .inr (7, [.ref tl, .ref wa1, .ref wa2, .ref wa3, .ref wa4, .int 0, .int 0])), (mn, .inr (1, [.ref wd, .ref ma1, .ref ma2, .ref ma3, .ref ma4, .ref ma5, .ref ma6, .ref ma7, .int 0, .int 0])), (cs, .inr (0, [.ref ca1, .ref ca2, .ref ca3, .ref ca4, .int 0])), (nm, .inr (2, [.ref mn, .ref na1, .ref na2, .int 0]))] H_5 := hP.sub [2, 0, 1, 4, 3, 5, 6] rfl
  have hD : va_D A [(h0, .inr (8, [.ref tp, .ref wd, .ref td, .ref pn, .ref mn, .ref cs, .ref nm, .ref rd])), (td, .inr (6, [.ref lt, .ref ta1, .ref ta2, .ref ta3, .int 0])), (lt, .inr (5, [.ref lta, .int 0])), (wd, .inr (7, [.ref tl, .ref wa1, .ref wa2, .ref wa3, .ref wa4, .int 0, .int 0])), (mn, .inr (1, [.ref wd, .ref ma1, .ref ma2, .ref ma3, .ref ma4, .ref ma5, .ref ma6, .ref ma7, .int 0, .int 0])), (cs, .inr (0, [.ref ca1, .ref ca2, .ref ca3, .ref ca4, .int 0])), (nm, .inr (2, [.ref mn, .ref na1, .ref na2, .int 0]))] := hD.sub [2, 0, 1, 4, 3, 5, 6] (by decide) rfl
  try dsimp only at hw
  have hP9 := hP.sub (ws' := []) [] rfl
  have hD9 := hD.sub (ws' := []) [] (by decide) rfl
  exact W.vret hx hb hr (fun t ht hW => ⟨⟨(), rfl, trivial, ⟨by rw [ht]; exact hP9, va_K.moved hW.alike hK, hD9⟩⟩, hS.F ht⟩) hS.2.2 dX8_forget_11
set_option maxHeartbeats 4000000 in
set_option maxRecDepth 100000 in
theorem c_X8_pin_0 (l : Launch) (D : va_G) (cB cI cZ : ClassId) (sz : Nat) (h0 : Nat) (tp : Nat) (wd : Nat) (td : Nat) (pn : Nat) (mn : Nat) (cs : Nat) (nm : Nat) (rd : Nat) (ma1 : Nat) (ma2 : Nat) (ma3 : Nat) (ma4 : Nat) (ma5 : Nat) (ma6 : Nat) (ma7 : Nat) (k : Int32) (k2 : Int32) : Met l yX8_pin (.code yX8_pin cX8_pin 3 (some .boolean) :: wsL_law) ({ frames := 1, cells := 0, slots := 0, locals := 21 } : Room) (va_Pc [.ref h0, .int k, .int k2] (pIn D (pT cB cI cZ) sz [(h0, .inr (8, [.ref tp, .ref wd, .ref td, .ref pn, .ref mn, .ref cs, .ref nm, .ref rd])), (mn, .inr (1, [.ref wd, .ref ma1, .ref ma2, .ref ma3, .ref ma4, .ref ma5, .ref ma6, .ref ma7, .int 0, .int 0]))])) (va_Qi (fun (r : Int32) (u : Unit) => r = 0) (fun (u : Unit) (t : State) => pAt D (pT cB cI cZ) (va_A [(h0, .inr (8, [.ref tp, .ref wd, .ref td, .ref pn, .ref mn, .ref cs, .ref nm, .ref rd])), (mn, .inr (1, [.ref wd, .ref ma1, .ref ma2, .ref ma3, .ref ma4, .ref ma5, .ref ma6, .ref ma7, .int 0, .int 0]))] sz) [] t) (va_A [(h0, .inr (8, [.ref tp, .ref wd, .ref td, .ref pn, .ref mn, .ref cs, .ref nm, .ref rd])), (mn, .inr (1, [.ref wd, .ref ma1, .ref ma2, .ref ma3, .ref ma4, .ref ma5, .ref ma6, .ref ma7, .int 0, .int 0]))] sz)) 0 0 (va_A [(h0, .inr (8, [.ref tp, .ref wd, .ref td, .ref pn, .ref mn, .ref cs, .ref nm, .ref rd])), (mn, .inr (1, [.ref wd, .ref ma1, .ref ma2, .ref ma3, .ref ma4, .ref ma5, .ref ma6, .ref ma7, .int 0, .int 0]))] sz) := by
  refine Met.ofW (cc := cX8_pin) (maxL := 3) (ret := (some .boolean)) (by decide) rfl ?_
  intro p e s m args below meth c s₁ B hml hv
  obtain ⟨rfl, hsz, hP, hK, hD0⟩ := hv
  have hx := B.exec
  have hb := B.bytes
  have hr := B.returns
  have hts0 := atoms_spec (ws := .code yX8_pin cX8_pin 3 (some .boolean) :: wsL_law) B.pre
  have hts := fun (w : Cond) (h : w ∈ wsL_law) => hts0 w (List.mem_cons_of_mem _ h)
  have hown : s.vm.findClass RX8 = some m.cls := findClass_of_methodNamed B.named
  have hlocks := B.notSynchronized
  have hinX8 := inlX8
  subst hsz
  have hD := hD0.self (sz := s.heap.size)
  generalize hAe : va_A [(h0, .inr (8, [.ref tp, .ref wd, .ref td, .ref pn, .ref mn, .ref cs, .ref nm, .ref rd])), (mn, .inr (1, [.ref wd, .ref ma1, .ref ma2, .ref ma3, .ref ma4, .ref ma5, .ref ma6, .ref ma7, .int 0, .int 0]))] s.heap.size = A at hD ⊢
  have hA : ∀ q : Nat, s.heap.size ≤ q → A q := fun q h => by rw [← hAe]; exact Or.inr h
  have hS : va_S A s.heap s.heap [] := va_S.rf
  have hP : va_P D vwCl [(h0, .inr (8, [.ref tp, .ref wd, .ref td, .ref pn, .ref mn, .ref cs, .ref nm, .ref rd])), (mn, .inr (1, [.ref wd, .ref ma1, .ref ma2, .ref ma3, .ref ma4, .ref ma5, .ref ma6, .ref ma7, .int 0, .int 0]))] s.heap := hP
  have hl := lv_entry ([.ref h0, .int k, .int k2]) (n := 3) (Nat.le_of_ble_eq_true rfl)
  rw [lg_entry_eq]
  generalize (lg_sl ([.ref h0, .int k, .int k2]) ++ List.replicate (3 - (lg_sl ([.ref h0, .int k, .int k2])).length) Slot.unset).toArray = ls at hl ⊢
  have hl : lv_has ls 3 [(0, .ref h0), (1, .int k), (2, .int k2)] := hl
  refine lv_aload_n hx hb dX8_pin_0 rfl (lv_at hl 0 rfl) ?_
  refine va_get (D := D) (ci := 8) (v := .ref mn) (C := RX8) (T := TX8) (N := 8) hx hb hts hinX8 hown hK hP 0 rfl rfl 4 (by decide) (hts (.fieldLink RX8 44 "TaleReader" "mentions" "LTaleReader$Mentions;") (uc2 _ (List.mem_of_getElem? (i := 7) rfl))) (fun _ h9 => h9) rfl dX8_pin_1 ?_
  refine lv_iload_n hx hb dX8_pin_4 rfl (lv_at hl 1 rfl) ?_
  have hPc := hP.sub (ws' := [(mn, .inr (1, [.ref wd, .ref ma1, .ref ma2, .ref ma3, .ref ma4, .ref ma5, .ref ma6, .ref ma7, .int 0, .int 0]))]) [1] rfl
  have hDc := hD.sub (ws' := [(mn, .inr (1, [.ref wd, .ref ma1, .ref ma2, .ref ma3, .ref ma4, .ref ma5, .ref ma6, .ref ma7, .int 0, .int 0]))]) [1] (by decide) rfl
  have hFc := va_free (wc := [(mn, .inr (1, [.ref wd, .ref ma1, .ref ma2, .ref ma3, .ref ma4, .ref ma5, .ref ma6, .ref ma7, .int 0, .int 0]))]) hD hS hA [1] rfl
  refine va_calli (va_runV (As := [.int k]) (rest := []) ⟨hx, hb, hml, hown, hts⟩ (c_X1_has l D cB cI cZ s.heap.size mn wd ma1 ma2 ma3 ma4 ma5 ma6 ma7 0 0 k) (cwV 1 hts (uV (uc33 _ (List.mem_of_getElem? (i := 0) rfl)) (uc17 _ (List.mem_of_getElem? (i := 11) rfl)) (uc17 _ (List.mem_of_getElem? (i := 12) rfl)) (uc2 _ (List.mem_of_getElem? (i := 6) rfl)) (uc17 _ (List.mem_of_getElem? (i := 13) rfl))) rfl rfl rfl (by decide +kernel) ⟨Nat.le_of_ble_eq_true rfl, Nat.le_of_ble_eq_true rfl⟩) (pV hK hPc hDc 0 rfl rfl) rfl rfl hl.1 rfl (lv_room (Nat.le_of_ble_eq_true rfl)) dX8_pin_5 ⟨Nat.le_of_ble_eq_true rfl, Nat.le_of_ble_eq_true rfl⟩) hS (fun q _ h => hFc q h) hFc (fun r_1 u t H_2 L_3 ht hvm hw hB hz1 hk1 hS => ?_)
  obtain ⟨hP1, -, hD1⟩ := hB
  rw [ht] at hP1
  obtain ⟨hP, hD⟩ := va_join (wr := [(h0, .inr (8, [.ref tp, .ref wd, .ref td, .ref pn, .ref mn, .ref cs, .ref nm, .ref rd]))]) (w1 := [(mn, .inr (1, [.ref wd, .ref ma1, .ref ma2, .ref ma3, .ref ma4, .ref ma5, .ref ma6, .ref ma7, .int 0, .int 0]))]) hP hD [1] [0] rfl rfl (by decide) (by decide) hk1 hFc hP1 hD1
  have hP : va_P D vwCl [(h0, .inr (8, [.ref tp, .ref wd, .ref td, .ref pn, .ref mn, .ref cs, .ref nm, .ref rd])), (mn, .inr (1, [.ref wd, .ref ma1, .ref ma2, .ref ma3, .ref ma4, .ref ma5, .ref ma6, .ref ma7, .int 0, .int 0]))] H_2 := hP.sub [0, 1] rfl
  have hD : va_D A [(h0, .inr (8, [.ref tp, .ref wd, .ref td, .ref pn, .ref mn, .ref cs, .ref nm, .ref rd])), (mn, .inr (1, [.ref wd, .ref ma1, .ref ma2, .ref ma3, .ref ma4, .ref ma5, .ref ma6, .ref ma7, .int 0, .int 0]))] := hD.sub [0, 1] (by decide) rfl
  try dsimp only at hw
  rcases hw with ⟨rfl, h_4⟩ | ⟨rfl, h_5, h_6⟩
  · refine lv_if_eq (tgt := 39) hx hb dX8_pin_8 (by decide) (fun c_7 => ?_) (fun c_7 => ?_)
    · refine lv_iconst (v := 0) hx hb dX8_pin_39 (by decide) ?_
      have hP9 := hP.sub (ws' := []) [] rfl
      have hD9 := hD.sub (ws' := []) [] (by decide) rfl
      exact W.zret (v := 0) hx hb hr (rfl) (fun t ht hW => ⟨⟨0, (), rfl, rfl, ⟨by rw [ht]; exact hP9, va_K.moved hW.alike hK, hD9⟩⟩, hS.F ht⟩) hS.2.2 dX8_pin_40
    · exact False.elim (by revert c_7; decide)
  · exact False.elim (by exact pE1 h_5 h_6)
set_option maxHeartbeats 4000000 in
set_option maxRecDepth 100000 in
theorem c_X8_loose_0 (l : Launch) (D : va_G) (cB cI cZ : ClassId) (sz : Nat) (h0 : Nat) (tp : Nat) (wd : Nat) (td : Nat) (pn : Nat) (mn : Nat) (cs : Nat) (nm : Nat) (rd : Nat) (pna : Nat) (g : Nat → Int32) (k : Int32) (hg : ∀ j, j < 80 → g j = -1) : Met l yX8_loose (.code yX8_loose cX8_loose 2 (some .boolean) :: wsL_law) ({ frames := 1, cells := 0, slots := 0, locals := 21 } : Room) (va_Pc [.ref h0, .int k] (pIn D (pT cB cI cZ) sz [(h0, .inr (8, [.ref tp, .ref wd, .ref td, .ref pn, .ref mn, .ref cs, .ref nm, .ref rd])), (pn, .inr (3, [.ref pna, .int 0])), (pna, .inl (cI, 80, .inl g))])) (va_Qi (fun (r : Int32) (u : Unit) => r = 0) (fun (u : Unit) (t : State) => pAt D (pT cB cI cZ) (va_A [(h0, .inr (8, [.ref tp, .ref wd, .ref td, .ref pn, .ref mn, .ref cs, .ref nm, .ref rd])), (pn, .inr (3, [.ref pna, .int 0])), (pna, .inl (cI, 80, .inl g))] sz) [] t) (va_A [(h0, .inr (8, [.ref tp, .ref wd, .ref td, .ref pn, .ref mn, .ref cs, .ref nm, .ref rd])), (pn, .inr (3, [.ref pna, .int 0])), (pna, .inl (cI, 80, .inl g))] sz)) 0 0 (va_A [(h0, .inr (8, [.ref tp, .ref wd, .ref td, .ref pn, .ref mn, .ref cs, .ref nm, .ref rd])), (pn, .inr (3, [.ref pna, .int 0])), (pna, .inl (cI, 80, .inl g))] sz) := by
  refine Met.ofW (cc := cX8_loose) (maxL := 2) (ret := (some .boolean)) (by decide) rfl ?_
  intro p e s m args below meth c s₁ B hml hv
  obtain ⟨rfl, hsz, hP, hK, hD0⟩ := hv
  have hx := B.exec
  have hb := B.bytes
  have hr := B.returns
  have hts0 := atoms_spec (ws := .code yX8_loose cX8_loose 2 (some .boolean) :: wsL_law) B.pre
  have hts := fun (w : Cond) (h : w ∈ wsL_law) => hts0 w (List.mem_cons_of_mem _ h)
  have hown : s.vm.findClass RX8 = some m.cls := findClass_of_methodNamed B.named
  have hlocks := B.notSynchronized
  have hinX8 := inlX8
  subst hsz
  have hD := hD0.self (sz := s.heap.size)
  generalize hAe : va_A [(h0, .inr (8, [.ref tp, .ref wd, .ref td, .ref pn, .ref mn, .ref cs, .ref nm, .ref rd])), (pn, .inr (3, [.ref pna, .int 0])), (pna, .inl (cI, 80, .inl g))] s.heap.size = A at hD ⊢
  have hA : ∀ q : Nat, s.heap.size ≤ q → A q := fun q h => by rw [← hAe]; exact Or.inr h
  have hS : va_S A s.heap s.heap [] := va_S.rf
  have hP : va_P D vwCl [(h0, .inr (8, [.ref tp, .ref wd, .ref td, .ref pn, .ref mn, .ref cs, .ref nm, .ref rd])), (pn, .inr (3, [.ref pna, .int 0])), (pna, .inl (cI, 80, .inl g))] s.heap := hP
  have hl := lv_entry ([.ref h0, .int k]) (n := 2) (Nat.le_of_ble_eq_true rfl)
  rw [lg_entry_eq]
  generalize (lg_sl ([.ref h0, .int k]) ++ List.replicate (2 - (lg_sl ([.ref h0, .int k])).length) Slot.unset).toArray = ls at hl ⊢
  have hl : lv_has ls 2 [(0, .ref h0), (1, .int k)] := hl
  refine lv_aload_n hx hb dX8_loose_0 rfl (lv_at hl 0 rfl) ?_
  refine va_get (D := D) (ci := 8) (v := .ref pn) (C := RX8) (T := TX8) (N := 8) hx hb hts hinX8 hown hK hP 0 rfl rfl 3 (by decide) (hts (.fieldLink RX8 35 "TaleReader" "pins" "LTaleReader$Pins;") (uc2 _ (List.mem_of_getElem? (i := 3) rfl))) (fun _ h9 => h9) rfl dX8_loose_1 ?_
  refine lv_iload_n hx hb dX8_loose_4 rfl (lv_at hl 1 rfl) ?_
  have hPc := hP.sub (ws' := [(pn, .inr (3, [.ref pna, .int 0])), (pna, .inl (cI, 80, .inl g))]) [1, 2] rfl
  have hDc := hD.sub (ws' := [(pn, .inr (3, [.ref pna, .int 0])), (pna, .inl (cI, 80, .inl g))]) [1, 2] (by decide) rfl
  have hFc := va_free (wc := [(pn, .inr (3, [.ref pna, .int 0])), (pna, .inl (cI, 80, .inl g))]) hD hS hA [1, 2] rfl
  refine va_calli (va_runV (As := [.int k]) (rest := []) ⟨hx, hb, hml, hown, hts⟩ (c_X3_targetOf l D cB cI cZ s.heap.size pn pna 0 g k) (cwV 1 hts (uV (uc33 _ (List.mem_of_getElem? (i := 17) rfl)) (uc18 _ (List.mem_of_getElem? (i := 8) rfl)) (uc18 _ (List.mem_of_getElem? (i := 9) rfl)) (uc2 _ (List.mem_of_getElem? (i := 2) rfl)) (uc18 _ (List.mem_of_getElem? (i := 10) rfl))) rfl rfl rfl (by decide +kernel) ⟨Nat.le_of_ble_eq_true rfl, Nat.le_of_ble_eq_true rfl⟩) (pV hK hPc hDc 0 rfl rfl) rfl rfl hl.1 rfl (lv_room (Nat.le_of_ble_eq_true rfl)) dX8_loose_5 ⟨Nat.le_of_ble_eq_true rfl, Nat.le_of_ble_eq_true rfl⟩) hS (fun q _ h => hFc q h) hFc (fun r_1 u t H_2 L_3 ht hvm hw hB hz1 hk1 hS => ?_)
  obtain ⟨hP1, -, hD1⟩ := hB
  rw [ht] at hP1
  obtain ⟨hP, hD⟩ := va_join (wr := [(h0, .inr (8, [.ref tp, .ref wd, .ref td, .ref pn, .ref mn, .ref cs, .ref nm, .ref rd]))]) (w1 := [(pn, .inr (3, [.ref pna, .int 0])), (pna, .inl (cI, 80, .inl g))]) hP hD [1, 2] [0] rfl rfl (by decide) (by decide) hk1 hFc hP1 hD1
  have hP : va_P D vwCl [(h0, .inr (8, [.ref tp, .ref wd, .ref td, .ref pn, .ref mn, .ref cs, .ref nm, .ref rd])), (pn, .inr (3, [.ref pna, .int 0])), (pna, .inl (cI, 80, .inl g))] H_2 := hP.sub [0, 1, 2] rfl
  have hD : va_D A [(h0, .inr (8, [.ref tp, .ref wd, .ref td, .ref pn, .ref mn, .ref cs, .ref nm, .ref rd])), (pn, .inr (3, [.ref pna, .int 0])), (pna, .inl (cI, 80, .inl g))] := hD.sub [0, 1, 2] (by decide) rfl
  try dsimp only at hw
  rcases hw with ⟨rfl, h_4⟩ | ⟨rfl, h_5, h_6⟩
  · refine lv_iconst (v := (-1)) hx hb dX8_loose_8 (by decide) ?_
    refine lv_icmp_ne (tgt := 14) hx hb dX8_loose_9 (by decide) (fun c_7 => ?_) (fun c_7 => ?_)
    · exact False.elim (by revert c_7; decide)
    · refine lv_iconst (v := 0) hx hb dX8_loose_12 (by decide) ?_
      have hP9 := hP.sub (ws' := []) [] rfl
      have hD9 := hD.sub (ws' := []) [] (by decide) rfl
      exact W.zret (v := 0) hx hb hr (rfl) (fun t ht hW => ⟨⟨0, (), rfl, rfl, ⟨by rw [ht]; exact hP9, va_K.moved hW.alike hK, hD9⟩⟩, hS.F ht⟩) hS.2.2 dX8_loose_13
  · have ha0 := h_5
    have ha1 := h_6
    refine lv_iconst (v := (-1)) hx hb dX8_loose_8 (by decide) ?_
    refine lv_icmp_ne (tgt := 14) hx hb dX8_loose_9 (by decide) (fun c_8 => ?_) (fun c_8 => ?_)
    · exact False.elim (by exact c_8 (hg _ (pIxN ha0 ha1 (by decide))))
    · refine lv_iconst (v := 0) hx hb dX8_loose_12 (by decide) ?_
      have hP9 := hP.sub (ws' := []) [] rfl
      have hD9 := hD.sub (ws' := []) [] (by decide) rfl
      exact W.zret (v := 0) hx hb hr (rfl) (fun t ht hW => ⟨⟨0, (), rfl, rfl, ⟨by rw [ht]; exact hP9, va_K.moved hW.alike hK, hD9⟩⟩, hS.F ht⟩) hS.2.2 dX8_loose_13
set_option maxHeartbeats 4000000 in
set_option maxRecDepth 100000 in
theorem c_X8_look_0 (l : Launch) (D : va_G) (cB cI cZ : ClassId) (sz : Nat) (h0 : Nat) (tp : Nat) (wd : Nat) (td : Nat) (pn : Nat) (mn : Nat) (cs : Nat) (nm : Nat) (rd : Nat) (tl : Nat) (wa1 : Nat) (wa2 : Nat) (wa3 : Nat) (wa4 : Nat) (lt : Nat) (ta1 : Nat) (ta2 : Nat) (ta3 : Nat) (pna : Nat) (ma1 : Nat) (ma2 : Nat) (ma3 : Nat) (ma4 : Nat) (ma5 : Nat) (ma6 : Nat) (ma7 : Nat) (ca1 : Nat) (ca2 : Nat) (ca3 : Nat) (ca4 : Nat) (ra1 : Nat) (ra2 : Nat) (ra3 : Nat) (k : Int32) : Met l yX8_look (.code yX8_look cX8_look 2 (some .int) :: wsL_law) ({ frames := 2, cells := 0, slots := 0, locals := 43 } : Room) (va_Pc [.ref h0, .int k] (pIn D (pT cB cI cZ) sz [(h0, .inr (8, [.ref tp, .ref wd, .ref td, .ref pn, .ref mn, .ref cs, .ref nm, .ref rd])), (mn, .inr (1, [.ref wd, .ref ma1, .ref ma2, .ref ma3, .ref ma4, .ref ma5, .ref ma6, .ref ma7, .int 0, .int 0])), (cs, .inr (0, [.ref ca1, .ref ca2, .ref ca3, .ref ca4, .int 0])), (wd, .inr (7, [.ref tl, .ref wa1, .ref wa2, .ref wa3, .ref wa4, .int 0, .int 0])), (rd, .inr (4, [.ref mn, .ref pn, .ref cs, .ref nm, .ref ra1, .ref ra2, .ref ra3])), (pn, .inr (3, [.ref pna, .int 0])), (td, .inr (6, [.ref lt, .ref ta1, .ref ta2, .ref ta3, .int 0]))])) (va_Qi (fun (r : Int32) (u : Unit) => r = (if k < 0 ∨ 8 ≤ k then (-1) else 0)) (fun (u : Unit) (t : State) => pAt D (pT cB cI cZ) (va_A [(h0, .inr (8, [.ref tp, .ref wd, .ref td, .ref pn, .ref mn, .ref cs, .ref nm, .ref rd])), (mn, .inr (1, [.ref wd, .ref ma1, .ref ma2, .ref ma3, .ref ma4, .ref ma5, .ref ma6, .ref ma7, .int 0, .int 0])), (cs, .inr (0, [.ref ca1, .ref ca2, .ref ca3, .ref ca4, .int 0])), (wd, .inr (7, [.ref tl, .ref wa1, .ref wa2, .ref wa3, .ref wa4, .int 0, .int 0])), (rd, .inr (4, [.ref mn, .ref pn, .ref cs, .ref nm, .ref ra1, .ref ra2, .ref ra3])), (pn, .inr (3, [.ref pna, .int 0])), (td, .inr (6, [.ref lt, .ref ta1, .ref ta2, .ref ta3, .int 0]))] sz) [] t) (va_A [(h0, .inr (8, [.ref tp, .ref wd, .ref td, .ref pn, .ref mn, .ref cs, .ref nm, .ref rd])), (mn, .inr (1, [.ref wd, .ref ma1, .ref ma2, .ref ma3, .ref ma4, .ref ma5, .ref ma6, .ref ma7, .int 0, .int 0])), (cs, .inr (0, [.ref ca1, .ref ca2, .ref ca3, .ref ca4, .int 0])), (wd, .inr (7, [.ref tl, .ref wa1, .ref wa2, .ref wa3, .ref wa4, .int 0, .int 0])), (rd, .inr (4, [.ref mn, .ref pn, .ref cs, .ref nm, .ref ra1, .ref ra2, .ref ra3])), (pn, .inr (3, [.ref pna, .int 0])), (td, .inr (6, [.ref lt, .ref ta1, .ref ta2, .ref ta3, .int 0]))] sz)) 0 0 (va_A [(h0, .inr (8, [.ref tp, .ref wd, .ref td, .ref pn, .ref mn, .ref cs, .ref nm, .ref rd])), (mn, .inr (1, [.ref wd, .ref ma1, .ref ma2, .ref ma3, .ref ma4, .ref ma5, .ref ma6, .ref ma7, .int 0, .int 0])), (cs, .inr (0, [.ref ca1, .ref ca2, .ref ca3, .ref ca4, .int 0])), (wd, .inr (7, [.ref tl, .ref wa1, .ref wa2, .ref wa3, .ref wa4, .int 0, .int 0])), (rd, .inr (4, [.ref mn, .ref pn, .ref cs, .ref nm, .ref ra1, .ref ra2, .ref ra3])), (pn, .inr (3, [.ref pna, .int 0])), (td, .inr (6, [.ref lt, .ref ta1, .ref ta2, .ref ta3, .int 0]))] sz) := by
  refine Met.ofW (cc := cX8_look) (maxL := 2) (ret := (some .int)) (by decide) rfl ?_
  intro p e s m args below meth c s₁ B hml hv
  obtain ⟨rfl, hsz, hP, hK, hD0⟩ := hv
  have hx := B.exec
  have hb := B.bytes
  have hr := B.returns
  have hts0 := atoms_spec (ws := .code yX8_look cX8_look 2 (some .int) :: wsL_law) B.pre
  have hts := fun (w : Cond) (h : w ∈ wsL_law) => hts0 w (List.mem_cons_of_mem _ h)
  have hown : s.vm.findClass RX8 = some m.cls := findClass_of_methodNamed B.named
  have hlocks := B.notSynchronized
  have hinX8 := inlX8
  subst hsz
  have hD := hD0.self (sz := s.heap.size)
  generalize hAe : va_A [(h0, .inr (8, [.ref tp, .ref wd, .ref td, .ref pn, .ref mn, .ref cs, .ref nm, .ref rd])), (mn, .inr (1, [.ref wd, .ref ma1, .ref ma2, .ref ma3, .ref ma4, .ref ma5, .ref ma6, .ref ma7, .int 0, .int 0])), (cs, .inr (0, [.ref ca1, .ref ca2, .ref ca3, .ref ca4, .int 0])), (wd, .inr (7, [.ref tl, .ref wa1, .ref wa2, .ref wa3, .ref wa4, .int 0, .int 0])), (rd, .inr (4, [.ref mn, .ref pn, .ref cs, .ref nm, .ref ra1, .ref ra2, .ref ra3])), (pn, .inr (3, [.ref pna, .int 0])), (td, .inr (6, [.ref lt, .ref ta1, .ref ta2, .ref ta3, .int 0]))] s.heap.size = A at hD ⊢
  have hA : ∀ q : Nat, s.heap.size ≤ q → A q := fun q h => by rw [← hAe]; exact Or.inr h
  have hS : va_S A s.heap s.heap [] := va_S.rf
  have hP : va_P D vwCl [(h0, .inr (8, [.ref tp, .ref wd, .ref td, .ref pn, .ref mn, .ref cs, .ref nm, .ref rd])), (mn, .inr (1, [.ref wd, .ref ma1, .ref ma2, .ref ma3, .ref ma4, .ref ma5, .ref ma6, .ref ma7, .int 0, .int 0])), (cs, .inr (0, [.ref ca1, .ref ca2, .ref ca3, .ref ca4, .int 0])), (wd, .inr (7, [.ref tl, .ref wa1, .ref wa2, .ref wa3, .ref wa4, .int 0, .int 0])), (rd, .inr (4, [.ref mn, .ref pn, .ref cs, .ref nm, .ref ra1, .ref ra2, .ref ra3])), (pn, .inr (3, [.ref pna, .int 0])), (td, .inr (6, [.ref lt, .ref ta1, .ref ta2, .ref ta3, .int 0]))] s.heap := hP
  have hl := lv_entry ([.ref h0, .int k]) (n := 2) (Nat.le_of_ble_eq_true rfl)
  rw [lg_entry_eq]
  generalize (lg_sl ([.ref h0, .int k]) ++ List.replicate (2 - (lg_sl ([.ref h0, .int k])).length) Slot.unset).toArray = ls at hl ⊢
  have hl : lv_has ls 2 [(0, .ref h0), (1, .int k)] := hl
  refine lv_iload_n hx hb dX8_look_0 rfl (lv_at hl 1 rfl) ?_
  rcases pk_ix k (n := 8) (by decide) with hlo | hhi | ⟨j_1, hj_1, rfl⟩
  · refine lv_tableOut (tgt := 121) hx hb dX8_look_1 (Or.inl (Int32.lt_iff_toInt_lt.mp hlo)) (by decide) ?_
    refine lv_iconst (v := (-1)) hx hb dX8_look_121 (by decide) ?_
    have hP9 := hP.sub (ws' := []) [] rfl
    have hD9 := hD.sub (ws' := []) [] (by decide) rfl
    exact W.iret (v := (-1)) hx hb hr (fun t ht hW => ⟨⟨(-1), (), rfl, (if_pos (Or.inl hlo)).symm, ⟨by rw [ht]; exact hP9, va_K.moved hW.alike hK, hD9⟩⟩, hS.F ht⟩) hS.2.2 dX8_look_122
  · refine lv_tableOut (tgt := 121) hx hb dX8_look_1 (Or.inr (Int.lt_of_lt_of_le (by decide) (Int32.le_iff_toInt_le.mp hhi))) (by decide) ?_
    refine lv_iconst (v := (-1)) hx hb dX8_look_121 (by decide) ?_
    have hP9 := hP.sub (ws' := []) [] rfl
    have hD9 := hD.sub (ws' := []) [] (by decide) rfl
    exact W.iret (v := (-1)) hx hb hr (fun t ht hW => ⟨⟨(-1), (), rfl, (if_pos (Or.inr hhi)).symm, ⟨by rw [ht]; exact hP9, va_K.moved hW.alike hK, hD9⟩⟩, hS.F ht⟩) hS.2.2 dX8_look_122
  · rcases (show j_1 = 0 ∨ j_1 = 1 ∨ j_1 = 2 ∨ j_1 = 3 ∨ j_1 = 4 ∨ j_1 = 5 ∨ j_1 = 6 ∨ j_1 = 7 by omega) with rfl | rfl | rfl | rfl | rfl | rfl | rfl | rfl
    · refine lv_tableIn (tgt := 48) hx hb dX8_look_1 (by decide) (by decide) rfl (by decide) ?_
      refine lv_aload_n hx hb dX8_look_48 rfl (lv_at hl 0 rfl) ?_
      refine va_get (D := D) (ci := 8) (v := .ref mn) (C := RX8) (T := TX8) (N := 8) hx hb hts hinX8 hown hK hP 0 rfl rfl 4 (by decide) (hts (.fieldLink RX8 44 "TaleReader" "mentions" "LTaleReader$Mentions;") (uc2 _ (List.mem_of_getElem? (i := 7) rfl))) (fun _ h9 => h9) rfl dX8_look_49 ?_
      have hPc := hP.sub (ws' := [(mn, .inr (1, [.ref wd, .ref ma1, .ref ma2, .ref ma3, .ref ma4, .ref ma5, .ref ma6, .ref ma7, .int 0, .int 0]))]) [1] rfl
      have hDc := hD.sub (ws' := [(mn, .inr (1, [.ref wd, .ref ma1, .ref ma2, .ref ma3, .ref ma4, .ref ma5, .ref ma6, .ref ma7, .int 0, .int 0]))]) [1] (by decide) rfl
      have hFc := va_free (wc := [(mn, .inr (1, [.ref wd, .ref ma1, .ref ma2, .ref ma3, .ref ma4, .ref ma5, .ref ma6, .ref ma7, .int 0, .int 0]))]) hD hS hA [1] rfl
      refine va_calli (va_runV (As := []) (rest := []) ⟨hx, hb, hml, hown, hts⟩ (c_X1_size l D cB cI cZ s.heap.size mn wd ma1 ma2 ma3 ma4 ma5 ma6 ma7 0 0) (cwV 0 hts (uV (uc17 _ (List.mem_of_getElem? (i := 22) rfl)) (uc17 _ (List.mem_of_getElem? (i := 23) rfl)) (uc18 _ (List.mem_of_getElem? (i := 0) rfl)) (uc2 _ (List.mem_of_getElem? (i := 6) rfl)) (uc18 _ (List.mem_of_getElem? (i := 1) rfl))) rfl rfl rfl (by decide +kernel) ⟨Nat.le_of_ble_eq_true rfl, Nat.le_of_ble_eq_true rfl⟩) (pV hK hPc hDc 0 rfl rfl) rfl rfl hl.1 rfl (lv_room (Nat.le_of_ble_eq_true rfl)) dX8_look_52 ⟨Nat.le_of_ble_eq_true rfl, Nat.le_of_ble_eq_true rfl⟩) hS (fun q _ h => hFc q h) hFc (fun r_2 u t H_3 L_4 ht hvm hw hB hz1 hk1 hS => ?_)
      obtain ⟨hP1, -, hD1⟩ := hB
      rw [ht] at hP1
      obtain ⟨hP, hD⟩ := va_join (wr := [(h0, .inr (8, [.ref tp, .ref wd, .ref td, .ref pn, .ref mn, .ref cs, .ref nm, .ref rd])), (cs, .inr (0, [.ref ca1, .ref ca2, .ref ca3, .ref ca4, .int 0])), (wd, .inr (7, [.ref tl, .ref wa1, .ref wa2, .ref wa3, .ref wa4, .int 0, .int 0])), (rd, .inr (4, [.ref mn, .ref pn, .ref cs, .ref nm, .ref ra1, .ref ra2, .ref ra3])), (pn, .inr (3, [.ref pna, .int 0])), (td, .inr (6, [.ref lt, .ref ta1, .ref ta2, .ref ta3, .int 0]))]) (w1 := [(mn, .inr (1, [.ref wd, .ref ma1, .ref ma2, .ref ma3, .ref ma4, .ref ma5, .ref ma6, .ref ma7, .int 0, .int 0]))]) hP hD [1] [0, 2, 3, 4, 5, 6] rfl rfl (by decide) (by decide) hk1 hFc hP1 hD1
      have hP : va_P D vwCl [(h0, .inr (8, [.ref tp, .ref wd, .ref td, .ref pn, .ref mn, .ref cs, .ref nm, .ref rd])), (mn, .inr (1, [.ref wd, .ref ma1, .ref ma2, .ref ma3, .ref ma4, .ref ma5, .ref ma6, .ref ma7, .int 0, .int 0])), (cs, .inr (0, [.ref ca1, .ref ca2, .ref ca3, .ref ca4, .int 0])), (wd, .inr (7, [.ref tl, .ref wa1, .ref wa2, .ref wa3, .ref wa4, .int 0, .int 0])), (rd, .inr (4, [.ref mn, .ref pn, .ref cs, .ref nm, .ref ra1, .ref ra2, .ref ra3])), (pn, .inr (3, [.ref pna, .int 0])), (td, .inr (6, [.ref lt, .ref ta1, .ref ta2, .ref ta3, .int 0]))] H_3 := hP.sub [0, 6, 1, 2, 3, 4, 5] rfl
      have hD : va_D A [(h0, .inr (8, [.ref tp, .ref wd, .ref td, .ref pn, .ref mn, .ref cs, .ref nm, .ref rd])), (mn, .inr (1, [.ref wd, .ref ma1, .ref ma2, .ref ma3, .ref ma4, .ref ma5, .ref ma6, .ref ma7, .int 0, .int 0])), (cs, .inr (0, [.ref ca1, .ref ca2, .ref ca3, .ref ca4, .int 0])), (wd, .inr (7, [.ref tl, .ref wa1, .ref wa2, .ref wa3, .ref wa4, .int 0, .int 0])), (rd, .inr (4, [.ref mn, .ref pn, .ref cs, .ref nm, .ref ra1, .ref ra2, .ref ra3])), (pn, .inr (3, [.ref pna, .int 0])), (td, .inr (6, [.ref lt, .ref ta1, .ref ta2, .ref ta3, .int 0]))] := hD.sub [0, 6, 1, 2, 3, 4, 5] (by decide) rfl
      try dsimp only at hw
      subst hw
      have hP9 := hP.sub (ws' := []) [] rfl
      have hD9 := hD.sub (ws' := []) [] (by decide) rfl
      exact W.iret (v := 0) hx hb hr (fun t ht hW => ⟨⟨0, (), rfl, (if_neg (by decide)).symm, ⟨by rw [ht]; exact hP9, va_K.moved hW.alike hK, hD9⟩⟩, hS.F ht⟩) hS.2.2 dX8_look_55
    · refine lv_tableIn (tgt := 56) hx hb dX8_look_1 (by decide) (by decide) rfl (by decide) ?_
      refine lv_aload_n hx hb dX8_look_56 rfl (lv_at hl 0 rfl) ?_
      refine va_get (D := D) (ci := 8) (v := .ref cs) (C := RX8) (T := TX8) (N := 8) hx hb hts hinX8 hown hK hP 0 rfl rfl 5 (by decide) (hts (.fieldLink RX8 51 "TaleReader" "cast" "LTaleReader$Cast;") (uc2 _ (List.mem_of_getElem? (i := 11) rfl))) (fun _ h9 => h9) rfl dX8_look_57 ?_
      have hPc := hP.sub (ws' := [(cs, .inr (0, [.ref ca1, .ref ca2, .ref ca3, .ref ca4, .int 0]))]) [2] rfl
      have hDc := hD.sub (ws' := [(cs, .inr (0, [.ref ca1, .ref ca2, .ref ca3, .ref ca4, .int 0]))]) [2] (by decide) rfl
      have hFc := va_free (wc := [(cs, .inr (0, [.ref ca1, .ref ca2, .ref ca3, .ref ca4, .int 0]))]) hD hS hA [2] rfl
      refine va_calli (va_runV (As := []) (rest := []) ⟨hx, hb, hml, hown, hts⟩ (c_X0_size l D cB cI cZ s.heap.size cs ca1 ca2 ca3 ca4 0) (cwV 0 hts (uV (uc34 _ (List.mem_of_getElem? (i := 7) rfl)) (uc21 _ (List.mem_of_getElem? (i := 14) rfl)) (uc21 _ (List.mem_of_getElem? (i := 15) rfl)) (uc2 _ (List.mem_of_getElem? (i := 10) rfl)) (uc21 _ (List.mem_of_getElem? (i := 16) rfl))) rfl rfl rfl (by decide +kernel) ⟨Nat.le_of_ble_eq_true rfl, Nat.le_of_ble_eq_true rfl⟩) (pV hK hPc hDc 0 rfl rfl) rfl rfl hl.1 rfl (lv_room (Nat.le_of_ble_eq_true rfl)) dX8_look_60 ⟨Nat.le_of_ble_eq_true rfl, Nat.le_of_ble_eq_true rfl⟩) hS (fun q _ h => hFc q h) hFc (fun r_5 u t H_6 L_7 ht hvm hw hB hz1 hk1 hS => ?_)
      obtain ⟨hP1, -, hD1⟩ := hB
      rw [ht] at hP1
      obtain ⟨hP, hD⟩ := va_join (wr := [(h0, .inr (8, [.ref tp, .ref wd, .ref td, .ref pn, .ref mn, .ref cs, .ref nm, .ref rd])), (mn, .inr (1, [.ref wd, .ref ma1, .ref ma2, .ref ma3, .ref ma4, .ref ma5, .ref ma6, .ref ma7, .int 0, .int 0])), (wd, .inr (7, [.ref tl, .ref wa1, .ref wa2, .ref wa3, .ref wa4, .int 0, .int 0])), (rd, .inr (4, [.ref mn, .ref pn, .ref cs, .ref nm, .ref ra1, .ref ra2, .ref ra3])), (pn, .inr (3, [.ref pna, .int 0])), (td, .inr (6, [.ref lt, .ref ta1, .ref ta2, .ref ta3, .int 0]))]) (w1 := [(cs, .inr (0, [.ref ca1, .ref ca2, .ref ca3, .ref ca4, .int 0]))]) hP hD [2] [0, 1, 3, 4, 5, 6] rfl rfl (by decide) (by decide) hk1 hFc hP1 hD1
      have hP : va_P D vwCl [(h0, .inr (8, [.ref tp, .ref wd, .ref td, .ref pn, .ref mn, .ref cs, .ref nm, .ref rd])), (mn, .inr (1, [.ref wd, .ref ma1, .ref ma2, .ref ma3, .ref ma4, .ref ma5, .ref ma6, .ref ma7, .int 0, .int 0])), (cs, .inr (0, [.ref ca1, .ref ca2, .ref ca3, .ref ca4, .int 0])), (wd, .inr (7, [.ref tl, .ref wa1, .ref wa2, .ref wa3, .ref wa4, .int 0, .int 0])), (rd, .inr (4, [.ref mn, .ref pn, .ref cs, .ref nm, .ref ra1, .ref ra2, .ref ra3])), (pn, .inr (3, [.ref pna, .int 0])), (td, .inr (6, [.ref lt, .ref ta1, .ref ta2, .ref ta3, .int 0]))] H_6 := hP.sub [0, 1, 6, 2, 3, 4, 5] rfl
      have hD : va_D A [(h0, .inr (8, [.ref tp, .ref wd, .ref td, .ref pn, .ref mn, .ref cs, .ref nm, .ref rd])), (mn, .inr (1, [.ref wd, .ref ma1, .ref ma2, .ref ma3, .ref ma4, .ref ma5, .ref ma6, .ref ma7, .int 0, .int 0])), (cs, .inr (0, [.ref ca1, .ref ca2, .ref ca3, .ref ca4, .int 0])), (wd, .inr (7, [.ref tl, .ref wa1, .ref wa2, .ref wa3, .ref wa4, .int 0, .int 0])), (rd, .inr (4, [.ref mn, .ref pn, .ref cs, .ref nm, .ref ra1, .ref ra2, .ref ra3])), (pn, .inr (3, [.ref pna, .int 0])), (td, .inr (6, [.ref lt, .ref ta1, .ref ta2, .ref ta3, .int 0]))] := hD.sub [0, 1, 6, 2, 3, 4, 5] (by decide) rfl
      try dsimp only at hw
      subst hw
      have hP9 := hP.sub (ws' := []) [] rfl
      have hD9 := hD.sub (ws' := []) [] (by decide) rfl
      exact W.iret (v := 0) hx hb hr (fun t ht hW => ⟨⟨0, (), rfl, (if_neg (by decide)).symm, ⟨by rw [ht]; exact hP9, va_K.moved hW.alike hK, hD9⟩⟩, hS.F ht⟩) hS.2.2 dX8_look_63
    · refine lv_tableIn (tgt := 64) hx hb dX8_look_1 (by decide) (by decide) rfl (by decide) ?_
      refine lv_aload_n hx hb dX8_look_64 rfl (lv_at hl 0 rfl) ?_
      refine va_get (D := D) (ci := 8) (v := .ref wd) (C := RX8) (T := TX8) (N := 8) hx hb hts hinX8 hown hK hP 0 rfl rfl 1 (by decide) (hts (.fieldLink RX8 21 "TaleReader" "words" "LTaleReader$Words;") (uc1 _ (List.mem_of_getElem? (i := 19) rfl))) (fun _ h9 => h9) rfl dX8_look_65 ?_
      have hPc := hP.sub (ws' := [(wd, .inr (7, [.ref tl, .ref wa1, .ref wa2, .ref wa3, .ref wa4, .int 0, .int 0]))]) [3] rfl
      have hDc := hD.sub (ws' := [(wd, .inr (7, [.ref tl, .ref wa1, .ref wa2, .ref wa3, .ref wa4, .int 0, .int 0]))]) [3] (by decide) rfl
      have hFc := va_free (wc := [(wd, .inr (7, [.ref tl, .ref wa1, .ref wa2, .ref wa3, .ref wa4, .int 0, .int 0]))]) hD hS hA [3] rfl
      refine va_calli (va_runV (As := []) (rest := []) ⟨hx, hb, hml, hown, hts⟩ (c_X7_sentenceCount l D cB cI cZ s.heap.size wd tl wa1 wa2 wa3 wa4 0 0) (cwV 0 hts (uV (uc34 _ (List.mem_of_getElem? (i := 8) rfl)) (uc34 _ (List.mem_of_getElem? (i := 9) rfl)) (uc34 _ (List.mem_of_getElem? (i := 10) rfl)) (uc1 _ (List.mem_of_getElem? (i := 18) rfl)) (uc34 _ (List.mem_of_getElem? (i := 11) rfl))) rfl rfl rfl (by decide +kernel) ⟨Nat.le_of_ble_eq_true rfl, Nat.le_of_ble_eq_true rfl⟩) (pV hK hPc hDc 0 rfl rfl) rfl rfl hl.1 rfl (lv_room (Nat.le_of_ble_eq_true rfl)) dX8_look_68 ⟨Nat.le_of_ble_eq_true rfl, Nat.le_of_ble_eq_true rfl⟩) hS (fun q _ h => hFc q h) hFc (fun r_8 u t H_9 L_10 ht hvm hw hB hz1 hk1 hS => ?_)
      obtain ⟨hP1, -, hD1⟩ := hB
      rw [ht] at hP1
      obtain ⟨hP, hD⟩ := va_join (wr := [(h0, .inr (8, [.ref tp, .ref wd, .ref td, .ref pn, .ref mn, .ref cs, .ref nm, .ref rd])), (mn, .inr (1, [.ref wd, .ref ma1, .ref ma2, .ref ma3, .ref ma4, .ref ma5, .ref ma6, .ref ma7, .int 0, .int 0])), (cs, .inr (0, [.ref ca1, .ref ca2, .ref ca3, .ref ca4, .int 0])), (rd, .inr (4, [.ref mn, .ref pn, .ref cs, .ref nm, .ref ra1, .ref ra2, .ref ra3])), (pn, .inr (3, [.ref pna, .int 0])), (td, .inr (6, [.ref lt, .ref ta1, .ref ta2, .ref ta3, .int 0]))]) (w1 := [(wd, .inr (7, [.ref tl, .ref wa1, .ref wa2, .ref wa3, .ref wa4, .int 0, .int 0]))]) hP hD [3] [0, 1, 2, 4, 5, 6] rfl rfl (by decide) (by decide) hk1 hFc hP1 hD1
      have hP : va_P D vwCl [(h0, .inr (8, [.ref tp, .ref wd, .ref td, .ref pn, .ref mn, .ref cs, .ref nm, .ref rd])), (mn, .inr (1, [.ref wd, .ref ma1, .ref ma2, .ref ma3, .ref ma4, .ref ma5, .ref ma6, .ref ma7, .int 0, .int 0])), (cs, .inr (0, [.ref ca1, .ref ca2, .ref ca3, .ref ca4, .int 0])), (wd, .inr (7, [.ref tl, .ref wa1, .ref wa2, .ref wa3, .ref wa4, .int 0, .int 0])), (rd, .inr (4, [.ref mn, .ref pn, .ref cs, .ref nm, .ref ra1, .ref ra2, .ref ra3])), (pn, .inr (3, [.ref pna, .int 0])), (td, .inr (6, [.ref lt, .ref ta1, .ref ta2, .ref ta3, .int 0]))] H_9 := hP.sub [0, 1, 2, 6, 3, 4, 5] rfl
      have hD : va_D A [(h0, .inr (8, [.ref tp, .ref wd, .ref td, .ref pn, .ref mn, .ref cs, .ref nm, .ref rd])), (mn, .inr (1, [.ref wd, .ref ma1, .ref ma2, .ref ma3, .ref ma4, .ref ma5, .ref ma6, .ref ma7, .int 0, .int 0])), (cs, .inr (0, [.ref ca1, .ref ca2, .ref ca3, .ref ca4, .int 0])), (wd, .inr (7, [.ref tl, .ref wa1, .ref wa2, .ref wa3, .ref wa4, .int 0, .int 0])), (rd, .inr (4, [.ref mn, .ref pn, .ref cs, .ref nm, .ref ra1, .ref ra2, .ref ra3])), (pn, .inr (3, [.ref pna, .int 0])), (td, .inr (6, [.ref lt, .ref ta1, .ref ta2, .ref ta3, .int 0]))] := hD.sub [0, 1, 2, 6, 3, 4, 5] (by decide) rfl
      try dsimp only at hw
      subst hw
      have hP9 := hP.sub (ws' := []) [] rfl
      have hD9 := hD.sub (ws' := []) [] (by decide) rfl
      exact W.iret (v := 0) hx hb hr (fun t ht hW => ⟨⟨0, (), rfl, (if_neg (by decide)).symm, ⟨by rw [ht]; exact hP9, va_K.moved hW.alike hK, hD9⟩⟩, hS.F ht⟩) hS.2.2 dX8_look_71
    · refine lv_tableIn (tgt := 72) hx hb dX8_look_1 (by decide) (by decide) rfl (by decide) ?_
      refine lv_aload_n hx hb dX8_look_72 rfl (lv_at hl 0 rfl) ?_
      refine va_get (D := D) (ci := 8) (v := .ref rd) (C := RX8) (T := TX8) (N := 8) hx hb hts hinX8 hown hK hP 0 rfl rfl 7 (by decide) (hts (.fieldLink RX8 69 "TaleReader" "reading" "LTaleReader$Reading;") (uc2 _ (List.mem_of_getElem? (i := 19) rfl))) (fun _ h9 => h9) rfl dX8_look_73 ?_
      have hPc := hP.sub (ws' := [(rd, .inr (4, [.ref mn, .ref pn, .ref cs, .ref nm, .ref ra1, .ref ra2, .ref ra3])), (mn, .inr (1, [.ref wd, .ref ma1, .ref ma2, .ref ma3, .ref ma4, .ref ma5, .ref ma6, .ref ma7, .int 0, .int 0]))]) [4, 1] rfl
      have hDc := hD.sub (ws' := [(rd, .inr (4, [.ref mn, .ref pn, .ref cs, .ref nm, .ref ra1, .ref ra2, .ref ra3])), (mn, .inr (1, [.ref wd, .ref ma1, .ref ma2, .ref ma3, .ref ma4, .ref ma5, .ref ma6, .ref ma7, .int 0, .int 0]))]) [4, 1] (by decide) rfl
      have hFc := va_free (wc := [(rd, .inr (4, [.ref mn, .ref pn, .ref cs, .ref nm, .ref ra1, .ref ra2, .ref ra3])), (mn, .inr (1, [.ref wd, .ref ma1, .ref ma2, .ref ma3, .ref ma4, .ref ma5, .ref ma6, .ref ma7, .int 0, .int 0]))]) hD hS hA [4, 1] rfl
      refine va_calli (va_runV (As := []) (rest := []) ⟨hx, hb, hml, hown, hts⟩ (c_X4_doubtCount_0 l D cB cI cZ s.heap.size rd mn pn cs nm ra1 ra2 ra3 wd ma1 ma2 ma3 ma4 ma5 ma6 ma7 0) (cwV 0 hts (uV (uc34 _ (List.mem_of_getElem? (i := 12) rfl)) (uc34 _ (List.mem_of_getElem? (i := 13) rfl)) (uc34 _ (List.mem_of_getElem? (i := 14) rfl)) (uc2 _ (List.mem_of_getElem? (i := 18) rfl)) (uc34 _ (List.mem_of_getElem? (i := 15) rfl))) rfl rfl rfl (by decide +kernel) ⟨Nat.le_of_ble_eq_true rfl, Nat.le_of_ble_eq_true rfl⟩) (pV hK hPc hDc 0 rfl rfl) rfl rfl hl.1 rfl (lv_room (Nat.le_of_ble_eq_true rfl)) dX8_look_76 ⟨Nat.le_of_ble_eq_true rfl, Nat.le_of_ble_eq_true rfl⟩) hS (fun q _ h => hFc q h) hFc (fun r_11 u t H_12 L_13 ht hvm hw hB hz1 hk1 hS => ?_)
      obtain ⟨hP1, -, hD1⟩ := hB
      rw [ht] at hP1
      obtain ⟨hP, hD⟩ := va_join (wr := [(h0, .inr (8, [.ref tp, .ref wd, .ref td, .ref pn, .ref mn, .ref cs, .ref nm, .ref rd])), (cs, .inr (0, [.ref ca1, .ref ca2, .ref ca3, .ref ca4, .int 0])), (wd, .inr (7, [.ref tl, .ref wa1, .ref wa2, .ref wa3, .ref wa4, .int 0, .int 0])), (pn, .inr (3, [.ref pna, .int 0])), (td, .inr (6, [.ref lt, .ref ta1, .ref ta2, .ref ta3, .int 0]))]) (w1 := [(rd, .inr (4, [.ref mn, .ref pn, .ref cs, .ref nm, .ref ra1, .ref ra2, .ref ra3])), (mn, .inr (1, [.ref wd, .ref ma1, .ref ma2, .ref ma3, .ref ma4, .ref ma5, .ref ma6, .ref ma7, .int 0, .int 0]))]) hP hD [4, 1] [0, 2, 3, 5, 6] rfl rfl (by decide) (by decide) hk1 hFc hP1 hD1
      have hP : va_P D vwCl [(h0, .inr (8, [.ref tp, .ref wd, .ref td, .ref pn, .ref mn, .ref cs, .ref nm, .ref rd])), (mn, .inr (1, [.ref wd, .ref ma1, .ref ma2, .ref ma3, .ref ma4, .ref ma5, .ref ma6, .ref ma7, .int 0, .int 0])), (cs, .inr (0, [.ref ca1, .ref ca2, .ref ca3, .ref ca4, .int 0])), (wd, .inr (7, [.ref tl, .ref wa1, .ref wa2, .ref wa3, .ref wa4, .int 0, .int 0])), (rd, .inr (4, [.ref mn, .ref pn, .ref cs, .ref nm, .ref ra1, .ref ra2, .ref ra3])), (pn, .inr (3, [.ref pna, .int 0])), (td, .inr (6, [.ref lt, .ref ta1, .ref ta2, .ref ta3, .int 0]))] H_12 := hP.sub [0, 6, 1, 2, 5, 3, 4] rfl
      have hD : va_D A [(h0, .inr (8, [.ref tp, .ref wd, .ref td, .ref pn, .ref mn, .ref cs, .ref nm, .ref rd])), (mn, .inr (1, [.ref wd, .ref ma1, .ref ma2, .ref ma3, .ref ma4, .ref ma5, .ref ma6, .ref ma7, .int 0, .int 0])), (cs, .inr (0, [.ref ca1, .ref ca2, .ref ca3, .ref ca4, .int 0])), (wd, .inr (7, [.ref tl, .ref wa1, .ref wa2, .ref wa3, .ref wa4, .int 0, .int 0])), (rd, .inr (4, [.ref mn, .ref pn, .ref cs, .ref nm, .ref ra1, .ref ra2, .ref ra3])), (pn, .inr (3, [.ref pna, .int 0])), (td, .inr (6, [.ref lt, .ref ta1, .ref ta2, .ref ta3, .int 0]))] := hD.sub [0, 6, 1, 2, 5, 3, 4] (by decide) rfl
      try dsimp only at hw
      subst hw
      have hP9 := hP.sub (ws' := []) [] rfl
      have hD9 := hD.sub (ws' := []) [] (by decide) rfl
      exact W.iret (v := 0) hx hb hr (fun t ht hW => ⟨⟨0, (), rfl, (if_neg (by decide)).symm, ⟨by rw [ht]; exact hP9, va_K.moved hW.alike hK, hD9⟩⟩, hS.F ht⟩) hS.2.2 dX8_look_79
    · refine lv_tableIn (tgt := 80) hx hb dX8_look_1 (by decide) (by decide) rfl (by decide) ?_
      refine lv_aload_n hx hb dX8_look_80 rfl (lv_at hl 0 rfl) ?_
      refine va_get (D := D) (ci := 8) (v := .ref rd) (C := RX8) (T := TX8) (N := 8) hx hb hts hinX8 hown hK hP 0 rfl rfl 7 (by decide) (hts (.fieldLink RX8 69 "TaleReader" "reading" "LTaleReader$Reading;") (uc2 _ (List.mem_of_getElem? (i := 19) rfl))) (fun _ h9 => h9) rfl dX8_look_81 ?_
      refine lv_iconst (v := (-1)) hx hb dX8_look_84 (by decide) ?_
      have hPc := hP.sub (ws' := [(rd, .inr (4, [.ref mn, .ref pn, .ref cs, .ref nm, .ref ra1, .ref ra2, .ref ra3])), (mn, .inr (1, [.ref wd, .ref ma1, .ref ma2, .ref ma3, .ref ma4, .ref ma5, .ref ma6, .ref ma7, .int 0, .int 0]))]) [4, 1] rfl
      have hDc := hD.sub (ws' := [(rd, .inr (4, [.ref mn, .ref pn, .ref cs, .ref nm, .ref ra1, .ref ra2, .ref ra3])), (mn, .inr (1, [.ref wd, .ref ma1, .ref ma2, .ref ma3, .ref ma4, .ref ma5, .ref ma6, .ref ma7, .int 0, .int 0]))]) [4, 1] (by decide) rfl
      have hFc := va_free (wc := [(rd, .inr (4, [.ref mn, .ref pn, .ref cs, .ref nm, .ref ra1, .ref ra2, .ref ra3])), (mn, .inr (1, [.ref wd, .ref ma1, .ref ma2, .ref ma3, .ref ma4, .ref ma5, .ref ma6, .ref ma7, .int 0, .int 0]))]) hD hS hA [4, 1] rfl
      refine va_calli (va_runV (As := [.int (-1)]) (rest := []) ⟨hx, hb, hml, hown, hts⟩ (c_X4_countOf_0 l D cB cI cZ s.heap.size rd mn pn cs nm ra1 ra2 ra3 wd ma1 ma2 ma3 ma4 ma5 ma6 ma7 0 (-1)) (cwV 1 hts (uV (uc34 _ (List.mem_of_getElem? (i := 21) rfl)) (uc34 _ (List.mem_of_getElem? (i := 22) rfl)) (uc34 _ (List.mem_of_getElem? (i := 23) rfl)) (uc2 _ (List.mem_of_getElem? (i := 18) rfl)) (uc35 _ (List.mem_of_getElem? (i := 0) rfl))) rfl rfl rfl (by decide +kernel) ⟨Nat.le_of_ble_eq_true rfl, Nat.le_of_ble_eq_true rfl⟩) (pV hK hPc hDc 0 rfl rfl) rfl rfl hl.1 rfl (lv_room (Nat.le_of_ble_eq_true rfl)) dX8_look_85 ⟨Nat.le_of_ble_eq_true rfl, Nat.le_of_ble_eq_true rfl⟩) hS (fun q _ h => hFc q h) hFc (fun r_14 u t H_15 L_16 ht hvm hw hB hz1 hk1 hS => ?_)
      obtain ⟨hP1, -, hD1⟩ := hB
      rw [ht] at hP1
      obtain ⟨hP, hD⟩ := va_join (wr := [(h0, .inr (8, [.ref tp, .ref wd, .ref td, .ref pn, .ref mn, .ref cs, .ref nm, .ref rd])), (cs, .inr (0, [.ref ca1, .ref ca2, .ref ca3, .ref ca4, .int 0])), (wd, .inr (7, [.ref tl, .ref wa1, .ref wa2, .ref wa3, .ref wa4, .int 0, .int 0])), (pn, .inr (3, [.ref pna, .int 0])), (td, .inr (6, [.ref lt, .ref ta1, .ref ta2, .ref ta3, .int 0]))]) (w1 := [(rd, .inr (4, [.ref mn, .ref pn, .ref cs, .ref nm, .ref ra1, .ref ra2, .ref ra3])), (mn, .inr (1, [.ref wd, .ref ma1, .ref ma2, .ref ma3, .ref ma4, .ref ma5, .ref ma6, .ref ma7, .int 0, .int 0]))]) hP hD [4, 1] [0, 2, 3, 5, 6] rfl rfl (by decide) (by decide) hk1 hFc hP1 hD1
      have hP : va_P D vwCl [(h0, .inr (8, [.ref tp, .ref wd, .ref td, .ref pn, .ref mn, .ref cs, .ref nm, .ref rd])), (mn, .inr (1, [.ref wd, .ref ma1, .ref ma2, .ref ma3, .ref ma4, .ref ma5, .ref ma6, .ref ma7, .int 0, .int 0])), (cs, .inr (0, [.ref ca1, .ref ca2, .ref ca3, .ref ca4, .int 0])), (wd, .inr (7, [.ref tl, .ref wa1, .ref wa2, .ref wa3, .ref wa4, .int 0, .int 0])), (rd, .inr (4, [.ref mn, .ref pn, .ref cs, .ref nm, .ref ra1, .ref ra2, .ref ra3])), (pn, .inr (3, [.ref pna, .int 0])), (td, .inr (6, [.ref lt, .ref ta1, .ref ta2, .ref ta3, .int 0]))] H_15 := hP.sub [0, 6, 1, 2, 5, 3, 4] rfl
      have hD : va_D A [(h0, .inr (8, [.ref tp, .ref wd, .ref td, .ref pn, .ref mn, .ref cs, .ref nm, .ref rd])), (mn, .inr (1, [.ref wd, .ref ma1, .ref ma2, .ref ma3, .ref ma4, .ref ma5, .ref ma6, .ref ma7, .int 0, .int 0])), (cs, .inr (0, [.ref ca1, .ref ca2, .ref ca3, .ref ca4, .int 0])), (wd, .inr (7, [.ref tl, .ref wa1, .ref wa2, .ref wa3, .ref wa4, .int 0, .int 0])), (rd, .inr (4, [.ref mn, .ref pn, .ref cs, .ref nm, .ref ra1, .ref ra2, .ref ra3])), (pn, .inr (3, [.ref pna, .int 0])), (td, .inr (6, [.ref lt, .ref ta1, .ref ta2, .ref ta3, .int 0]))] := hD.sub [0, 6, 1, 2, 5, 3, 4] (by decide) rfl
      try dsimp only at hw
      subst hw
      have hP9 := hP.sub (ws' := []) [] rfl
      have hD9 := hD.sub (ws' := []) [] (by decide) rfl
      exact W.iret (v := 0) hx hb hr (fun t ht hW => ⟨⟨0, (), rfl, (if_neg (by decide)).symm, ⟨by rw [ht]; exact hP9, va_K.moved hW.alike hK, hD9⟩⟩, hS.F ht⟩) hS.2.2 dX8_look_88
    · refine lv_tableIn (tgt := 89) hx hb dX8_look_1 (by decide) (by decide) rfl (by decide) ?_
      refine lv_aload_n hx hb dX8_look_89 rfl (lv_at hl 0 rfl) ?_
      refine va_get (D := D) (ci := 8) (v := .ref mn) (C := RX8) (T := TX8) (N := 8) hx hb hts hinX8 hown hK hP 0 rfl rfl 4 (by decide) (hts (.fieldLink RX8 44 "TaleReader" "mentions" "LTaleReader$Mentions;") (uc2 _ (List.mem_of_getElem? (i := 7) rfl))) (fun _ h9 => h9) rfl dX8_look_90 ?_
      have hPc := hP.sub (ws' := [(mn, .inr (1, [.ref wd, .ref ma1, .ref ma2, .ref ma3, .ref ma4, .ref ma5, .ref ma6, .ref ma7, .int 0, .int 0]))]) [1] rfl
      have hDc := hD.sub (ws' := [(mn, .inr (1, [.ref wd, .ref ma1, .ref ma2, .ref ma3, .ref ma4, .ref ma5, .ref ma6, .ref ma7, .int 0, .int 0]))]) [1] (by decide) rfl
      have hFc := va_free (wc := [(mn, .inr (1, [.ref wd, .ref ma1, .ref ma2, .ref ma3, .ref ma4, .ref ma5, .ref ma6, .ref ma7, .int 0, .int 0]))]) hD hS hA [1] rfl
      refine va_calli (va_runV (As := []) (rest := []) ⟨hx, hb, hml, hown, hts⟩ (c_X1_isCut l D cB cI cZ s.heap.size mn wd ma1 ma2 ma3 ma4 ma5 ma6 ma7 0 0 (Or.inl rfl)) (cwV 0 hts (uV (uc35 _ (List.mem_of_getElem? (i := 1) rfl)) (uc35 _ (List.mem_of_getElem? (i := 2) rfl)) (uc35 _ (List.mem_of_getElem? (i := 3) rfl)) (uc2 _ (List.mem_of_getElem? (i := 6) rfl)) (uc35 _ (List.mem_of_getElem? (i := 4) rfl))) rfl rfl rfl (by decide +kernel) ⟨Nat.le_of_ble_eq_true rfl, Nat.le_of_ble_eq_true rfl⟩) (pV hK hPc hDc 0 rfl rfl) rfl rfl hl.1 rfl (lv_room (Nat.le_of_ble_eq_true rfl)) dX8_look_93 ⟨Nat.le_of_ble_eq_true rfl, Nat.le_of_ble_eq_true rfl⟩) hS (fun q _ h => hFc q h) hFc (fun r_17 u t H_18 L_19 ht hvm hw hB hz1 hk1 hS => ?_)
      obtain ⟨hP1, -, hD1⟩ := hB
      rw [ht] at hP1
      obtain ⟨hP, hD⟩ := va_join (wr := [(h0, .inr (8, [.ref tp, .ref wd, .ref td, .ref pn, .ref mn, .ref cs, .ref nm, .ref rd])), (cs, .inr (0, [.ref ca1, .ref ca2, .ref ca3, .ref ca4, .int 0])), (wd, .inr (7, [.ref tl, .ref wa1, .ref wa2, .ref wa3, .ref wa4, .int 0, .int 0])), (rd, .inr (4, [.ref mn, .ref pn, .ref cs, .ref nm, .ref ra1, .ref ra2, .ref ra3])), (pn, .inr (3, [.ref pna, .int 0])), (td, .inr (6, [.ref lt, .ref ta1, .ref ta2, .ref ta3, .int 0]))]) (w1 := [(mn, .inr (1, [.ref wd, .ref ma1, .ref ma2, .ref ma3, .ref ma4, .ref ma5, .ref ma6, .ref ma7, .int 0, .int 0]))]) hP hD [1] [0, 2, 3, 4, 5, 6] rfl rfl (by decide) (by decide) hk1 hFc hP1 hD1
      have hP : va_P D vwCl [(h0, .inr (8, [.ref tp, .ref wd, .ref td, .ref pn, .ref mn, .ref cs, .ref nm, .ref rd])), (mn, .inr (1, [.ref wd, .ref ma1, .ref ma2, .ref ma3, .ref ma4, .ref ma5, .ref ma6, .ref ma7, .int 0, .int 0])), (cs, .inr (0, [.ref ca1, .ref ca2, .ref ca3, .ref ca4, .int 0])), (wd, .inr (7, [.ref tl, .ref wa1, .ref wa2, .ref wa3, .ref wa4, .int 0, .int 0])), (rd, .inr (4, [.ref mn, .ref pn, .ref cs, .ref nm, .ref ra1, .ref ra2, .ref ra3])), (pn, .inr (3, [.ref pna, .int 0])), (td, .inr (6, [.ref lt, .ref ta1, .ref ta2, .ref ta3, .int 0]))] H_18 := hP.sub [0, 6, 1, 2, 3, 4, 5] rfl
      have hD : va_D A [(h0, .inr (8, [.ref tp, .ref wd, .ref td, .ref pn, .ref mn, .ref cs, .ref nm, .ref rd])), (mn, .inr (1, [.ref wd, .ref ma1, .ref ma2, .ref ma3, .ref ma4, .ref ma5, .ref ma6, .ref ma7, .int 0, .int 0])), (cs, .inr (0, [.ref ca1, .ref ca2, .ref ca3, .ref ca4, .int 0])), (wd, .inr (7, [.ref tl, .ref wa1, .ref wa2, .ref wa3, .ref wa4, .int 0, .int 0])), (rd, .inr (4, [.ref mn, .ref pn, .ref cs, .ref nm, .ref ra1, .ref ra2, .ref ra3])), (pn, .inr (3, [.ref pna, .int 0])), (td, .inr (6, [.ref lt, .ref ta1, .ref ta2, .ref ta3, .int 0]))] := hD.sub [0, 6, 1, 2, 3, 4, 5] (by decide) rfl
      try dsimp only at hw
      subst hw
      refine lv_if_eq (tgt := 103) hx hb dX8_look_96 (by decide) (fun c_20 => ?_) (fun c_20 => ?_)
      · refine lv_iconst (v := 0) hx hb dX8_look_103 (by decide) ?_
        have hP9 := hP.sub (ws' := []) [] rfl
        have hD9 := hD.sub (ws' := []) [] (by decide) rfl
        exact W.iret (v := 0) hx hb hr (fun t ht hW => ⟨⟨0, (), rfl, (if_neg (by decide)).symm, ⟨by rw [ht]; exact hP9, va_K.moved hW.alike hK, hD9⟩⟩, hS.F ht⟩) hS.2.2 dX8_look_104
      · exact False.elim (by revert c_20; decide)
    · refine lv_tableIn (tgt := 105) hx hb dX8_look_1 (by decide) (by decide) rfl (by decide) ?_
      refine lv_aload_n hx hb dX8_look_105 rfl (lv_at hl 0 rfl) ?_
      refine va_get (D := D) (ci := 8) (v := .ref pn) (C := RX8) (T := TX8) (N := 8) hx hb hts hinX8 hown hK hP 0 rfl rfl 3 (by decide) (hts (.fieldLink RX8 35 "TaleReader" "pins" "LTaleReader$Pins;") (uc2 _ (List.mem_of_getElem? (i := 3) rfl))) (fun _ h9 => h9) rfl dX8_look_106 ?_
      have hPc := hP.sub (ws' := [(pn, .inr (3, [.ref pna, .int 0]))]) [5] rfl
      have hDc := hD.sub (ws' := [(pn, .inr (3, [.ref pna, .int 0]))]) [5] (by decide) rfl
      have hFc := va_free (wc := [(pn, .inr (3, [.ref pna, .int 0]))]) hD hS hA [5] rfl
      refine va_calli (va_runV (As := []) (rest := []) ⟨hx, hb, hml, hown, hts⟩ (c_X3_size l D cB cI cZ s.heap.size pn pna 0) (cwV 0 hts (uV (uc33 _ (List.mem_of_getElem? (i := 1) rfl)) (uc33 _ (List.mem_of_getElem? (i := 2) rfl)) (uc33 _ (List.mem_of_getElem? (i := 3) rfl)) (uc2 _ (List.mem_of_getElem? (i := 2) rfl)) (uc33 _ (List.mem_of_getElem? (i := 4) rfl))) rfl rfl rfl (by decide +kernel) ⟨Nat.le_of_ble_eq_true rfl, Nat.le_of_ble_eq_true rfl⟩) (pV hK hPc hDc 0 rfl rfl) rfl rfl hl.1 rfl (lv_room (Nat.le_of_ble_eq_true rfl)) dX8_look_109 ⟨Nat.le_of_ble_eq_true rfl, Nat.le_of_ble_eq_true rfl⟩) hS (fun q _ h => hFc q h) hFc (fun r_21 u t H_22 L_23 ht hvm hw hB hz1 hk1 hS => ?_)
      obtain ⟨hP1, -, hD1⟩ := hB
      rw [ht] at hP1
      obtain ⟨hP, hD⟩ := va_join (wr := [(h0, .inr (8, [.ref tp, .ref wd, .ref td, .ref pn, .ref mn, .ref cs, .ref nm, .ref rd])), (mn, .inr (1, [.ref wd, .ref ma1, .ref ma2, .ref ma3, .ref ma4, .ref ma5, .ref ma6, .ref ma7, .int 0, .int 0])), (cs, .inr (0, [.ref ca1, .ref ca2, .ref ca3, .ref ca4, .int 0])), (wd, .inr (7, [.ref tl, .ref wa1, .ref wa2, .ref wa3, .ref wa4, .int 0, .int 0])), (rd, .inr (4, [.ref mn, .ref pn, .ref cs, .ref nm, .ref ra1, .ref ra2, .ref ra3])), (td, .inr (6, [.ref lt, .ref ta1, .ref ta2, .ref ta3, .int 0]))]) (w1 := [(pn, .inr (3, [.ref pna, .int 0]))]) hP hD [5] [0, 1, 2, 3, 4, 6] rfl rfl (by decide) (by decide) hk1 hFc hP1 hD1
      have hP : va_P D vwCl [(h0, .inr (8, [.ref tp, .ref wd, .ref td, .ref pn, .ref mn, .ref cs, .ref nm, .ref rd])), (mn, .inr (1, [.ref wd, .ref ma1, .ref ma2, .ref ma3, .ref ma4, .ref ma5, .ref ma6, .ref ma7, .int 0, .int 0])), (cs, .inr (0, [.ref ca1, .ref ca2, .ref ca3, .ref ca4, .int 0])), (wd, .inr (7, [.ref tl, .ref wa1, .ref wa2, .ref wa3, .ref wa4, .int 0, .int 0])), (rd, .inr (4, [.ref mn, .ref pn, .ref cs, .ref nm, .ref ra1, .ref ra2, .ref ra3])), (pn, .inr (3, [.ref pna, .int 0])), (td, .inr (6, [.ref lt, .ref ta1, .ref ta2, .ref ta3, .int 0]))] H_22 := hP.sub [0, 1, 2, 3, 4, 6, 5] rfl
      have hD : va_D A [(h0, .inr (8, [.ref tp, .ref wd, .ref td, .ref pn, .ref mn, .ref cs, .ref nm, .ref rd])), (mn, .inr (1, [.ref wd, .ref ma1, .ref ma2, .ref ma3, .ref ma4, .ref ma5, .ref ma6, .ref ma7, .int 0, .int 0])), (cs, .inr (0, [.ref ca1, .ref ca2, .ref ca3, .ref ca4, .int 0])), (wd, .inr (7, [.ref tl, .ref wa1, .ref wa2, .ref wa3, .ref wa4, .int 0, .int 0])), (rd, .inr (4, [.ref mn, .ref pn, .ref cs, .ref nm, .ref ra1, .ref ra2, .ref ra3])), (pn, .inr (3, [.ref pna, .int 0])), (td, .inr (6, [.ref lt, .ref ta1, .ref ta2, .ref ta3, .int 0]))] := hD.sub [0, 1, 2, 3, 4, 6, 5] (by decide) rfl
      try dsimp only at hw
      subst hw
      have hP9 := hP.sub (ws' := []) [] rfl
      have hD9 := hD.sub (ws' := []) [] (by decide) rfl
      exact W.iret (v := 0) hx hb hr (fun t ht hW => ⟨⟨0, (), rfl, (if_neg (by decide)).symm, ⟨by rw [ht]; exact hP9, va_K.moved hW.alike hK, hD9⟩⟩, hS.F ht⟩) hS.2.2 dX8_look_112
    · refine lv_tableIn (tgt := 113) hx hb dX8_look_1 (by decide) (by decide) rfl (by decide) ?_
      refine lv_aload_n hx hb dX8_look_113 rfl (lv_at hl 0 rfl) ?_
      refine va_get (D := D) (ci := 8) (v := .ref td) (C := RX8) (T := TX8) (N := 8) hx hb hts hinX8 hown hK hP 0 rfl rfl 2 (by decide) (hts (.fieldLink RX8 28 "TaleReader" "told" "LTaleReader$ToldNames;") (uc1 _ (List.mem_of_getElem? (i := 23) rfl))) (fun _ h9 => h9) rfl dX8_look_114 ?_
      have hPc := hP.sub (ws' := [(td, .inr (6, [.ref lt, .ref ta1, .ref ta2, .ref ta3, .int 0]))]) [6] rfl
      have hDc := hD.sub (ws' := [(td, .inr (6, [.ref lt, .ref ta1, .ref ta2, .ref ta3, .int 0]))]) [6] (by decide) rfl
      have hFc := va_free (wc := [(td, .inr (6, [.ref lt, .ref ta1, .ref ta2, .ref ta3, .int 0]))]) hD hS hA [6] rfl
      refine va_calli (va_runV (As := []) (rest := []) ⟨hx, hb, hml, hown, hts⟩ (c_X6_size l D cB cI cZ s.heap.size td lt ta1 ta2 ta3 0) (cwV 0 hts (uV (uc35 _ (List.mem_of_getElem? (i := 5) rfl)) (uc35 _ (List.mem_of_getElem? (i := 6) rfl)) (uc35 _ (List.mem_of_getElem? (i := 7) rfl)) (uc1 _ (List.mem_of_getElem? (i := 22) rfl)) (uc35 _ (List.mem_of_getElem? (i := 8) rfl))) rfl rfl rfl (by decide +kernel) ⟨Nat.le_of_ble_eq_true rfl, Nat.le_of_ble_eq_true rfl⟩) (pV hK hPc hDc 0 rfl rfl) rfl rfl hl.1 rfl (lv_room (Nat.le_of_ble_eq_true rfl)) dX8_look_117 ⟨Nat.le_of_ble_eq_true rfl, Nat.le_of_ble_eq_true rfl⟩) hS (fun q _ h => hFc q h) hFc (fun r_24 u t H_25 L_26 ht hvm hw hB hz1 hk1 hS => ?_)
      obtain ⟨hP1, -, hD1⟩ := hB
      rw [ht] at hP1
      obtain ⟨hP, hD⟩ := va_join (wr := [(h0, .inr (8, [.ref tp, .ref wd, .ref td, .ref pn, .ref mn, .ref cs, .ref nm, .ref rd])), (mn, .inr (1, [.ref wd, .ref ma1, .ref ma2, .ref ma3, .ref ma4, .ref ma5, .ref ma6, .ref ma7, .int 0, .int 0])), (cs, .inr (0, [.ref ca1, .ref ca2, .ref ca3, .ref ca4, .int 0])), (wd, .inr (7, [.ref tl, .ref wa1, .ref wa2, .ref wa3, .ref wa4, .int 0, .int 0])), (rd, .inr (4, [.ref mn, .ref pn, .ref cs, .ref nm, .ref ra1, .ref ra2, .ref ra3])), (pn, .inr (3, [.ref pna, .int 0]))]) (w1 := [(td, .inr (6, [.ref lt, .ref ta1, .ref ta2, .ref ta3, .int 0]))]) hP hD [6] [0, 1, 2, 3, 4, 5] rfl rfl (by decide) (by decide) hk1 hFc hP1 hD1
      have hP : va_P D vwCl [(h0, .inr (8, [.ref tp, .ref wd, .ref td, .ref pn, .ref mn, .ref cs, .ref nm, .ref rd])), (mn, .inr (1, [.ref wd, .ref ma1, .ref ma2, .ref ma3, .ref ma4, .ref ma5, .ref ma6, .ref ma7, .int 0, .int 0])), (cs, .inr (0, [.ref ca1, .ref ca2, .ref ca3, .ref ca4, .int 0])), (wd, .inr (7, [.ref tl, .ref wa1, .ref wa2, .ref wa3, .ref wa4, .int 0, .int 0])), (rd, .inr (4, [.ref mn, .ref pn, .ref cs, .ref nm, .ref ra1, .ref ra2, .ref ra3])), (pn, .inr (3, [.ref pna, .int 0])), (td, .inr (6, [.ref lt, .ref ta1, .ref ta2, .ref ta3, .int 0]))] H_25 := hP.sub [0, 1, 2, 3, 4, 5, 6] rfl
      have hD : va_D A [(h0, .inr (8, [.ref tp, .ref wd, .ref td, .ref pn, .ref mn, .ref cs, .ref nm, .ref rd])), (mn, .inr (1, [.ref wd, .ref ma1, .ref ma2, .ref ma3, .ref ma4, .ref ma5, .ref ma6, .ref ma7, .int 0, .int 0])), (cs, .inr (0, [.ref ca1, .ref ca2, .ref ca3, .ref ca4, .int 0])), (wd, .inr (7, [.ref tl, .ref wa1, .ref wa2, .ref wa3, .ref wa4, .int 0, .int 0])), (rd, .inr (4, [.ref mn, .ref pn, .ref cs, .ref nm, .ref ra1, .ref ra2, .ref ra3])), (pn, .inr (3, [.ref pna, .int 0])), (td, .inr (6, [.ref lt, .ref ta1, .ref ta2, .ref ta3, .int 0]))] := hD.sub [0, 1, 2, 3, 4, 5, 6] (by decide) rfl
      try dsimp only at hw
      subst hw
      have hP9 := hP.sub (ws' := []) [] rfl
      have hD9 := hD.sub (ws' := []) [] (by decide) rfl
      exact W.iret (v := 0) hx hb hr (fun t ht hW => ⟨⟨0, (), rfl, (if_neg (by decide)).symm, ⟨by rw [ht]; exact hP9, va_K.moved hW.alike hK, hD9⟩⟩, hS.F ht⟩) hS.2.2 dX8_look_120
set_option maxHeartbeats 4000000 in
set_option maxRecDepth 100000 in
theorem c_X8_mention_0 (l : Launch) (D : va_G) (cB cI cZ : ClassId) (sz : Nat) (h0 : Nat) (tp : Nat) (wd : Nat) (td : Nat) (pn : Nat) (mn : Nat) (cs : Nat) (nm : Nat) (rd : Nat) (ma1 : Nat) (ma2 : Nat) (ma3 : Nat) (ma4 : Nat) (ma5 : Nat) (ma6 : Nat) (ma7 : Nat) (k : Int32) (k2 : Int32) : Met l yX8_mention (.code yX8_mention cX8_mention 3 (some .int) :: wsL_law) ({ frames := 1, cells := 0, slots := 0, locals := 21 } : Room) (va_Pc [.ref h0, .int k, .int k2] (pIn D (pT cB cI cZ) sz [(h0, .inr (8, [.ref tp, .ref wd, .ref td, .ref pn, .ref mn, .ref cs, .ref nm, .ref rd])), (mn, .inr (1, [.ref wd, .ref ma1, .ref ma2, .ref ma3, .ref ma4, .ref ma5, .ref ma6, .ref ma7, .int 0, .int 0]))])) (va_Qi (fun (r : Int32) (u : Unit) => r = (-1)) (fun (u : Unit) (t : State) => pAt D (pT cB cI cZ) (va_A [(h0, .inr (8, [.ref tp, .ref wd, .ref td, .ref pn, .ref mn, .ref cs, .ref nm, .ref rd])), (mn, .inr (1, [.ref wd, .ref ma1, .ref ma2, .ref ma3, .ref ma4, .ref ma5, .ref ma6, .ref ma7, .int 0, .int 0]))] sz) [] t) (va_A [(h0, .inr (8, [.ref tp, .ref wd, .ref td, .ref pn, .ref mn, .ref cs, .ref nm, .ref rd])), (mn, .inr (1, [.ref wd, .ref ma1, .ref ma2, .ref ma3, .ref ma4, .ref ma5, .ref ma6, .ref ma7, .int 0, .int 0]))] sz)) 0 0 (va_A [(h0, .inr (8, [.ref tp, .ref wd, .ref td, .ref pn, .ref mn, .ref cs, .ref nm, .ref rd])), (mn, .inr (1, [.ref wd, .ref ma1, .ref ma2, .ref ma3, .ref ma4, .ref ma5, .ref ma6, .ref ma7, .int 0, .int 0]))] sz) := by
  refine Met.ofW (cc := cX8_mention) (maxL := 3) (ret := (some .int)) (by decide) rfl ?_
  intro p e s m args below meth c s₁ B hml hv
  obtain ⟨rfl, hsz, hP, hK, hD0⟩ := hv
  have hx := B.exec
  have hb := B.bytes
  have hr := B.returns
  have hts0 := atoms_spec (ws := .code yX8_mention cX8_mention 3 (some .int) :: wsL_law) B.pre
  have hts := fun (w : Cond) (h : w ∈ wsL_law) => hts0 w (List.mem_cons_of_mem _ h)
  have hown : s.vm.findClass RX8 = some m.cls := findClass_of_methodNamed B.named
  have hlocks := B.notSynchronized
  have hinX8 := inlX8
  subst hsz
  have hD := hD0.self (sz := s.heap.size)
  generalize hAe : va_A [(h0, .inr (8, [.ref tp, .ref wd, .ref td, .ref pn, .ref mn, .ref cs, .ref nm, .ref rd])), (mn, .inr (1, [.ref wd, .ref ma1, .ref ma2, .ref ma3, .ref ma4, .ref ma5, .ref ma6, .ref ma7, .int 0, .int 0]))] s.heap.size = A at hD ⊢
  have hA : ∀ q : Nat, s.heap.size ≤ q → A q := fun q h => by rw [← hAe]; exact Or.inr h
  have hS : va_S A s.heap s.heap [] := va_S.rf
  have hP : va_P D vwCl [(h0, .inr (8, [.ref tp, .ref wd, .ref td, .ref pn, .ref mn, .ref cs, .ref nm, .ref rd])), (mn, .inr (1, [.ref wd, .ref ma1, .ref ma2, .ref ma3, .ref ma4, .ref ma5, .ref ma6, .ref ma7, .int 0, .int 0]))] s.heap := hP
  have hl := lv_entry ([.ref h0, .int k, .int k2]) (n := 3) (Nat.le_of_ble_eq_true rfl)
  rw [lg_entry_eq]
  generalize (lg_sl ([.ref h0, .int k, .int k2]) ++ List.replicate (3 - (lg_sl ([.ref h0, .int k, .int k2])).length) Slot.unset).toArray = ls at hl ⊢
  have hl : lv_has ls 3 [(0, .ref h0), (1, .int k), (2, .int k2)] := hl
  refine lv_aload_n hx hb dX8_mention_0 rfl (lv_at hl 0 rfl) ?_
  refine va_get (D := D) (ci := 8) (v := .ref mn) (C := RX8) (T := TX8) (N := 8) hx hb hts hinX8 hown hK hP 0 rfl rfl 4 (by decide) (hts (.fieldLink RX8 44 "TaleReader" "mentions" "LTaleReader$Mentions;") (uc2 _ (List.mem_of_getElem? (i := 7) rfl))) (fun _ h9 => h9) rfl dX8_mention_1 ?_
  refine lv_iload_n hx hb dX8_mention_4 rfl (lv_at hl 1 rfl) ?_
  have hPc := hP.sub (ws' := [(mn, .inr (1, [.ref wd, .ref ma1, .ref ma2, .ref ma3, .ref ma4, .ref ma5, .ref ma6, .ref ma7, .int 0, .int 0]))]) [1] rfl
  have hDc := hD.sub (ws' := [(mn, .inr (1, [.ref wd, .ref ma1, .ref ma2, .ref ma3, .ref ma4, .ref ma5, .ref ma6, .ref ma7, .int 0, .int 0]))]) [1] (by decide) rfl
  have hFc := va_free (wc := [(mn, .inr (1, [.ref wd, .ref ma1, .ref ma2, .ref ma3, .ref ma4, .ref ma5, .ref ma6, .ref ma7, .int 0, .int 0]))]) hD hS hA [1] rfl
  refine va_calli (va_runV (As := [.int k]) (rest := []) ⟨hx, hb, hml, hown, hts⟩ (c_X1_has l D cB cI cZ s.heap.size mn wd ma1 ma2 ma3 ma4 ma5 ma6 ma7 0 0 k) (cwV 1 hts (uV (uc33 _ (List.mem_of_getElem? (i := 0) rfl)) (uc17 _ (List.mem_of_getElem? (i := 11) rfl)) (uc17 _ (List.mem_of_getElem? (i := 12) rfl)) (uc2 _ (List.mem_of_getElem? (i := 6) rfl)) (uc17 _ (List.mem_of_getElem? (i := 13) rfl))) rfl rfl rfl (by decide +kernel) ⟨Nat.le_of_ble_eq_true rfl, Nat.le_of_ble_eq_true rfl⟩) (pV hK hPc hDc 0 rfl rfl) rfl rfl hl.1 rfl (lv_room (Nat.le_of_ble_eq_true rfl)) dX8_mention_5 ⟨Nat.le_of_ble_eq_true rfl, Nat.le_of_ble_eq_true rfl⟩) hS (fun q _ h => hFc q h) hFc (fun r_1 u t H_2 L_3 ht hvm hw hB hz1 hk1 hS => ?_)
  obtain ⟨hP1, -, hD1⟩ := hB
  rw [ht] at hP1
  obtain ⟨hP, hD⟩ := va_join (wr := [(h0, .inr (8, [.ref tp, .ref wd, .ref td, .ref pn, .ref mn, .ref cs, .ref nm, .ref rd]))]) (w1 := [(mn, .inr (1, [.ref wd, .ref ma1, .ref ma2, .ref ma3, .ref ma4, .ref ma5, .ref ma6, .ref ma7, .int 0, .int 0]))]) hP hD [1] [0] rfl rfl (by decide) (by decide) hk1 hFc hP1 hD1
  have hP : va_P D vwCl [(h0, .inr (8, [.ref tp, .ref wd, .ref td, .ref pn, .ref mn, .ref cs, .ref nm, .ref rd])), (mn, .inr (1, [.ref wd, .ref ma1, .ref ma2, .ref ma3, .ref ma4, .ref ma5, .ref ma6, .ref ma7, .int 0, .int 0]))] H_2 := hP.sub [0, 1] rfl
  have hD : va_D A [(h0, .inr (8, [.ref tp, .ref wd, .ref td, .ref pn, .ref mn, .ref cs, .ref nm, .ref rd])), (mn, .inr (1, [.ref wd, .ref ma1, .ref ma2, .ref ma3, .ref ma4, .ref ma5, .ref ma6, .ref ma7, .int 0, .int 0]))] := hD.sub [0, 1] (by decide) rfl
  try dsimp only at hw
  rcases hw with ⟨rfl, h_4⟩ | ⟨rfl, h_5, h_6⟩
  · refine lv_if_ne (tgt := 13) hx hb dX8_mention_8 (by decide) (fun c_7 => ?_) (fun c_7 => ?_)
    · exact False.elim (by revert c_7; decide)
    · refine lv_iconst (v := (-1)) hx hb dX8_mention_11 (by decide) ?_
      have hP9 := hP.sub (ws' := []) [] rfl
      have hD9 := hD.sub (ws' := []) [] (by decide) rfl
      exact W.iret (v := (-1)) hx hb hr (fun t ht hW => ⟨⟨(-1), (), rfl, rfl, ⟨by rw [ht]; exact hP9, va_K.moved hW.alike hK, hD9⟩⟩, hS.F ht⟩) hS.2.2 dX8_mention_12
  · exact False.elim (by exact pE1 h_5 h_6)
set_option maxHeartbeats 4000000 in
set_option maxRecDepth 100000 in
theorem c_X8_person_0 (l : Launch) (D : va_G) (cB cI cZ : ClassId) (sz : Nat) (h0 : Nat) (tp : Nat) (wd : Nat) (td : Nat) (pn : Nat) (mn : Nat) (cs : Nat) (nm : Nat) (rd : Nat) (ca1 : Nat) (ca2 : Nat) (ca3 : Nat) (ca4 : Nat) (k : Int32) (k2 : Int32) : Met l yX8_person (.code yX8_person cX8_person 4 (some .int) :: wsL_law) ({ frames := 2, cells := 0, slots := 0, locals := 44 } : Room) (va_Pc [.ref h0, .int k, .int k2] (pIn D (pT cB cI cZ) sz [(h0, .inr (8, [.ref tp, .ref wd, .ref td, .ref pn, .ref mn, .ref cs, .ref nm, .ref rd])), (cs, .inr (0, [.ref ca1, .ref ca2, .ref ca3, .ref ca4, .int 0]))])) (va_Qi (fun (r : Int32) (u : Unit) => r = (-1)) (fun (u : Unit) (t : State) => pAt D (pT cB cI cZ) (va_A [(h0, .inr (8, [.ref tp, .ref wd, .ref td, .ref pn, .ref mn, .ref cs, .ref nm, .ref rd])), (cs, .inr (0, [.ref ca1, .ref ca2, .ref ca3, .ref ca4, .int 0]))] sz) [] t) (va_A [(h0, .inr (8, [.ref tp, .ref wd, .ref td, .ref pn, .ref mn, .ref cs, .ref nm, .ref rd])), (cs, .inr (0, [.ref ca1, .ref ca2, .ref ca3, .ref ca4, .int 0]))] sz)) 0 0 (va_A [(h0, .inr (8, [.ref tp, .ref wd, .ref td, .ref pn, .ref mn, .ref cs, .ref nm, .ref rd])), (cs, .inr (0, [.ref ca1, .ref ca2, .ref ca3, .ref ca4, .int 0]))] sz) := by
  refine Met.ofW (cc := cX8_person) (maxL := 4) (ret := (some .int)) (by decide) rfl ?_
  intro p e s m args below meth c s₁ B hml hv
  obtain ⟨rfl, hsz, hP, hK, hD0⟩ := hv
  have hx := B.exec
  have hb := B.bytes
  have hr := B.returns
  have hts0 := atoms_spec (ws := .code yX8_person cX8_person 4 (some .int) :: wsL_law) B.pre
  have hts := fun (w : Cond) (h : w ∈ wsL_law) => hts0 w (List.mem_cons_of_mem _ h)
  have hown : s.vm.findClass RX8 = some m.cls := findClass_of_methodNamed B.named
  have hlocks := B.notSynchronized
  have hinX8 := inlX8
  subst hsz
  have hD := hD0.self (sz := s.heap.size)
  generalize hAe : va_A [(h0, .inr (8, [.ref tp, .ref wd, .ref td, .ref pn, .ref mn, .ref cs, .ref nm, .ref rd])), (cs, .inr (0, [.ref ca1, .ref ca2, .ref ca3, .ref ca4, .int 0]))] s.heap.size = A at hD ⊢
  have hA : ∀ q : Nat, s.heap.size ≤ q → A q := fun q h => by rw [← hAe]; exact Or.inr h
  have hS : va_S A s.heap s.heap [] := va_S.rf
  have hP : va_P D vwCl [(h0, .inr (8, [.ref tp, .ref wd, .ref td, .ref pn, .ref mn, .ref cs, .ref nm, .ref rd])), (cs, .inr (0, [.ref ca1, .ref ca2, .ref ca3, .ref ca4, .int 0]))] s.heap := hP
  have hl := lv_entry ([.ref h0, .int k, .int k2]) (n := 4) (Nat.le_of_ble_eq_true rfl)
  rw [lg_entry_eq]
  generalize (lg_sl ([.ref h0, .int k, .int k2]) ++ List.replicate (4 - (lg_sl ([.ref h0, .int k, .int k2])).length) Slot.unset).toArray = ls at hl ⊢
  have hl : lv_has ls 4 [(0, .ref h0), (1, .int k), (2, .int k2)] := hl
  refine lv_aload_n hx hb dX8_person_0 rfl (lv_at hl 0 rfl) ?_
  refine va_get (D := D) (ci := 8) (v := .ref cs) (C := RX8) (T := TX8) (N := 8) hx hb hts hinX8 hown hK hP 0 rfl rfl 5 (by decide) (hts (.fieldLink RX8 51 "TaleReader" "cast" "LTaleReader$Cast;") (uc2 _ (List.mem_of_getElem? (i := 11) rfl))) (fun _ h9 => h9) rfl dX8_person_1 ?_
  refine lv_iload_n hx hb dX8_person_4 rfl (lv_at hl 1 rfl) ?_
  have hPc := hP.sub (ws' := [(cs, .inr (0, [.ref ca1, .ref ca2, .ref ca3, .ref ca4, .int 0]))]) [1] rfl
  have hDc := hD.sub (ws' := [(cs, .inr (0, [.ref ca1, .ref ca2, .ref ca3, .ref ca4, .int 0]))]) [1] (by decide) rfl
  have hFc := va_free (wc := [(cs, .inr (0, [.ref ca1, .ref ca2, .ref ca3, .ref ca4, .int 0]))]) hD hS hA [1] rfl
  refine va_calli (va_runV (As := [.int k]) (rest := []) ⟨hx, hb, hml, hown, hts⟩ (c_X0_nowOf_0 l D cB cI cZ s.heap.size cs ca1 ca2 ca3 ca4 k) (cwV 1 hts (uV (uc36 _ (List.mem_of_getElem? (i := 18) rfl)) (uc18 _ (List.mem_of_getElem? (i := 20) rfl)) (uc18 _ (List.mem_of_getElem? (i := 21) rfl)) (uc2 _ (List.mem_of_getElem? (i := 10) rfl)) (uc18 _ (List.mem_of_getElem? (i := 22) rfl))) rfl rfl rfl (by decide +kernel) ⟨Nat.le_of_ble_eq_true rfl, Nat.le_of_ble_eq_true rfl⟩) (pV hK hPc hDc 0 rfl rfl) rfl rfl hl.1 rfl (lv_room (Nat.le_of_ble_eq_true rfl)) dX8_person_5 ⟨Nat.le_of_ble_eq_true rfl, Nat.le_of_ble_eq_true rfl⟩) hS (fun q _ h => hFc q h) hFc (fun r_1 u t H_2 L_3 ht hvm hw hB hz1 hk1 hS => ?_)
  obtain ⟨hP1, -, hD1⟩ := hB
  rw [ht] at hP1
  obtain ⟨hP, hD⟩ := va_join (wr := [(h0, .inr (8, [.ref tp, .ref wd, .ref td, .ref pn, .ref mn, .ref cs, .ref nm, .ref rd]))]) (w1 := [(cs, .inr (0, [.ref ca1, .ref ca2, .ref ca3, .ref ca4, .int 0]))]) hP hD [1] [0] rfl rfl (by decide) (by decide) hk1 hFc hP1 hD1
  have hP : va_P D vwCl [(h0, .inr (8, [.ref tp, .ref wd, .ref td, .ref pn, .ref mn, .ref cs, .ref nm, .ref rd])), (cs, .inr (0, [.ref ca1, .ref ca2, .ref ca3, .ref ca4, .int 0]))] H_2 := hP.sub [0, 1] rfl
  have hD : va_D A [(h0, .inr (8, [.ref tp, .ref wd, .ref td, .ref pn, .ref mn, .ref cs, .ref nm, .ref rd])), (cs, .inr (0, [.ref ca1, .ref ca2, .ref ca3, .ref ca4, .int 0]))] := hD.sub [0, 1] (by decide) rfl
  try dsimp only at hw
  subst hw
  refine lv_istore_n (lv' := [(3, .int (-1)), (0, .ref h0), (1, .int k), (2, .int k2)]) hx hb dX8_person_8 rfl hl (by decide) rfl (fun ls hl => ?_)
  refine lv_iload_n hx hb dX8_person_9 rfl (lv_at hl 0 rfl) ?_
  refine lv_iconst (v := (-1)) hx hb dX8_person_10 (by decide) ?_
  refine lv_icmp_ne (tgt := 16) hx hb dX8_person_11 (by decide) (fun c_4 => ?_) (fun c_4 => ?_)
  · exact False.elim (by revert c_4; decide)
  · refine lv_iconst (v := (-1)) hx hb dX8_person_14 (by decide) ?_
    have hP9 := hP.sub (ws' := []) [] rfl
    have hD9 := hD.sub (ws' := []) [] (by decide) rfl
    exact W.iret (v := (-1)) hx hb hr (fun t ht hW => ⟨⟨(-1), (), rfl, rfl, ⟨by rw [ht]; exact hP9, va_K.moved hW.alike hK, hD9⟩⟩, hS.F ht⟩) hS.2.2 dX8_person_15
set_option maxHeartbeats 4000000 in
set_option maxRecDepth 100000 in
theorem c_X8_chain_0 (l : Launch) (D : va_G) (cB cI cZ : ClassId) (sz : Nat) (h0 : Nat) (tp : Nat) (wd : Nat) (td : Nat) (pn : Nat) (mn : Nat) (cs : Nat) (nm : Nat) (rd : Nat) (ca1 : Nat) (ca2 : Nat) (ca3 : Nat) (ca4 : Nat) (k : Int32) (k2 : Int32) : Met l yX8_chain (.code yX8_chain cX8_chain 4 (some .int) :: wsL_law) ({ frames := 2, cells := 0, slots := 0, locals := 44 } : Room) (va_Pc [.ref h0, .int k, .int k2] (pIn D (pT cB cI cZ) sz [(h0, .inr (8, [.ref tp, .ref wd, .ref td, .ref pn, .ref mn, .ref cs, .ref nm, .ref rd])), (cs, .inr (0, [.ref ca1, .ref ca2, .ref ca3, .ref ca4, .int 0]))])) (va_Qi (fun (r : Int32) (u : Unit) => r = (-1)) (fun (u : Unit) (t : State) => pAt D (pT cB cI cZ) (va_A [(h0, .inr (8, [.ref tp, .ref wd, .ref td, .ref pn, .ref mn, .ref cs, .ref nm, .ref rd])), (cs, .inr (0, [.ref ca1, .ref ca2, .ref ca3, .ref ca4, .int 0]))] sz) [] t) (va_A [(h0, .inr (8, [.ref tp, .ref wd, .ref td, .ref pn, .ref mn, .ref cs, .ref nm, .ref rd])), (cs, .inr (0, [.ref ca1, .ref ca2, .ref ca3, .ref ca4, .int 0]))] sz)) 0 0 (va_A [(h0, .inr (8, [.ref tp, .ref wd, .ref td, .ref pn, .ref mn, .ref cs, .ref nm, .ref rd])), (cs, .inr (0, [.ref ca1, .ref ca2, .ref ca3, .ref ca4, .int 0]))] sz) := by
  refine Met.ofW (cc := cX8_chain) (maxL := 4) (ret := (some .int)) (by decide) rfl ?_
  intro p e s m args below meth c s₁ B hml hv
  obtain ⟨rfl, hsz, hP, hK, hD0⟩ := hv
  have hx := B.exec
  have hb := B.bytes
  have hr := B.returns
  have hts0 := atoms_spec (ws := .code yX8_chain cX8_chain 4 (some .int) :: wsL_law) B.pre
  have hts := fun (w : Cond) (h : w ∈ wsL_law) => hts0 w (List.mem_cons_of_mem _ h)
  have hown : s.vm.findClass RX8 = some m.cls := findClass_of_methodNamed B.named
  have hlocks := B.notSynchronized
  have hinX8 := inlX8
  subst hsz
  have hD := hD0.self (sz := s.heap.size)
  generalize hAe : va_A [(h0, .inr (8, [.ref tp, .ref wd, .ref td, .ref pn, .ref mn, .ref cs, .ref nm, .ref rd])), (cs, .inr (0, [.ref ca1, .ref ca2, .ref ca3, .ref ca4, .int 0]))] s.heap.size = A at hD ⊢
  have hA : ∀ q : Nat, s.heap.size ≤ q → A q := fun q h => by rw [← hAe]; exact Or.inr h
  have hS : va_S A s.heap s.heap [] := va_S.rf
  have hP : va_P D vwCl [(h0, .inr (8, [.ref tp, .ref wd, .ref td, .ref pn, .ref mn, .ref cs, .ref nm, .ref rd])), (cs, .inr (0, [.ref ca1, .ref ca2, .ref ca3, .ref ca4, .int 0]))] s.heap := hP
  have hl := lv_entry ([.ref h0, .int k, .int k2]) (n := 4) (Nat.le_of_ble_eq_true rfl)
  rw [lg_entry_eq]
  generalize (lg_sl ([.ref h0, .int k, .int k2]) ++ List.replicate (4 - (lg_sl ([.ref h0, .int k, .int k2])).length) Slot.unset).toArray = ls at hl ⊢
  have hl : lv_has ls 4 [(0, .ref h0), (1, .int k), (2, .int k2)] := hl
  refine lv_aload_n hx hb dX8_chain_0 rfl (lv_at hl 0 rfl) ?_
  refine va_get (D := D) (ci := 8) (v := .ref cs) (C := RX8) (T := TX8) (N := 8) hx hb hts hinX8 hown hK hP 0 rfl rfl 5 (by decide) (hts (.fieldLink RX8 51 "TaleReader" "cast" "LTaleReader$Cast;") (uc2 _ (List.mem_of_getElem? (i := 11) rfl))) (fun _ h9 => h9) rfl dX8_chain_1 ?_
  refine lv_iload_n hx hb dX8_chain_4 rfl (lv_at hl 1 rfl) ?_
  have hPc := hP.sub (ws' := [(cs, .inr (0, [.ref ca1, .ref ca2, .ref ca3, .ref ca4, .int 0]))]) [1] rfl
  have hDc := hD.sub (ws' := [(cs, .inr (0, [.ref ca1, .ref ca2, .ref ca3, .ref ca4, .int 0]))]) [1] (by decide) rfl
  have hFc := va_free (wc := [(cs, .inr (0, [.ref ca1, .ref ca2, .ref ca3, .ref ca4, .int 0]))]) hD hS hA [1] rfl
  refine va_calli (va_runV (As := [.int k]) (rest := []) ⟨hx, hb, hml, hown, hts⟩ (c_X0_nowOf_0 l D cB cI cZ s.heap.size cs ca1 ca2 ca3 ca4 k) (cwV 1 hts (uV (uc36 _ (List.mem_of_getElem? (i := 18) rfl)) (uc18 _ (List.mem_of_getElem? (i := 20) rfl)) (uc18 _ (List.mem_of_getElem? (i := 21) rfl)) (uc2 _ (List.mem_of_getElem? (i := 10) rfl)) (uc18 _ (List.mem_of_getElem? (i := 22) rfl))) rfl rfl rfl (by decide +kernel) ⟨Nat.le_of_ble_eq_true rfl, Nat.le_of_ble_eq_true rfl⟩) (pV hK hPc hDc 0 rfl rfl) rfl rfl hl.1 rfl (lv_room (Nat.le_of_ble_eq_true rfl)) dX8_chain_5 ⟨Nat.le_of_ble_eq_true rfl, Nat.le_of_ble_eq_true rfl⟩) hS (fun q _ h => hFc q h) hFc (fun r_1 u t H_2 L_3 ht hvm hw hB hz1 hk1 hS => ?_)
  obtain ⟨hP1, -, hD1⟩ := hB
  rw [ht] at hP1
  obtain ⟨hP, hD⟩ := va_join (wr := [(h0, .inr (8, [.ref tp, .ref wd, .ref td, .ref pn, .ref mn, .ref cs, .ref nm, .ref rd]))]) (w1 := [(cs, .inr (0, [.ref ca1, .ref ca2, .ref ca3, .ref ca4, .int 0]))]) hP hD [1] [0] rfl rfl (by decide) (by decide) hk1 hFc hP1 hD1
  have hP : va_P D vwCl [(h0, .inr (8, [.ref tp, .ref wd, .ref td, .ref pn, .ref mn, .ref cs, .ref nm, .ref rd])), (cs, .inr (0, [.ref ca1, .ref ca2, .ref ca3, .ref ca4, .int 0]))] H_2 := hP.sub [0, 1] rfl
  have hD : va_D A [(h0, .inr (8, [.ref tp, .ref wd, .ref td, .ref pn, .ref mn, .ref cs, .ref nm, .ref rd])), (cs, .inr (0, [.ref ca1, .ref ca2, .ref ca3, .ref ca4, .int 0]))] := hD.sub [0, 1] (by decide) rfl
  try dsimp only at hw
  subst hw
  refine lv_istore_n (lv' := [(3, .int (-1)), (0, .ref h0), (1, .int k), (2, .int k2)]) hx hb dX8_chain_8 rfl hl (by decide) rfl (fun ls hl => ?_)
  refine lv_iload_n hx hb dX8_chain_9 rfl (lv_at hl 0 rfl) ?_
  refine lv_iconst (v := (-1)) hx hb dX8_chain_10 (by decide) ?_
  refine lv_icmp_ne (tgt := 18) hx hb dX8_chain_11 (by decide) (fun c_4 => ?_) (fun c_4 => ?_)
  · exact False.elim (by revert c_4; decide)
  · refine lv_iconst (v := (-1)) hx hb dX8_chain_14 (by decide) ?_
    refine lv_goto (tgt := 27) hx hb dX8_chain_15 (by decide) ?_
    have hP9 := hP.sub (ws' := []) [] rfl
    have hD9 := hD.sub (ws' := []) [] (by decide) rfl
    exact W.iret (v := (-1)) hx hb hr (fun t ht hW => ⟨⟨(-1), (), rfl, rfl, ⟨by rw [ht]; exact hP9, va_K.moved hW.alike hK, hD9⟩⟩, hS.F ht⟩) hS.2.2 dX8_chain_27
set_option maxHeartbeats 4000000 in
set_option maxRecDepth 100000 in
theorem c_X8_name_0 (l : Launch) (D : va_G) (cB cI cZ : ClassId) (sz : Nat) (h0 : Nat) (tp : Nat) (wd : Nat) (td : Nat) (pn : Nat) (mn : Nat) (cs : Nat) (nm : Nat) (rd : Nat) (ca1 : Nat) (ca2 : Nat) (ca3 : Nat) (ca4 : Nat) (k : Int32) (k2 : Int32) : Met l yX8_name (.code yX8_name cX8_name 4 (some .int) :: wsL_law) ({ frames := 2, cells := 0, slots := 0, locals := 44 } : Room) (va_Pc [.ref h0, .int k, .int k2] (pIn D (pT cB cI cZ) sz [(h0, .inr (8, [.ref tp, .ref wd, .ref td, .ref pn, .ref mn, .ref cs, .ref nm, .ref rd])), (cs, .inr (0, [.ref ca1, .ref ca2, .ref ca3, .ref ca4, .int 0]))])) (va_Qi (fun (r : Int32) (u : Unit) => r = (-1)) (fun (u : Unit) (t : State) => pAt D (pT cB cI cZ) (va_A [(h0, .inr (8, [.ref tp, .ref wd, .ref td, .ref pn, .ref mn, .ref cs, .ref nm, .ref rd])), (cs, .inr (0, [.ref ca1, .ref ca2, .ref ca3, .ref ca4, .int 0]))] sz) [] t) (va_A [(h0, .inr (8, [.ref tp, .ref wd, .ref td, .ref pn, .ref mn, .ref cs, .ref nm, .ref rd])), (cs, .inr (0, [.ref ca1, .ref ca2, .ref ca3, .ref ca4, .int 0]))] sz)) 0 0 (va_A [(h0, .inr (8, [.ref tp, .ref wd, .ref td, .ref pn, .ref mn, .ref cs, .ref nm, .ref rd])), (cs, .inr (0, [.ref ca1, .ref ca2, .ref ca3, .ref ca4, .int 0]))] sz) := by
  refine Met.ofW (cc := cX8_name) (maxL := 4) (ret := (some .int)) (by decide) rfl ?_
  intro p e s m args below meth c s₁ B hml hv
  obtain ⟨rfl, hsz, hP, hK, hD0⟩ := hv
  have hx := B.exec
  have hb := B.bytes
  have hr := B.returns
  have hts0 := atoms_spec (ws := .code yX8_name cX8_name 4 (some .int) :: wsL_law) B.pre
  have hts := fun (w : Cond) (h : w ∈ wsL_law) => hts0 w (List.mem_cons_of_mem _ h)
  have hown : s.vm.findClass RX8 = some m.cls := findClass_of_methodNamed B.named
  have hlocks := B.notSynchronized
  have hinX8 := inlX8
  subst hsz
  have hD := hD0.self (sz := s.heap.size)
  generalize hAe : va_A [(h0, .inr (8, [.ref tp, .ref wd, .ref td, .ref pn, .ref mn, .ref cs, .ref nm, .ref rd])), (cs, .inr (0, [.ref ca1, .ref ca2, .ref ca3, .ref ca4, .int 0]))] s.heap.size = A at hD ⊢
  have hA : ∀ q : Nat, s.heap.size ≤ q → A q := fun q h => by rw [← hAe]; exact Or.inr h
  have hS : va_S A s.heap s.heap [] := va_S.rf
  have hP : va_P D vwCl [(h0, .inr (8, [.ref tp, .ref wd, .ref td, .ref pn, .ref mn, .ref cs, .ref nm, .ref rd])), (cs, .inr (0, [.ref ca1, .ref ca2, .ref ca3, .ref ca4, .int 0]))] s.heap := hP
  have hl := lv_entry ([.ref h0, .int k, .int k2]) (n := 4) (Nat.le_of_ble_eq_true rfl)
  rw [lg_entry_eq]
  generalize (lg_sl ([.ref h0, .int k, .int k2]) ++ List.replicate (4 - (lg_sl ([.ref h0, .int k, .int k2])).length) Slot.unset).toArray = ls at hl ⊢
  have hl : lv_has ls 4 [(0, .ref h0), (1, .int k), (2, .int k2)] := hl
  refine lv_aload_n hx hb dX8_name_0 rfl (lv_at hl 0 rfl) ?_
  refine va_get (D := D) (ci := 8) (v := .ref cs) (C := RX8) (T := TX8) (N := 8) hx hb hts hinX8 hown hK hP 0 rfl rfl 5 (by decide) (hts (.fieldLink RX8 51 "TaleReader" "cast" "LTaleReader$Cast;") (uc2 _ (List.mem_of_getElem? (i := 11) rfl))) (fun _ h9 => h9) rfl dX8_name_1 ?_
  refine lv_iload_n hx hb dX8_name_4 rfl (lv_at hl 1 rfl) ?_
  have hPc := hP.sub (ws' := [(cs, .inr (0, [.ref ca1, .ref ca2, .ref ca3, .ref ca4, .int 0]))]) [1] rfl
  have hDc := hD.sub (ws' := [(cs, .inr (0, [.ref ca1, .ref ca2, .ref ca3, .ref ca4, .int 0]))]) [1] (by decide) rfl
  have hFc := va_free (wc := [(cs, .inr (0, [.ref ca1, .ref ca2, .ref ca3, .ref ca4, .int 0]))]) hD hS hA [1] rfl
  refine va_calli (va_runV (As := [.int k]) (rest := []) ⟨hx, hb, hml, hown, hts⟩ (c_X0_nowOf_0 l D cB cI cZ s.heap.size cs ca1 ca2 ca3 ca4 k) (cwV 1 hts (uV (uc36 _ (List.mem_of_getElem? (i := 18) rfl)) (uc18 _ (List.mem_of_getElem? (i := 20) rfl)) (uc18 _ (List.mem_of_getElem? (i := 21) rfl)) (uc2 _ (List.mem_of_getElem? (i := 10) rfl)) (uc18 _ (List.mem_of_getElem? (i := 22) rfl))) rfl rfl rfl (by decide +kernel) ⟨Nat.le_of_ble_eq_true rfl, Nat.le_of_ble_eq_true rfl⟩) (pV hK hPc hDc 0 rfl rfl) rfl rfl hl.1 rfl (lv_room (Nat.le_of_ble_eq_true rfl)) dX8_name_5 ⟨Nat.le_of_ble_eq_true rfl, Nat.le_of_ble_eq_true rfl⟩) hS (fun q _ h => hFc q h) hFc (fun r_1 u t H_2 L_3 ht hvm hw hB hz1 hk1 hS => ?_)
  obtain ⟨hP1, -, hD1⟩ := hB
  rw [ht] at hP1
  obtain ⟨hP, hD⟩ := va_join (wr := [(h0, .inr (8, [.ref tp, .ref wd, .ref td, .ref pn, .ref mn, .ref cs, .ref nm, .ref rd]))]) (w1 := [(cs, .inr (0, [.ref ca1, .ref ca2, .ref ca3, .ref ca4, .int 0]))]) hP hD [1] [0] rfl rfl (by decide) (by decide) hk1 hFc hP1 hD1
  have hP : va_P D vwCl [(h0, .inr (8, [.ref tp, .ref wd, .ref td, .ref pn, .ref mn, .ref cs, .ref nm, .ref rd])), (cs, .inr (0, [.ref ca1, .ref ca2, .ref ca3, .ref ca4, .int 0]))] H_2 := hP.sub [0, 1] rfl
  have hD : va_D A [(h0, .inr (8, [.ref tp, .ref wd, .ref td, .ref pn, .ref mn, .ref cs, .ref nm, .ref rd])), (cs, .inr (0, [.ref ca1, .ref ca2, .ref ca3, .ref ca4, .int 0]))] := hD.sub [0, 1] (by decide) rfl
  try dsimp only at hw
  subst hw
  refine lv_istore_n (lv' := [(3, .int (-1)), (0, .ref h0), (1, .int k), (2, .int k2)]) hx hb dX8_name_8 rfl hl (by decide) rfl (fun ls hl => ?_)
  refine lv_iload_n hx hb dX8_name_9 rfl (lv_at hl 0 rfl) ?_
  refine lv_iconst (v := (-1)) hx hb dX8_name_10 (by decide) ?_
  refine lv_icmp_ne (tgt := 18) hx hb dX8_name_11 (by decide) (fun c_4 => ?_) (fun c_4 => ?_)
  · exact False.elim (by revert c_4; decide)
  · refine lv_iconst (v := (-1)) hx hb dX8_name_14 (by decide) ?_
    refine lv_goto (tgt := 27) hx hb dX8_name_15 (by decide) ?_
    have hP9 := hP.sub (ws' := []) [] rfl
    have hD9 := hD.sub (ws' := []) [] (by decide) rfl
    exact W.iret (v := (-1)) hx hb hr (fun t ht hW => ⟨⟨(-1), (), rfl, rfl, ⟨by rw [ht]; exact hP9, va_K.moved hW.alike hK, hD9⟩⟩, hS.F ht⟩) hS.2.2 dX8_name_27
set_option maxHeartbeats 4000000 in
set_option maxRecDepth 100000 in
theorem c_X8_who_0 (l : Launch) (D : va_G) (cB cI cZ : ClassId) (sz : Nat) (h0 : Nat) (tp : Nat) (wd : Nat) (td : Nat) (pn : Nat) (mn : Nat) (cs : Nat) (nm : Nat) (rd : Nat) (ma1 : Nat) (ma2 : Nat) (ma3 : Nat) (ma4 : Nat) (ma5 : Nat) (ma6 : Nat) (ma7 : Nat) (k : Int32) : Met l yX8_who (.code yX8_who cX8_who 2 (some .int) :: wsL_law) ({ frames := 2, cells := 0, slots := 0, locals := 42 } : Room) (va_Pc [.ref h0, .int k] (pIn D (pT cB cI cZ) sz [(h0, .inr (8, [.ref tp, .ref wd, .ref td, .ref pn, .ref mn, .ref cs, .ref nm, .ref rd])), (mn, .inr (1, [.ref wd, .ref ma1, .ref ma2, .ref ma3, .ref ma4, .ref ma5, .ref ma6, .ref ma7, .int 0, .int 0]))])) (va_Qi (fun (r : Int32) (u : Unit) => r = (-1)) (fun (u : Unit) (t : State) => pAt D (pT cB cI cZ) (va_A [(h0, .inr (8, [.ref tp, .ref wd, .ref td, .ref pn, .ref mn, .ref cs, .ref nm, .ref rd])), (mn, .inr (1, [.ref wd, .ref ma1, .ref ma2, .ref ma3, .ref ma4, .ref ma5, .ref ma6, .ref ma7, .int 0, .int 0]))] sz) [] t) (va_A [(h0, .inr (8, [.ref tp, .ref wd, .ref td, .ref pn, .ref mn, .ref cs, .ref nm, .ref rd])), (mn, .inr (1, [.ref wd, .ref ma1, .ref ma2, .ref ma3, .ref ma4, .ref ma5, .ref ma6, .ref ma7, .int 0, .int 0]))] sz)) 0 0 (va_A [(h0, .inr (8, [.ref tp, .ref wd, .ref td, .ref pn, .ref mn, .ref cs, .ref nm, .ref rd])), (mn, .inr (1, [.ref wd, .ref ma1, .ref ma2, .ref ma3, .ref ma4, .ref ma5, .ref ma6, .ref ma7, .int 0, .int 0]))] sz) := by
  refine Met.ofW (cc := cX8_who) (maxL := 2) (ret := (some .int)) (by decide) rfl ?_
  intro p e s m args below meth c s₁ B hml hv
  obtain ⟨rfl, hsz, hP, hK, hD0⟩ := hv
  have hx := B.exec
  have hb := B.bytes
  have hr := B.returns
  have hts0 := atoms_spec (ws := .code yX8_who cX8_who 2 (some .int) :: wsL_law) B.pre
  have hts := fun (w : Cond) (h : w ∈ wsL_law) => hts0 w (List.mem_cons_of_mem _ h)
  have hown : s.vm.findClass RX8 = some m.cls := findClass_of_methodNamed B.named
  have hlocks := B.notSynchronized
  have hinX8 := inlX8
  subst hsz
  have hD := hD0.self (sz := s.heap.size)
  generalize hAe : va_A [(h0, .inr (8, [.ref tp, .ref wd, .ref td, .ref pn, .ref mn, .ref cs, .ref nm, .ref rd])), (mn, .inr (1, [.ref wd, .ref ma1, .ref ma2, .ref ma3, .ref ma4, .ref ma5, .ref ma6, .ref ma7, .int 0, .int 0]))] s.heap.size = A at hD ⊢
  have hA : ∀ q : Nat, s.heap.size ≤ q → A q := fun q h => by rw [← hAe]; exact Or.inr h
  have hS : va_S A s.heap s.heap [] := va_S.rf
  have hP : va_P D vwCl [(h0, .inr (8, [.ref tp, .ref wd, .ref td, .ref pn, .ref mn, .ref cs, .ref nm, .ref rd])), (mn, .inr (1, [.ref wd, .ref ma1, .ref ma2, .ref ma3, .ref ma4, .ref ma5, .ref ma6, .ref ma7, .int 0, .int 0]))] s.heap := hP
  have hl := lv_entry ([.ref h0, .int k]) (n := 2) (Nat.le_of_ble_eq_true rfl)
  rw [lg_entry_eq]
  generalize (lg_sl ([.ref h0, .int k]) ++ List.replicate (2 - (lg_sl ([.ref h0, .int k])).length) Slot.unset).toArray = ls at hl ⊢
  have hl : lv_has ls 2 [(0, .ref h0), (1, .int k)] := hl
  refine lv_aload_n hx hb dX8_who_0 rfl (lv_at hl 0 rfl) ?_
  refine va_get (D := D) (ci := 8) (v := .ref mn) (C := RX8) (T := TX8) (N := 8) hx hb hts hinX8 hown hK hP 0 rfl rfl 4 (by decide) (hts (.fieldLink RX8 44 "TaleReader" "mentions" "LTaleReader$Mentions;") (uc2 _ (List.mem_of_getElem? (i := 7) rfl))) (fun _ h9 => h9) rfl dX8_who_1 ?_
  refine lv_iload_n hx hb dX8_who_4 rfl (lv_at hl 1 rfl) ?_
  have hPc := hP.sub (ws' := [(mn, .inr (1, [.ref wd, .ref ma1, .ref ma2, .ref ma3, .ref ma4, .ref ma5, .ref ma6, .ref ma7, .int 0, .int 0]))]) [1] rfl
  have hDc := hD.sub (ws' := [(mn, .inr (1, [.ref wd, .ref ma1, .ref ma2, .ref ma3, .ref ma4, .ref ma5, .ref ma6, .ref ma7, .int 0, .int 0]))]) [1] (by decide) rfl
  have hFc := va_free (wc := [(mn, .inr (1, [.ref wd, .ref ma1, .ref ma2, .ref ma3, .ref ma4, .ref ma5, .ref ma6, .ref ma7, .int 0, .int 0]))]) hD hS hA [1] rfl
  refine va_calli (va_runV (As := [.int k]) (rest := []) ⟨hx, hb, hml, hown, hts⟩ (c_X1_isName_0 l D cB cI cZ s.heap.size mn wd ma1 ma2 ma3 ma4 ma5 ma6 ma7 0 k) (cwV 1 hts (uV (uc38 _ (List.mem_of_getElem? (i := 20) rfl)) (uc19 _ (List.mem_of_getElem? (i := 4) rfl)) (uc19 _ (List.mem_of_getElem? (i := 5) rfl)) (uc2 _ (List.mem_of_getElem? (i := 6) rfl)) (uc19 _ (List.mem_of_getElem? (i := 6) rfl))) rfl rfl rfl (by decide +kernel) ⟨Nat.le_of_ble_eq_true rfl, Nat.le_of_ble_eq_true rfl⟩) (pV hK hPc hDc 0 rfl rfl) rfl rfl hl.1 rfl (lv_room (Nat.le_of_ble_eq_true rfl)) dX8_who_5 ⟨Nat.le_of_ble_eq_true rfl, Nat.le_of_ble_eq_true rfl⟩) hS (fun q _ h => hFc q h) hFc (fun r_1 u t H_2 L_3 ht hvm hw hB hz1 hk1 hS => ?_)
  obtain ⟨hP1, -, hD1⟩ := hB
  rw [ht] at hP1
  obtain ⟨hP, hD⟩ := va_join (wr := [(h0, .inr (8, [.ref tp, .ref wd, .ref td, .ref pn, .ref mn, .ref cs, .ref nm, .ref rd]))]) (w1 := [(mn, .inr (1, [.ref wd, .ref ma1, .ref ma2, .ref ma3, .ref ma4, .ref ma5, .ref ma6, .ref ma7, .int 0, .int 0]))]) hP hD [1] [0] rfl rfl (by decide) (by decide) hk1 hFc hP1 hD1
  have hP : va_P D vwCl [(h0, .inr (8, [.ref tp, .ref wd, .ref td, .ref pn, .ref mn, .ref cs, .ref nm, .ref rd])), (mn, .inr (1, [.ref wd, .ref ma1, .ref ma2, .ref ma3, .ref ma4, .ref ma5, .ref ma6, .ref ma7, .int 0, .int 0]))] H_2 := hP.sub [0, 1] rfl
  have hD : va_D A [(h0, .inr (8, [.ref tp, .ref wd, .ref td, .ref pn, .ref mn, .ref cs, .ref nm, .ref rd])), (mn, .inr (1, [.ref wd, .ref ma1, .ref ma2, .ref ma3, .ref ma4, .ref ma5, .ref ma6, .ref ma7, .int 0, .int 0]))] := hD.sub [0, 1] (by decide) rfl
  try dsimp only at hw
  subst hw
  refine lv_if_eq (tgt := 22) hx hb dX8_who_8 (by decide) (fun c_4 => ?_) (fun c_4 => ?_)
  · refine lv_iconst (v := (-1)) hx hb dX8_who_22 (by decide) ?_
    have hP9 := hP.sub (ws' := []) [] rfl
    have hD9 := hD.sub (ws' := []) [] (by decide) rfl
    exact W.iret (v := (-1)) hx hb hr (fun t ht hW => ⟨⟨(-1), (), rfl, rfl, ⟨by rw [ht]; exact hP9, va_K.moved hW.alike hK, hD9⟩⟩, hS.F ht⟩) hS.2.2 dX8_who_23
  · exact False.elim (by revert c_4; decide)
