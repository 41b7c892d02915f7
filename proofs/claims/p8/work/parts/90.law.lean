/-! THE CLAIM OUT OF ONE WALK OF THE LAW'S BODY. Your part is whole_start (and what it stands on); all else here is the same for every law, but numbers. -/
def R_law : String := "TaleReaderLaw"
def lw_P (b : Addr) (xs : List Int32) (args : Array Value) (s : State) : Prop := args = #[.ref b] ∧ s.IntsAt b xs ∧ xs.length ≤ 3072 ∧ (Jvm.Cond.and given_1 narrow_1).before args s = true
def lw_Q (_ : Array Value) (s : State) (o : Outcome) (t : State) : Prop := o = .returned (some (.int 1)) ∧ Framed s o t [] 600000 7302249
def lw_Z (below : List Frame) (a : Array Value) (s : State) : State → Prop := fun t => ∃ o, t.status = .running ∧ Ended t below o ∧ lw_Q a s o t
/-- the law's own end, with 1 on the stack, nothing written that was there before, its room as the claim has it -/
theorem lw_ret {p : Program} {l : Launch} {e : Env} {s : State} {m : MethodId} {below : List Frame} {meth : Method} {c : Code} {b : Nat} (hx : p.tables.exec = Jvm.exec) (hb : c.code = code) (hr : meth.sig.returnType = ret) (hlocks : meth.locks = false) {pc : Nat} {H : Heap} {ls : Array Slot} (hdg : decode code pc = .ok (.ireturn, 1)) : W p l e room_1 s m #[Value.ref b] below meth c H [] 600000 7302249 (lw_Z below #[Value.ref b] s) (F0 m pc ls [.int 1]) := by
  intro T hT X
  obtain ⟨fs, hret, hrun, hended, hW, hframe⟩ := X.leave (v := some (.int 1)) (hlocks := hlocks) (fun h => by rw [hr] at h; cases h)
  have hmeth' : T.vm.method? m = some meth := X.method'
  refine ⟨T.setFrames fs, ?_, .returned (some (.int 1)), hrun, hended, rfl, ⟨_, rfl⟩, hW, hframe⟩
  jvm_step X.here [X.here.top, hx, hb, hdg, hmeth', hr, ret, narrow_b1]
  (try refine ⟨rfl, ?_⟩); (try refine ⟨rfl, ?_⟩)
  first | (intro acts; rw [hret _ acts rfl rfl rfl]) | rw [hret _ _ rfl rfl rfl]
  exact Steps.refl _
/-- what holds at the law's entry: the machine, the code, the tables' words (any of lw_tbl by 'hts w (by decide +kernel)'), the script of L ints xs at the cell b, what the Statement gives of the start (any of its parts by flat_of_before) -/
def lw_At (p : Program) (s : State) (m : MethodId) (meth : Method) (c : Code) (b L : Nat) (xs : Nat → Int32) : Prop :=
  p.tables.exec = Jvm.exec ∧ c.code = code ∧ meth.sig.returnType = ret ∧ c.maxLocals = 4 ∧ s.vm.findClass R_law = some m.cls ∧ (∀ w ∈ lw_tbl, w.before #[Value.ref b] s = true) ∧ va_X b L xs s s.heap ∧ b < s.heap.size ∧ meth.locks = false ∧ (Jvm.Cond.and given_1 narrow_1).before #[Value.ref b] s = true
set_option maxHeartbeats 40000000 in
set_option maxRecDepth 100000 in
theorem whole_start {p : Program} {e : Env} {s : State} {m : MethodId} {below : List Frame} {meth : Method} {cd : Code} (l : Launch) {b L : Nat} {xs : Nat → Int32} (hL : L ≤ 3072) (C0 : lw_At p s m meth cd b L xs) : W p l e room_1 s m #[Value.ref b] below meth cd s.heap [] 0 0 (lw_Z below #[Value.ref b] s) (entryFrame m ([Value.ref b] : List Value).toArray 4) := by
  obtain ⟨hx, hb, hr, hml, hown, hts0, hX, hbl, hlocks, hgv⟩ := id C0
  have hts : ∀ w ∈ wsL_law, w.before #[Value.ref b] s = true := fun w h => hts0 w (wsL_law_in w h)
  have hown : s.vm.findClass RL = some m.cls := hown
  obtain ⟨A, hAe⟩ : ∃ A : Nat → Prop, A = fun q : Nat => s.heap.size ≤ q := ⟨_, rfl⟩
  have hA : ∀ q : Nat, s.heap.size ≤ q → A q := fun q h => by rw [hAe]; exact h
  have hbA : ¬ A b := by rw [hAe]; exact Nat.not_le.mpr hbl
  obtain ⟨E, hE⟩ := pEnv_start (A := A) hts0 hgv (fun a ha => by rw [hAe]; exact Nat.not_le.mpr ha)
  obtain ⟨c0, iS0, hKn0⟩ := u_known (C := RX0) (T := TX0) (N := 5) (n := 5) hts inlX0 (hts (.instantiable RX0 5) (uc2 _ (List.mem_of_getElem? (i := 9) rfl)))
  obtain ⟨c1, iS1, hKn1⟩ := u_known (C := RX1) (T := TX1) (N := 10) (n := 10) hts inlX1 (hts (.instantiable RX1 10) (uc2 _ (List.mem_of_getElem? (i := 5) rfl)))
  obtain ⟨c2, iS2, hKn2⟩ := u_known (C := RX2) (T := TX2) (N := 4) (n := 4) hts inlX2 (hts (.instantiable RX2 4) (uc2 _ (List.mem_of_getElem? (i := 13) rfl)))
  obtain ⟨c3, iS3, hKn3⟩ := u_known (C := RX3) (T := TX3) (N := 2) (n := 2) hts inlX3 (hts (.instantiable RX3 2) (uc2 _ (List.mem_of_getElem? (i := 1) rfl)))
  obtain ⟨c4, iS4, hKn4⟩ := u_known (C := RX4) (T := TX4) (N := 7) (n := 7) hts inlX4 (hts (.instantiable RX4 7) (uc2 _ (List.mem_of_getElem? (i := 17) rfl)))
  obtain ⟨c5, iS5, hKn5⟩ := u_known (C := RX5) (T := TX5) (N := 2) (n := 2) hts inlX5 (hts (.instantiable RX5 2) (uc1 _ (List.mem_of_getElem? (i := 13) rfl)))
  obtain ⟨c6, iS6, hKn6⟩ := u_known (C := RX6) (T := TX6) (N := 5) (n := 5) hts inlX6 (hts (.instantiable RX6 5) (uc1 _ (List.mem_of_getElem? (i := 21) rfl)))
  obtain ⟨c7, iS7, hKn7⟩ := u_known (C := RX7) (T := TX7) (N := 7) (n := 7) hts inlX7 (hts (.instantiable RX7 7) (uc1 _ (List.mem_of_getElem? (i := 17) rfl)))
  obtain ⟨c8, iS8, hKn8⟩ := u_known (C := RX8) (T := TX8) (N := 8) (n := 8) hts inlX8 (hts (.instantiable RX8 8) (uc1 _ (List.mem_of_getElem? (i := 1) rfl)))
  obtain ⟨c9, iS9, hKn9⟩ := u_known (C := RX9) (T := TX9) (N := 34) (n := 34) hts inlX9 (hts (.instantiable RX9 34) (uc1 _ (List.mem_of_getElem? (i := 4) rfl)))
  obtain ⟨D, hKc⟩ : ∃ D : va_G, ∀ (k : Nat) (q : vw_C), vwCl[k]? = some q → u_Kn s q.1 q.2.1 q.2.2 (D.1 k) (D.2 k) := by
    refine ⟨(fun k => if k = 0 then c0 else if k = 1 then c1 else if k = 2 then c2 else if k = 3 then c3 else if k = 4 then c4 else if k = 5 then c5 else if k = 6 then c6 else if k = 7 then c7 else if k = 8 then c8 else c9, fun k => if k = 0 then iS0 else if k = 1 then iS1 else if k = 2 then iS2 else if k = 3 then iS3 else if k = 4 then iS4 else if k = 5 then iS5 else if k = 6 then iS6 else if k = 7 then iS7 else if k = 8 then iS8 else iS9), ?_⟩
    intro k q hq
    match k, hq with
    | 0, hq => cases hq; exact hKn0
    | 1, hq => cases hq; exact hKn1
    | 2, hq => cases hq; exact hKn2
    | 3, hq => cases hq; exact hKn3
    | 4, hq => cases hq; exact hKn4
    | 5, hq => cases hq; exact hKn5
    | 6, hq => cases hq; exact hKn6
    | 7, hq => cases hq; exact hKn7
    | 8, hq => cases hq; exact hKn8
    | 9, hq => cases hq; exact hKn9
    | k + 10, hq => simp [vwCl] at hq
  obtain ⟨cB, hcB⟩ := pArr (ty := .byte) (hts (.arrayClass .byte) (uc3 _ (List.mem_of_getElem? (i := 4) rfl))) (fun _ h => h)
  obtain ⟨cI, hcI⟩ := pArr (ty := .int) (hts (.arrayClass .int) (uc3 _ (List.mem_of_getElem? (i := 13) rfl))) (fun _ h => h)
  obtain ⟨cZ, hcZ⟩ := pArr (ty := .boolean) (hts (.arrayClass .boolean) (uc6 _ (List.mem_of_getElem? (i := 11) rfl))) (fun _ h => h)
  have hK : va_K D vwCl (pT cB cI cZ) s := by
    refine ⟨hKc, fun k q hq => ?_⟩
    match k, hq with
    | 0, hq => cases hq; exact hcB
    | 1, hq => cases hq; exact hcI
    | 2, hq => cases hq; exact hcZ
    | k + 3, hq => simp [pT] at hq
  have hS : va_S A s.heap s.heap [] := va_S.rf
  have hP : va_P D vwCl [] s.heap := fun k q h => by simp at h
  have hD : va_D A [] := ⟨fun i j p q h => by simp at h, fun k q h => by simp at h⟩
  have Cx : lwC p s m meth cd b L xs E D cB cI cZ A := ⟨hx, hb, hml, hown, hts, hX, hbl, hbA, hK, hA, hE⟩
  generalize hQ : lw_Z below #[Value.ref b] s = Q
  have hinX8 := inlX8
  have hinX9 := inlX9
  have hl := lv_entry ([.ref b]) (n := 4) (Nat.le_of_ble_eq_true rfl)
  rw [lg_entry_eq]
  generalize (lg_sl ([.ref b]) ++ List.replicate (4 - (lg_sl ([.ref b])).length) Slot.unset).toArray = ls at hl ⊢
  have hl : lv_has ls 4 [(0, .ref b)] := hl
  have hend : ∀ (H : Heap) (locs : List Loc) (ls : Array Slot), va_S A s.heap H locs → W p l e room_1 s m #[Value.ref b] below meth cd H locs 63 9573 Q (F0 m 474 ls [.int 1]) := by
    intro H locs ls hS
    rw [← hQ]
    refine va_forget (fun q hq => by have := hS.2.2 q hq; rw [hAe] at this; exact this) ?_
    refine W.widen (k := 600000) (n := 7302249) (Nat.le_of_ble_eq_true rfl) (Nat.le_of_ble_eq_true rfl) ?_
    exact lw_ret hx hb hr hlocks dL_law_474
  refine va_new (ci := 8) (fs := [.null, .null, .null, .null, .null, .null, .null, .null]) (C := RX8) (T := TX8) (N := 8) hx hb hts hinX8 tyX8 tyX8_ok hown (hts (.classLink RL 7 RX8) (uc1 _ (List.mem_of_getElem? (i := 0) rfl))) (hts (.instantiable RX8 8) (uc1 _ (List.mem_of_getElem? (i := 1) rfl))) (hts (.initialized RX8) (uc1 _ (List.mem_of_getElem? (i := 2) rfl))) hK hP hD hS hA rfl (fun j hj => by rcases (show j = 0 ∨ j = 1 ∨ j = 2 ∨ j = 3 ∨ j = 4 ∨ j = 5 ∨ j = 6 ∨ j = 7 by omega) with rfl | rfl | rfl | rfl | rfl | rfl | rfl | rfl <;> rfl) (Nat.le_of_ble_eq_true rfl) (Nat.le_of_ble_eq_true rfl) dL_law_0 (fun q H1 hP hD hS => ?_)
  refine W.widen (k := 1) (n := 8) (by decide) (by decide) ?_
  refine lv_dup hx hb dL_law_3 rfl ?_
  refine lx_init Cx hl.1 (wr := []) hP hD hS (fun wx H2 L2 hWx hP hD hS => ?_)
  refine lv_astore_n (lv' := [(1, .ref q), (0, .ref b)]) hx hb dL_law_7 rfl hl (by decide) rfl (fun ls hl => ?_)
  rw [List.append_nil] at hP hD
  refine va_new (ci := 9) (fs := [.null, .null, .int 0, .int 0, .int 0, .int 0, .null, .null, .null, .null, .int 0, .null, .null, .null, .int 0, .int 0, .int 0, .int 0, .null, .null, .null, .null, .null, .null, .null, .null, .null, .null, .null, .null, .null, .int 0, .null, .null]) (C := RX9) (T := TX9) (N := 34) hx hb hts hinX9 tyX9 tyX9_ok hown (hts (.classLink RL 10 RX9) (uc1 _ (List.mem_of_getElem? (i := 3) rfl))) (hts (.instantiable RX9 34) (uc1 _ (List.mem_of_getElem? (i := 4) rfl))) (hts (.initialized RX9) (uc1 _ (List.mem_of_getElem? (i := 5) rfl))) hK hP hD hS hA rfl (fun j hj => by rcases (show j = 0 ∨ j = 1 ∨ j = 2 ∨ j = 3 ∨ j = 4 ∨ j = 5 ∨ j = 6 ∨ j = 7 ∨ j = 8 ∨ j = 9 ∨ j = 10 ∨ j = 11 ∨ j = 12 ∨ j = 13 ∨ j = 14 ∨ j = 15 ∨ j = 16 ∨ j = 17 ∨ j = 18 ∨ j = 19 ∨ j = 20 ∨ j = 21 ∨ j = 22 ∨ j = 23 ∨ j = 24 ∨ j = 25 ∨ j = 26 ∨ j = 27 ∨ j = 28 ∨ j = 29 ∨ j = 30 ∨ j = 31 ∨ j = 32 ∨ j = 33 by omega) with rfl | rfl | rfl | rfl | rfl | rfl | rfl | rfl | rfl | rfl | rfl | rfl | rfl | rfl | rfl | rfl | rfl | rfl | rfl | rfl | rfl | rfl | rfl | rfl | rfl | rfl | rfl | rfl | rfl | rfl | rfl | rfl | rfl | rfl <;> rfl) (Nat.le_of_ble_eq_true rfl) (Nat.le_of_ble_eq_true rfl) dL_law_8 (fun q9 H3 hP hD hS => ?_)
  refine W.widen (k := 39) (n := 3752) (by decide) (by decide) ?_
  refine lv_dup hx hb dL_law_11 rfl ?_
  refine l9_init Cx hl.1 (wr := wx) hP hD hS (fun w9 H4 L4 hW9 hP hD hS => ?_)
  have hP := va_P.swap (a := []) hP
  have hD := va_D.swap (a := []) hD
  refine lv_astore_n (lv' := [(2, .ref q9), (1, .ref q), (0, .ref b)]) hx hb dL_law_15 rfl hl (by decide) rfl (fun ls hl => ?_)
  refine lv_iconst (v := 0) hx hb dL_law_16 (by decide) ?_
  refine lv_istore_n (lv' := [(3, .int 0), (2, .ref q9), (1, .ref q), (0, .ref b)]) hx hb dL_law_17 rfl hl (by decide) rfl (fun ls hl => ?_)
  exact lw_loop Cx hL hend (L - 0 + 1) 0 ((0, (fun _ => 0), 0, (fun _ => 0), (fun _ _ => 0), 0, (fun _ => 0), (fun _ => False)) : lwK) wx w9 (by omega) hWx hW9 (by omega) _ _ ls hP hD hS (lv_sub hl [3, 2, 1, 0] rfl)
