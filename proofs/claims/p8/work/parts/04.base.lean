theorem uGood : ∀ w ∈ wsL_law, (w.onTables && w.keeps) = true ∨ ∃ ty, w = .arrayClass ty := fun w h => good_of_word (List.all_eq_true.mp (by decide +kernel : wsL_law.all goodWord = true) w h)
theorem uI {y : MethodName} {c : ByteArray} {n : Nat} {r : Option FieldType} (h : Cond.code y c n r ∈ wsL_law) : GoodIn wsL_law (Cond.code y c n r :: wsL_law) := fun w hw => (List.mem_cons.mp hw).elim (fun e => by rw [e]; exact ⟨h, uGood _ h⟩) (fun h => ⟨h, uGood _ h⟩)
theorem uV {own C : String} {idx : Nat} {y : MethodName} {c : ByteArray} {n : Nat} {r : Option FieldType} (h1 : Cond.methodLink own idx y ∈ wsL_law) (h2 : Cond.instanceMethod y ∈ wsL_law) (h3 : Cond.selects C y y ∈ wsL_law) (h4 : Cond.initialized C ∈ wsL_law) (h5 : Cond.code y c n r ∈ wsL_law) : GoodIn wsL_law (wsV own idx C y (Cond.code y c n r :: wsL_law)) :=
  goodIn_app (fun w hw => by
    rcases List.mem_cons.mp hw with rfl | hw
    · exact ⟨h1, uGood _ h1⟩
    rcases List.mem_cons.mp hw with rfl | hw
    · exact ⟨h2, uGood _ h2⟩
    rcases List.mem_cons.mp hw with rfl | hw
    · exact ⟨h3, uGood _ h3⟩
    rcases List.mem_cons.mp hw with rfl | hw
    · exact ⟨h4, uGood _ h4⟩
    exact absurd hw List.not_mem_nil) (uI h5)
theorem uS {own : String} {idx : Nat} {y : MethodName} {c : ByteArray} {n : Nat} {r : Option FieldType} (h1 : Cond.methodLink own idx y ∈ wsL_law) (h2 : Cond.static y ∈ wsL_law) (h4 : Cond.initialized y.cls ∈ wsL_law) (h5 : Cond.code y c n r ∈ wsL_law) : GoodIn wsL_law (va_wsS own idx y (Cond.code y c n r :: wsL_law)) :=
  goodIn_app (fun w hw => by
    rcases List.mem_cons.mp hw with rfl | hw
    · exact ⟨h1, uGood _ h1⟩
    rcases List.mem_cons.mp hw with rfl | hw
    · exact ⟨h2, uGood _ h2⟩
    rcases List.mem_cons.mp hw with rfl | hw
    · exact ⟨h4, uGood _ h4⟩
    exact absurd hw List.not_mem_nil) (uI h5)
abbrev pT (cB cI cZ : ClassId) : List (ClassId × FieldType) := [(cB, .byte), (cI, .int), (cZ, .boolean)]
abbrev pIn (D : va_G) (tys : List (ClassId × FieldType)) (sz : Nat) (ws : va_W) (U : State) : Prop := U.heap.size = sz ∧ va_P D vwCl ws U.heap ∧ va_K D vwCl tys U ∧ va_D (fun _ => True) ws
abbrev pAt (D : va_G) (tys : List (ClassId × FieldType)) (A : Nat → Prop) (ws : va_W) (t : State) : Prop := va_P D vwCl ws t.heap ∧ va_K D vwCl tys t ∧ va_D A ws
theorem pFb {D : va_G} {tys : List (ClassId × FieldType)} {sz : Nat} {ws : va_W} {av : List Value} : FrameBlind (va_Pc av (pIn D tys sz ws)) := fun a U g mk q => by
  obtain ⟨q0, q1, qP, qK, qD⟩ := q
  exact ⟨q0, q1, qP, va_K.moved (u := U) (U := U.calling g mk a) (Vm.Alike.refl U.vm) qK, qD⟩
theorem pS {s : State} {H : Heap} {D : va_G} {tys : List (ClassId × FieldType)} {A : Nat → Prop} {ws : va_W} {As : List Value} (hK : va_K D vwCl tys s) (hP : va_P D vwCl ws H) (hD : va_D A ws) : PreS s H (va_Pc As (pIn D tys H.size ws)) As :=
  ⟨pFb, fun U hU hW => ⟨rfl, by rw [hU], by rw [hU]; exact hP, va_K.moved hW.alike hK, hD.weaken (fun _ _ _ _ => trivial)⟩⟩
theorem pV {s : State} {H : Heap} {D : va_G} {tys : List (ClassId × FieldType)} {A : Nat → Prop} {ws : va_W} {As : List Value} {b : Nat} {ci : Nat} {q : vw_C} {fs : List Value} (hK : va_K D vwCl tys s) (hP : va_P D vwCl ws H) (hD : va_D A ws) (q0 : Nat) (he : ws[q0]? = some (b, .inr (ci, fs))) (hc : vwCl[ci]? = some q) : PreV s H q.1 b (va_Pc (.ref b :: As) (pIn D tys H.size ws)) As :=
  ⟨pFb, va_recv hK hP hc he, fun U hU hW => ⟨rfl, by rw [hU], by rw [hU]; exact hP, va_K.moved hW.alike hK, hD.weaken (fun _ _ _ _ => trivial)⟩⟩
theorem pRA {s : State} {a b : ClassId} {t : ArrayType} (h1 : va_RA s a (newarray.typeOf t)) (h2 : va_RA s b (newarray.typeOf t)) : a = b := by
  cases t <;> exact Option.some.inj (Eq.trans (Eq.symm h1) h2)
theorem pNewa {p : Program} {l : Launch} {e : Env} {R : Room} {s : State} {m : MethodId} {args : Array Value} {below : List Frame} {meth : Method} {c : Code} {H : Heap} {locs : List Loc} {cells slots : Nat} {Q : State → Prop} {cc : ByteArray} {pc : Nat} {ls : Array Slot} {rest : List Value} {D : va_G} {cl : List vw_C} {A : Nat → Prop} {tys : List (ClassId × FieldType)} {ws : va_W} {H0 : Heap}
    (hexec : p.tables.exec = Jvm.exec) (hb : c.code = cc) {atype : ArrayType} {ty : FieldType} (harr : (Cond.arrayClass ty).before args s = true) (hty : newarray.typeOf atype = ty) (hK : va_K D cl tys s) (hP : va_P D cl ws H) (hD : va_D A ws) (hS : va_S A H0 H locs) (hA : ∀ q, H0.size ≤ q → A q)
    {n : Int32} {N' : Nat} {a0 : vp_A} (ha : ∀ cA : ClassId, vp_cell cA a0 = arrV cA N' (fun _ => defaultValue ty)) (hn : ¬ n < 0) (hN : n.toNatClampNeg = N') (hbytes : N' * componentBytes ty ≤ 536870912) (hcells : cells + 1 ≤ R.cells) (hslots : slots + N' ≤ R.slots) (hdg : decode cc pc = .ok (.newarray atype, 2))
    (t0 : Nat) {cA : ClassId} (ht : tys[t0]? = some (cA, ty))
    (kk : ∀ (q : Nat) (H1 : Heap), va_P D cl (ws ++ [(q, .inl (cA, a0))]) H1 → va_D A (ws ++ [(q, .inl (cA, a0))]) → va_S A H0 H1 locs →
      W p l e R s m args below meth c H1 locs (cells + 1) (slots + N') Q (F0 m (pc + 2) ls (.ref q :: rest))) : W p l e R s m args below meth c H locs cells slots Q (F0 m pc ls (.int n :: rest)) := by
  subst hty
  refine va_newa hexec hb harr rfl hK hP hD hS hA ha hn hN hbytes hcells hslots hdg (fun q cA' H1 hK1 hP1 hD1 hS1 => ?_)
  have e : cA' = cA := pRA (hK1.2 tys.length (cA', newarray.typeOf atype) (by simp)).2 (hK.2 t0 (cA, newarray.typeOf atype) ht).2
  subst e
  exact kk q H1 hP1 hD1 hS1
theorem pE1 {k : Int32} (h1 : ¬ k < 0) (h2 : ¬ 0 ≤ k) : False := by
  rw [Int32.lt_iff_toInt_lt] at h1
  rw [Int32.le_iff_toInt_le] at h2
  omega
theorem pE0 {k : Int32} (h1 : ¬ k < 0) (h2 : ¬ (-1) < k) : False := by
  rw [Int32.lt_iff_toInt_lt] at h1 h2
  have e0 : (0 : Int32).toInt = 0 := by decide
  have e1 : (-1 : Int32).toInt = -1 := by decide
  omega
theorem pE2 {k : Int32} (h1 : ¬ k < 0) (h2 : k ≤ 0) : k = 0 := by
  rw [Int32.lt_iff_toInt_lt] at h1
  rw [Int32.le_iff_toInt_le] at h2
  exact Int32.toInt_inj.mp (by omega)
theorem pE3 {k : Int32} (h1 : ¬ k < 0) (h2 : ¬ 0 < k) : k = 0 := by
  rw [Int32.lt_iff_toInt_lt] at h1 h2
  exact Int32.toInt_inj.mp (by omega)
theorem pIx {k : Int32} {n : Nat} (h1 : ¬ k < 0) (h2 : ¬ nI n ≤ k) (hn : n < 2 ^ 31) : vp_in k n := by
  obtain ⟨j, h3, h4, -⟩ := pk_mu h1 h2 hn
  rw [h4]
  exact vp_in_nI h3 hn
theorem pIxN {k : Int32} {n : Nat} (h1 : ¬ k < 0) (h2 : ¬ nI n ≤ k) (hn : n < 2 ^ 31) : k.toNatClampNeg < n := by
  obtain ⟨j, h3, h4, h5, h6, -⟩ := pk_mu h1 h2 hn
  rw [h6]
  exact h3
theorem pFill {g : Nat → Int32} {x : Int32} {i : Nat} (h : ∀ j, j < i → g j = x) : ∀ j, j < i + 1 → upd g i x j = x := fun j hj => by
  by_cases hji : j = i
  · rw [hji]; exact pk_us
  · rw [pk_un hji]; exact h j (by omega)
theorem pArr {s : State} {args : Array Value} {ty : FieldType} (harr : (Cond.arrayClass ty).before args s = true) (hr : ∀ cA : ClassId, s.vm.findClass ("[" ++ ty.toString) = some cA → va_RA s cA ty) : ∃ cA : ClassId, ArrOfT s cA ty ∧ va_RA s cA ty := by
  obtain ⟨cA, kA, comp, hfind, hk, hkind⟩ := Cond.arrayClass_spec harr
  exact ⟨cA, fun n z => ⟨fun k h => (by cases h), kA, hk, comp, hkind⟩, hr cA hfind⟩
