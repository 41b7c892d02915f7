abbrev pEt : Type := (Nat → Nat) × (Nat → Nat)
abbrev pLen : List Nat := [2, 3, 3, 3, 3, 4, 2, 3, 4, 4, 5, 2, 3, 3]
abbrev pByt : List (List Int32) := [[104, 101], [104, 105, 109], [104, 105, 115], [115, 104, 101], [104, 101, 114], [104, 101, 114, 115], [105, 116], [105, 116, 115], [116, 104, 101, 121], [116, 104, 101, 109], [116, 104, 101, 105, 114], [105, 115], [119, 97, 115], [97, 110, 100]]
def pNst (E : pEt) (U : State) : Prop := va_Nw (.methodLinkNest RX5 37 yX8_isSmall RX8) U ∧ va_Nw (.methodLinkNest RX5 41 yX8_isCapital RX8) U ∧ va_Nw (.methodLinkNest RX7 87 yX8_isSmall RX8) U ∧ vk_R RX5 48 "he" (E.1 0) U ∧ vk_R RX5 50 "him" (E.1 1) U ∧ vk_R RX5 52 "his" (E.1 2) U ∧ vk_R RX5 58 "she" (E.1 3) U ∧ vk_R RX5 60 "her" (E.1 4) U ∧ vk_R RX5 62 "hers" (E.1 5) U ∧ vk_R RX5 64 "it" (E.1 6) U ∧ vk_R RX5 66 "its" (E.1 7) U ∧ vk_R RX5 68 "they" (E.1 8) U ∧ vk_R RX5 70 "them" (E.1 9) U ∧ vk_R RX5 72 "their" (E.1 10) U ∧ vk_R RX7 97 "and" (E.1 13) U ∧ vk_R RX7 103 "is" (E.1 11) U ∧ vk_R RX7 105 "was" (E.1 12) U
def pEnv (E : pEt) (A : Nat → Prop) (U : State) (H : Heap) : Prop := vk_S 14 pLen pByt E.1 E.2 A U H ∧ va_Z "java/lang/String" "COMPACT_STRINGS" "Z" (.int 1) A U H ∧ va_Zq "jdk/internal/util/Preconditions" "SIOOBE_FORMATTER" "Ljava/util/function/BiFunction;" A U H ∧ pNst E U
theorem pN_RX5_37 {E : pEt} {A : Nat → Prop} {U : State} {H : Heap} (h : pEnv E A U H) : va_Nw (.methodLinkNest RX5 37 yX8_isSmall RX8) U := h.2.2.2.1
theorem pN_RX5_41 {E : pEt} {A : Nat → Prop} {U : State} {H : Heap} (h : pEnv E A U H) : va_Nw (.methodLinkNest RX5 41 yX8_isCapital RX8) U := h.2.2.2.2.1
theorem pN_RX7_87 {E : pEt} {A : Nat → Prop} {U : State} {H : Heap} (h : pEnv E A U H) : va_Nw (.methodLinkNest RX7 87 yX8_isSmall RX8) U := h.2.2.2.2.2.1
theorem pR_RX5_48 {E : pEt} {A : Nat → Prop} {U : State} {H : Heap} (h : pEnv E A U H) : vk_R RX5 48 "he" (E.1 0) U := h.2.2.2.2.2.2.1
theorem pR_RX5_50 {E : pEt} {A : Nat → Prop} {U : State} {H : Heap} (h : pEnv E A U H) : vk_R RX5 50 "him" (E.1 1) U := h.2.2.2.2.2.2.2.1
theorem pR_RX5_52 {E : pEt} {A : Nat → Prop} {U : State} {H : Heap} (h : pEnv E A U H) : vk_R RX5 52 "his" (E.1 2) U := h.2.2.2.2.2.2.2.2.1
theorem pR_RX5_58 {E : pEt} {A : Nat → Prop} {U : State} {H : Heap} (h : pEnv E A U H) : vk_R RX5 58 "she" (E.1 3) U := h.2.2.2.2.2.2.2.2.2.1
theorem pR_RX5_60 {E : pEt} {A : Nat → Prop} {U : State} {H : Heap} (h : pEnv E A U H) : vk_R RX5 60 "her" (E.1 4) U := h.2.2.2.2.2.2.2.2.2.2.1
theorem pR_RX5_62 {E : pEt} {A : Nat → Prop} {U : State} {H : Heap} (h : pEnv E A U H) : vk_R RX5 62 "hers" (E.1 5) U := h.2.2.2.2.2.2.2.2.2.2.2.1
theorem pR_RX5_64 {E : pEt} {A : Nat → Prop} {U : State} {H : Heap} (h : pEnv E A U H) : vk_R RX5 64 "it" (E.1 6) U := h.2.2.2.2.2.2.2.2.2.2.2.2.1
theorem pR_RX5_66 {E : pEt} {A : Nat → Prop} {U : State} {H : Heap} (h : pEnv E A U H) : vk_R RX5 66 "its" (E.1 7) U := h.2.2.2.2.2.2.2.2.2.2.2.2.2.1
theorem pR_RX5_68 {E : pEt} {A : Nat → Prop} {U : State} {H : Heap} (h : pEnv E A U H) : vk_R RX5 68 "they" (E.1 8) U := h.2.2.2.2.2.2.2.2.2.2.2.2.2.2.1
theorem pR_RX5_70 {E : pEt} {A : Nat → Prop} {U : State} {H : Heap} (h : pEnv E A U H) : vk_R RX5 70 "them" (E.1 9) U := h.2.2.2.2.2.2.2.2.2.2.2.2.2.2.2.1
theorem pR_RX5_72 {E : pEt} {A : Nat → Prop} {U : State} {H : Heap} (h : pEnv E A U H) : vk_R RX5 72 "their" (E.1 10) U := h.2.2.2.2.2.2.2.2.2.2.2.2.2.2.2.2.1
theorem pR_RX7_97 {E : pEt} {A : Nat → Prop} {U : State} {H : Heap} (h : pEnv E A U H) : vk_R RX7 97 "and" (E.1 13) U := h.2.2.2.2.2.2.2.2.2.2.2.2.2.2.2.2.2.1
theorem pR_RX7_103 {E : pEt} {A : Nat → Prop} {U : State} {H : Heap} (h : pEnv E A U H) : vk_R RX7 103 "is" (E.1 11) U := h.2.2.2.2.2.2.2.2.2.2.2.2.2.2.2.2.2.2.1
theorem pR_RX7_105 {E : pEt} {A : Nat → Prop} {U : State} {H : Heap} (h : pEnv E A U H) : vk_R RX7 105 "was" (E.1 12) U := h.2.2.2.2.2.2.2.2.2.2.2.2.2.2.2.2.2.2.2
theorem pNst_warm {E : pEt} {s U : State} (hW : s.WarmedH U.vm) (h : pNst E s) : pNst E U := by
  obtain ⟨h0, h1, h2, h3, h4, h5, h6, h7, h8, h9, h10, h11, h12, h13, h14, h15, h16⟩ := h
  exact ⟨va_Nw.warmM hW h0, va_Nw.warmM hW h1, va_Nw.warmM hW h2, vk_R.warm hW h3, vk_R.warm hW h4, vk_R.warm hW h5, vk_R.warm hW h6, vk_R.warm hW h7, vk_R.warm hW h8, vk_R.warm hW h9, vk_R.warm hW h10, vk_R.warm hW h11, vk_R.warm hW h12, vk_R.warm hW h13, vk_R.warm hW h14, vk_R.warm hW h15, vk_R.warm hW h16⟩
theorem pNst_same {E : pEt} {s U : State} (hv : U.vm = s.vm) (h : pNst E s) : pNst E U := by
  obtain ⟨h0, h1, h2, h3, h4, h5, h6, h7, h8, h9, h10, h11, h12, h13, h14, h15, h16⟩ := h
  exact ⟨va_Nw.same rfl hv.symm h0, va_Nw.same rfl hv.symm h1, va_Nw.same rfl hv.symm h2, vk_R.same hv h3, vk_R.same hv h4, vk_R.same hv h5, vk_R.same hv h6, vk_R.same hv h7, vk_R.same hv h8, vk_R.same hv h9, vk_R.same hv h10, vk_R.same hv h11, vk_R.same hv h12, vk_R.same hv h13, vk_R.same hv h14, vk_R.same hv h15, vk_R.same hv h16⟩
theorem pEnv_go {E : pEt} {A B : Nat → Prop} {s U : State} {H : Heap} {locs : List Loc} (hE : pEnv E A s s.heap) (hS : va_S A s.heap H locs) (hF : ∀ q, B q → A q) (hU : U.heap = H) (hW : s.WarmedH U.vm) : pEnv E B U U.heap := by
  rw [hU]
  exact ⟨((hE.1.kept hS.2.1).narrow hF).moved hW.alike, ((hE.2.1.kept hS.2.1).narrow hF).moved hW.alike, ((hE.2.2.1.kept hS.2.1).narrow hF).moved hW.alike, pNst_warm hW hE.2.2.2⟩
theorem pEnv_same {E : pEt} {A : Nat → Prop} {u U : State} (hv : U.vm = u.vm) (hh : U.heap = u.heap) (h : pEnv E A u u.heap) : pEnv E A U U.heap := by
  rw [hh]
  have ha : u.vm.Alike U.vm := by rw [hv]; exact Vm.Alike.refl _
  exact ⟨h.1.moved ha, h.2.1.moved ha, h.2.2.1.moved ha, pNst_same hv h.2.2.2⟩
abbrev pInE (E : pEt) (D : va_G) (tys : List (ClassId × FieldType)) (sz : Nat) (ws : va_W) (U : State) : Prop := U.heap.size = sz ∧ va_P D vwCl ws U.heap ∧ va_K D vwCl tys U ∧ va_D (fun _ => True) ws ∧ pEnv E (va_A ws sz) U U.heap
theorem pFbE {E : pEt} {D : va_G} {tys : List (ClassId × FieldType)} {sz : Nat} {ws : va_W} {av : List Value} : FrameBlind (va_Pc av (pInE E D tys sz ws)) := fun a U g mk q => by
  obtain ⟨q0, q1, qP, qK, qD, qE⟩ := q
  exact ⟨q0, q1, qP, va_K.moved (u := U) (U := U.calling g mk a) (Vm.Alike.refl U.vm) qK, qD, pEnv_same (u := U) (U := U.calling g mk a) rfl rfl qE⟩
theorem pSE {E : pEt} {s : State} {H : Heap} {D : va_G} {tys : List (ClassId × FieldType)} {A : Nat → Prop} {ws : va_W} {As : List Value} {locs : List Loc} (hE : pEnv E A s s.heap) (hS : va_S A s.heap H locs) (hF : ∀ q, va_A ws H.size q → A q) (hK : va_K D vwCl tys s) (hP : va_P D vwCl ws H) (hD : va_D A ws) : PreS s H (va_Pc As (pInE E D tys H.size ws)) As :=
  ⟨pFbE, fun U hU hW => ⟨rfl, by rw [hU], by rw [hU]; exact hP, va_K.moved hW.alike hK, hD.weaken (fun _ _ _ _ => trivial), pEnv_go hE hS hF hU hW⟩⟩
theorem pVE {E : pEt} {s : State} {H : Heap} {D : va_G} {tys : List (ClassId × FieldType)} {A : Nat → Prop} {ws : va_W} {As : List Value} {locs : List Loc} {b : Nat} {ci : Nat} {q : vw_C} {fs : List Value} (hE : pEnv E A s s.heap) (hS : va_S A s.heap H locs) (hF : ∀ q, va_A ws H.size q → A q) (hK : va_K D vwCl tys s) (hP : va_P D vwCl ws H) (hD : va_D A ws) (q0 : Nat) (he : ws[q0]? = some (b, .inr (ci, fs))) (hc : vwCl[ci]? = some q) : PreV s H q.1 b (va_Pc (.ref b :: As) (pInE E D tys H.size ws)) As :=
  ⟨pFbE, va_recv hK hP hc he, fun U hU hW => ⟨rfl, by rw [hU], by rw [hU]; exact hP, va_K.moved hW.alike hK, hD.weaken (fun _ _ _ _ => trivial), pEnv_go hE hS hF hU hW⟩⟩
theorem pVS {E : pEt} {s : State} {H : Heap} {D : va_G} {tys : List (ClassId × FieldType)} {A : Nat → Prop} {ws : va_W} {As : List Value} {locs : List Loc} {i : Nat} (hE : pEnv E A s s.heap) (hS : va_S A s.heap H locs) (hF : ∀ q, va_A ws H.size q → A q) (hK : va_K D vwCl tys s) (hP : va_P D vwCl ws H) (hD : va_D A ws) (hi : i < 14) : PreV s H RJ0 (E.1 i) (va_Pc (.ref (E.1 i) :: As) (pInE E D tys H.size ws)) As :=
  ⟨pFbE, vk_recv hE.1 hi hS, fun U hU hW => ⟨rfl, by rw [hU], by rw [hU]; exact hP, va_K.moved hW.alike hK, hD.weaken (fun _ _ _ _ => trivial), pEnv_go hE hS hF hU hW⟩⟩
theorem pIxc {k : Int32} {c N : Nat} (h1 : ¬ k < 0) (h2 : ¬ nI c ≤ k) (hc : c ≤ N) (hN : N < 2 ^ 31) : vp_in k N := by
  obtain ⟨j, h3, h4, -⟩ := pk_mu h1 h2 (by omega)
  rw [h4]
  exact vp_in_nI (by omega) hN
theorem pNat {x : Int32} (h : ¬ x < 0) : ∃ X : Nat, X < 2 ^ 31 ∧ x = nI X := nI_of h
theorem pHold1 {x y : Int32} {k : Nat} (hk : k ≤ 600) (h1 : ¬ x < 0) (h2 : ¬ y < 0) (h3 : ¬ nI k < y) (h4 : ¬ nI k - y < x) : ∃ X Y : Nat, x = nI X ∧ y = nI Y ∧ X + Y ≤ k := by
  obtain ⟨X, hX, rfl⟩ := nI_of h1
  obtain ⟨Y, hY, rfl⟩ := nI_of h2
  have hYk : Y ≤ k := Nat.le_of_not_lt (fun q => h3 (nI_lt q hY))
  rw [pk_sub hYk] at h4
  have hXk : X ≤ k - Y := Nat.le_of_not_lt (fun q => h4 (nI_lt q hX))
  exact ⟨X, Y, rfl, rfl, by omega⟩
theorem pHoldX {x y : Int32} {k : Nat} (hk : k ≤ 600) (h : x < 0) : ¬ ∃ X Y : Nat, x = nI X ∧ y = nI Y ∧ X + Y ≤ k := fun ⟨X, Y, e, _, hs⟩ => by
  rw [e] at h
  exact nI_pos (by omega) h
theorem pHoldY {x y : Int32} {k : Nat} (hk : k ≤ 600) (h : y < 0) : ¬ ∃ X Y : Nat, x = nI X ∧ y = nI Y ∧ X + Y ≤ k := fun ⟨X, Y, _, e, hs⟩ => by
  rw [e] at h
  exact nI_pos (by omega) h
theorem pHoldK {x y : Int32} {k : Nat} (hk : k ≤ 600) (h : nI k < y) : ¬ ∃ X Y : Nat, x = nI X ∧ y = nI Y ∧ X + Y ≤ k := fun ⟨X, Y, _, e, hs⟩ => by
  rw [e] at h
  exact nI_nlt (by omega) (by omega) h
theorem pHoldS {x y : Int32} {k : Nat} (hk : k ≤ 600) (h : nI k - y < x) : ¬ ∃ X Y : Nat, x = nI X ∧ y = nI Y ∧ X + Y ≤ k := fun ⟨X, Y, e1, e, hs⟩ => by
  rw [e, e1, pk_sub (by omega)] at h
  exact nI_nlt (by omega) (by omega) h
theorem pLenB {i : Nat} (h : i < 14) : 2 ≤ pLen.getD i 0 ∧ pLen.getD i 0 ≤ 5 := by
  rcases (show i = 0 ∨ i = 1 ∨ i = 2 ∨ i = 3 ∨ i = 4 ∨ i = 5 ∨ i = 6 ∨ i = 7 ∨ i = 8 ∨ i = 9 ∨ i = 10 ∨ i = 11 ∨ i = 12 ∨ i = 13 by omega) with rfl | rfl | rfl | rfl | rfl | rfl | rfl | rfl | rfl | rfl | rfl | rfl | rfl | rfl <;> decide
theorem pY2 {X Y k n : Nat} (h : ¬ nI Y < 2) (hs : X + Y ≤ k) (hk : k ≤ n ∧ n ≤ 600) : vp_in (nI X) n := by
  have h2 : 2 ≤ Y := Nat.le_of_not_lt (fun q => h (nI_lt (b := 2) q (by decide)))
  exact vp_in_nI (by omega) (by omega)
theorem pSame {X k n : Nat} {z : Int32} (hk : k ≤ n) (hn : n ≤ 600) (hX : X < 2 ^ 31) (h : z ≤ nI k - nI X) : ∀ i : Nat, i ≤ 600 → nI i < z → X + i < k := by
  intro i hi hz
  rw [Int32.le_iff_toInt_le] at h
  rw [Int32.lt_iff_toInt_lt, nI_toInt (by omega)] at hz
  rw [Int32.toInt_sub, nI_toInt (by omega), nI_toInt hX, Int.bmod_eq_of_le (by omega) (by omega)] at h
  omega
theorem pDown {y : Int32} {nn : Nat} (h : ¬ y < 0) (hm : (y.toInt + 1).toNat < nn + 1) : ((y + -1).toInt + 1).toNat < nn := by
  obtain ⟨Y, hY, rfl⟩ := nI_of h
  rw [nI_toInt hY] at hm
  cases Y with
  | zero => rw [show (nI 0 + -1 : Int32).toInt = -1 by decide]; omega
  | succ Y => rw [pk_m1, nI_toInt (by omega)]; omega
theorem pMax1 {X L k : Nat} (h : X + L ≤ k) (hk : k < 2 ^ 31) (hX : X < k) : ∃ M : Nat, (if nI L < 1 then 1 else nI L) = nI M ∧ 1 ≤ M ∧ X + M ≤ k := by
  by_cases h1 : nI L < 1
  · exact ⟨1, if_pos h1, Nat.le_refl 1, by omega⟩
  · have h2 : 1 ≤ L := Nat.le_of_not_lt (fun q => h1 (nI_lt (b := 1) q (by decide)))
    exact ⟨L, if_neg h1, h2, h⟩
theorem pMin7 {d : Nat} (h : d ≤ 8) : ∃ M : Nat, (if (7 : Int32) < nI d then 7 else nI d) = nI M ∧ M ≤ 7 := by
  by_cases h1 : (7 : Int32) < nI d
  · exact ⟨7, if_pos h1, Nat.le_refl 7⟩
  · have h2 : d ≤ 7 := Nat.le_of_not_lt (fun q => h1 (nI_lt (a := 7) q (by omega)))
    exact ⟨d, if_neg h1, h2⟩
theorem pSameI {i X k : Nat} {z : Int32} (h : ¬ z ≤ nI i) (hi : i ≤ 600) (hz : ∀ i : Nat, i ≤ 600 → nI i < z → X + i < k) : X + i < k := hz i hi (Int32.not_le.mp h)
