theorem lwPs {D : va_G} {cl : List vw_C} {ws wc : va_W} {H : Heap} (h : va_P D cl ws H) (is : List Nat) (hs : is.map (fun i => ws[i]?) = wc.map some) : va_P D cl wc H := fun k q hk => by
  obtain ⟨i, h1, h2⟩ := va_in_of is hs hk
  exact h i q h2
theorem lwFr {A : Nat → Prop} {X : va_W} {H0 H : Heap} {locs : List Loc} (hD : va_D A X) (hS : va_S A H0 H locs) (hA : ∀ q, H0.size ≤ q → A q) : ∀ q, va_A X H.size q → A q := fun q h => by
  rcases h with ⟨k, e, h⟩ | h
  · exact hD.2 k (q, e) h
  · exact hA q (Nat.le_trans hS.1 h)
theorem lwAll {A0 : Nat → Prop} {D : va_G} {cl : List vw_C} {X w1 pl : va_W} {H H1 : Heap} (hP : va_P D cl (X ++ pl) H) (hD : va_D A0 (X ++ pl)) (hk : ∀ q : Nat, q < H.size → ¬ va_A X H.size q → H1[q]? = H[q]?) (hF : ∀ q, va_A X H.size q → A0 q) (hP1 : va_P D cl w1 H1) (hD1 : va_D (va_A X H.size) w1) : va_P D cl (w1 ++ pl) H1 ∧ va_D A0 (w1 ++ pl) := by
  have key : ∀ (k : Nat) (q : Nat × va_E), pl[k]? = some q → (X ++ pl)[X.length + k]? = some q := fun k q hq => by
    rw [List.getElem?_append_right (by omega), Nat.add_sub_cancel_left]
    exact hq
  have apart : ∀ (k : Nat) (q : Nat × va_E), pl[k]? = some q → q.1 < H.size ∧ ¬ va_A X H.size q.1 := by
    intro k q hq
    have h2 := key k q hq
    have hl := (hP _ q h2).lt
    refine ⟨hl, fun h => ?_⟩
    rcases h with ⟨k2, e, h⟩ | h
    · have h5 := (List.getElem?_eq_some_iff.mp h).1
      have h3 : (X ++ pl)[k2]? = some (q.1, e) := by rw [List.getElem?_append_left h5]; exact h
      have := hD.1 _ _ q (q.1, e) h2 h3 rfl
      omega
    · omega
  have hDpl : va_D A0 pl := ⟨fun i j x y hi hj hxy => by have := hD.1 _ _ x y (key i x hi) (key j y hj) hxy; omega, fun k q hk => hD.2 _ q (key k q hk)⟩
  exact ⟨va_P.app hP1 (fun k q hq => (hP _ q (key k q hq)).kept (hk q.1 (apart k q hq).1 (apart k q hq).2)), va_D.app (hD1.weaken (fun k q _ h => hF q.1 h)) hDpl (fun i j x y hx hy hxy => (apart j y hy).2 (by rw [← hxy]; exact hD1.2 i x hx))⟩
theorem lwSame {A0 : Nat → Prop} {D : va_G} {cl : List vw_C} {X wc pl : va_W} {H H1 : Heap} (hP : va_P D cl (X ++ pl) H) (hD : va_D A0 (X ++ pl)) (is : List Nat) (hC : is.map (fun i => X[i]?) = wc.map some) (hk : ∀ q : Nat, q < H.size → ¬ va_A wc H.size q → H1[q]? = H[q]?) (hP1 : va_P D cl wc H1) : va_P D cl (X ++ pl) H1 := by
  intro k q hq
  by_cases h : ∃ (k2 : Nat) (e : va_E), wc[k2]? = some (q.1, e)
  · obtain ⟨k2, e, h⟩ := h
    obtain ⟨i, h1, h2⟩ := va_in_of is hC h
    have h3 : (X ++ pl)[i]? = some (q.1, e) := by rw [List.getElem?_append_left (List.getElem?_eq_some_iff.mp h2).1]; exact h2
    have hki := hD.1 k i q (q.1, e) hq h3 rfl
    rw [hki, h3] at hq
    have h4 : (q.1, e) = q := Option.some.inj hq
    rw [h4] at h
    exact hP1 k2 q h
  · have hl := (hP k q hq).lt
    exact (hP k q hq).kept (hk q.1 hl (fun z => z.elim h (fun z => absurd z (by omega))))
theorem lwPl {D : va_G} {cl : List vw_C} {X pl : va_W} {H : Heap} (h : va_P D cl (X ++ pl) H) : va_P D cl X H := fun k q hk => h k q (by rw [List.getElem?_append_left (List.getElem?_eq_some_iff.mp hk).1]; exact hk)
theorem lwDl {A : Nat → Prop} {X pl : va_W} (h : va_D A (X ++ pl)) : va_D A X := by
  have key : ∀ (k : Nat) (q : Nat × va_E), X[k]? = some q → (X ++ pl)[k]? = some q := fun k q hk => by rw [List.getElem?_append_left (List.getElem?_eq_some_iff.mp hk).1]; exact hk
  exact ⟨fun i j x y hi hj => h.1 i j x y (key i x hi) (key j y hj), fun k q hk => h.2 k q (key k q hk)⟩
def lwC (p : Program) (s : State) (m : MethodId) (meth : Method) (cd : Code) (b L : Nat) (xs : Nat → Int32) (E : pEt) (D : va_G) (cB cI cZ : ClassId) (A : Nat → Prop) : Prop := p.tables.exec = Jvm.exec ∧ cd.code = code ∧ cd.maxLocals = 4 ∧ s.vm.findClass RL = some m.cls ∧ (∀ w ∈ wsL_law, w.before #[Value.ref b] s = true) ∧ va_X b L xs s s.heap ∧ b < s.heap.size ∧ ¬ A b ∧ va_K D vwCl (pT cB cI cZ) s ∧ (∀ q : Nat, s.heap.size ≤ q → A q) ∧ pEnv E A s s.heap
def tFeed (k : Nat) : Nat := if k + 20 ≤ 600 then k + 20 else k
def aFeed (k : Nat) : Int32 := if k + 20 ≤ 600 then nI (k + 20) else -1
def tEnd (x : Int32) (k : Nat) : Nat := if x < 0 ∨ nI k < x then k else x.toNatClampNeg
def aEnd (x : Int32) (k : Nat) : Int32 := if x < 0 ∨ nI k < x then 0 else 1
theorem tEnd1 {K k : Nat} (hk : k ≤ 600) (h1 : ¬ nI K < 0) (h2 : ¬ nI k < nI K) (hK : K ≤ k) : K = tEnd (nI K) k := by
  unfold tEnd
  rw [if_neg (fun q => q.elim h1 h2), nI_clamp (by omega)]
theorem aEnd1 {x : Int32} {k : Nat} (h1 : ¬ x < 0) (h2 : ¬ nI k < x) : 1 = aEnd x k := (if_neg (fun q => q.elim h1 h2)).symm
theorem tEnd0 {x : Int32} {k : Nat} (h : x < 0 ∨ nI k < x) : k = tEnd x k := (if_pos h).symm
theorem aEnd0 {x : Int32} {k : Nat} (h : x < 0 ∨ nI k < x) : 0 = aEnd x k := (if_pos h).symm
theorem eEnd {x : Int32} {k : Nat} (h : x < 0 ∨ ¬ x ≤ nI k) : x < 0 ∨ nI k < x := h.imp id Int32.not_le.mp
abbrev lwK : Type := Nat × (Nat → Nat) × Nat × (Nat → Nat) × (Nat → Nat → Nat) × Nat × (Nat → Nat) × (Nat → Prop)
def gFeed (x1 x2 x3 x4 x5 : Int32) (k : lwK) : lwK := if k.1 + 20 ≤ 600 then (k.1 + 20, qTf k.2.1 k.1 x1 x2 x3 x4 x5, k.2.2) else k
def gEnd (x : Int32) (k : lwK) : lwK := (tEnd x k.1, k.2)
def gRead (k : lwK) : lwK := (0, k.2.1, k.2.2.1, k.2.2.2.1, k.2.2.2.2.1, k.1, k.2.1, fun _ => False)
def gForget (k : lwK) : lwK := (k.1, k.2.1, 0, k.2.2.2)
def qFnd (t : Nat → Nat) (k d : Nat) (yl : Nat → Nat) (cc : Nat → Nat → Nat) : Prop := ∃ j : Nat, j < d ∧ qFd t yl cc 0 k j
noncomputable def gTell (x : Int32) (k : lwK) : lwK := @ite _ (qAcc k.2.1 k.1 x k.2.2.1 k.2.2.2.1 k.2.2.2.2.1 ∧ ¬ qFnd k.2.1 k.1 k.2.2.1 k.2.2.2.1 k.2.2.2.2.1) (Classical.propDecidable _) (0, k.2.1, k.2.2.1 + 1, va_up k.2.2.2.1 k.2.2.1 k.1, va_up k.2.2.2.2.1 k.2.2.1 k.2.1, k.2.2.2.2.2) (0, k.2)
noncomputable def qMk (k : lwK) : Nat := qMM k.2.2.2.2.2.2.1 k.2.2.2.2.2.1 k.2.2.1 k.2.2.2.1 k.2.2.2.2.1
noncomputable def gPin (x y : Int32) (k : lwK) : lwK := @ite _ (qOk x y (qMk k) ∧ qCn k.2.2.2.2.2.2.2 80 < 20) (Classical.propDecidable _) (k.1, k.2.1, k.2.2.1, k.2.2.2.1, k.2.2.2.2.1, k.2.2.2.2.2.1, k.2.2.2.2.2.2.1, qIns k.2.2.2.2.2.2.2 x) k
noncomputable def gLoose (x : Int32) (k : lwK) : lwK := @ite _ (qHas k.2.2.2.2.2.2.2 x) (Classical.propDecidable _) (k.1, k.2.1, k.2.2.1, k.2.2.2.1, k.2.2.2.2.1, k.2.2.2.2.2.1, k.2.2.2.2.2.2.1, qDel k.2.2.2.2.2.2.2 x) k
noncomputable def aLoose (x : Int32) (k : lwK) : Int32 := @ite _ (qHas k.2.2.2.2.2.2.2 x) (Classical.propDecidable _) 1 0
theorem gTell0 {t yl t2 : Nat → Nat} {k d kt : Nat} {cc : Nat → Nat → Nat} {pm : Nat → Prop} {x : Int32} (h : ¬ qAcc t k x d yl cc) : ((0, t, d, yl, cc, kt, t2, pm) : lwK) = gTell x (k, t, d, yl, cc, kt, t2, pm) := (if_neg (fun q => h q.1)).symm
theorem gTell1 {t yl t2 : Nat → Nat} {k d kt : Nat} {cc : Nat → Nat → Nat} {pm : Nat → Prop} {x : Int32} (h : ∃ j : Nat, j < d ∧ qFd t yl cc 0 k j) : ((0, t, d, yl, cc, kt, t2, pm) : lwK) = gTell x (k, t, d, yl, cc, kt, t2, pm) := (if_neg (fun q => q.2 h)).symm
theorem gTell2 {t yl t2 : Nat → Nat} {k d kt : Nat} {cc : Nat → Nat → Nat} {pm : Nat → Prop} {x : Int32} (h : qAcc t k x d yl cc) (h2 : ¬ ∃ j : Nat, j < d ∧ qFd t yl cc 0 k j) : ((0, t, d + 1, va_up yl d k, va_up cc d t, kt, t2, pm) : lwK) = gTell x (k, t, d, yl, cc, kt, t2, pm) := (if_pos ⟨h, h2⟩).symm
theorem gPin0 {t yl t2 : Nat → Nat} {k d kt : Nat} {cc : Nat → Nat → Nat} {pm : Nat → Prop} {x : Int32} {y : Int32} {c n : Nat} (h : ¬ (qOk x y c ∧ n < 20)) (hc : qMM t2 kt d yl cc = c) (hn : qCn pm 80 = n) : ((k, t, d, yl, cc, kt, t2, pm) : lwK) = gPin x y (k, t, d, yl, cc, kt, t2, pm) := by
  subst hc
  subst hn
  exact (if_neg h).symm
theorem gPin1 {t yl t2 : Nat → Nat} {k d kt : Nat} {cc : Nat → Nat → Nat} {pm : Nat → Prop} {x : Int32} {y : Int32} {c n : Nat} (h : qOk x y c) (h2 : n < 20) (hc : qMM t2 kt d yl cc = c) (hn : qCn pm 80 = n) : ((k, t, d, yl, cc, kt, t2, qIns pm x) : lwK) = gPin x y (k, t, d, yl, cc, kt, t2, pm) := by
  subst hc
  subst hn
  exact (if_pos ⟨h, h2⟩).symm
theorem gLoose0 {t yl t2 : Nat → Nat} {k d kt : Nat} {cc : Nat → Nat → Nat} {pm : Nat → Prop} {x : Int32} (h : ¬ qHas pm x) : ((k, t, d, yl, cc, kt, t2, pm) : lwK) = gLoose x (k, t, d, yl, cc, kt, t2, pm) := (if_neg h).symm
theorem gLoose1 {t yl t2 : Nat → Nat} {k d kt : Nat} {cc : Nat → Nat → Nat} {pm : Nat → Prop} {x : Int32} (h : qHas pm x) : ((k, t, d, yl, cc, kt, t2, qDel pm x) : lwK) = gLoose x (k, t, d, yl, cc, kt, t2, pm) := (if_pos h).symm
theorem aLoose0 {t yl t2 : Nat → Nat} {k d kt : Nat} {cc : Nat → Nat → Nat} {pm : Nat → Prop} {x : Int32} (h : ¬ qHas pm x) : 0 = aLoose x (k, t, d, yl, cc, kt, t2, pm) := (if_neg h).symm
theorem aLoose1 {t yl t2 : Nat → Nat} {k d kt : Nat} {cc : Nat → Nat → Nat} {pm : Nat → Prop} {x : Int32} (h : qHas pm x) : 1 = aLoose x (k, t, d, yl, cc, kt, t2, pm) := (if_pos h).symm
theorem gFeed0 {t : Nat → Nat} {k : Nat} {z : Nat × (Nat → Nat) × (Nat → Nat → Nat) × Nat × (Nat → Nat) × (Nat → Prop)} {x1 x2 x3 x4 x5 : Int32} (h : ¬ k + 20 ≤ 600) : ((k, t, z) : lwK) = gFeed x1 x2 x3 x4 x5 (k, t, z) := (if_neg h).symm
theorem gFeed1 {t : Nat → Nat} {k : Nat} {z : Nat × (Nat → Nat) × (Nat → Nat → Nat) × Nat × (Nat → Nat) × (Nat → Prop)} {x1 x2 x3 x4 x5 : Int32} (h : k + 20 ≤ 600) : ((k + 20, qTf t k x1 x2 x3 x4 x5, z) : lwK) = gFeed x1 x2 x3 x4 x5 (k, t, z) := (if_pos h).symm
theorem gEnd0 {t : Nat → Nat} {k K : Nat} {z : Nat × (Nat → Nat) × (Nat → Nat → Nat) × Nat × (Nat → Nat) × (Nat → Prop)} {x : Int32} (h : K = tEnd x k) : ((K, t, z) : lwK) = gEnd x (k, t, z) := by rw [h]; rfl
theorem qMM_0 {t yl : Nat → Nat} {cc : Nat → Nat → Nat} : qMM t 0 0 yl cc = 0 := rfl
def lwX (cB cI cZ : ClassId) (q : Nat) (k : lwK) (w : va_W) : Prop := ∃ (xtp : Nat) (xw : Nat) (xtd : Nat) (xpn : Nat) (xmn : Nat) (xcs : Nat) (xnm : Nat) (xrd : Nat) (xtpa : Nat) (k0 : Nat) (xf : Nat → Int32) (xtl : Nat) (xwa1 : Nat) (xwa2 : Nat) (xwa3 : Nat) (xwa4 : Nat) (xcw : Nat) (xsc : Int32) (xfw1 : Nat → Int32) (xfw2 : Nat → Int32) (xfw3 : Nat → Int32) (xfw4 : Nat → Int32) (xta : Nat) (xkt : Nat) (xft : Nat → Int32) (xlt : Nat) (xta1 : Nat) (xta2 : Nat) (xta3 : Nat) (xd : Nat) (xfd1 : Nat → Int32) (xfd2 : Nat → Int32) (xfd3 : Nat → Int32) (xla : Nat) (xkl : Nat) (xfl : Nat → Int32) (xpa : Nat) (xpc : Nat) (xfp : Nat → Int32) (xma1 : Nat) (xma2 : Nat) (xma3 : Nat) (xma4 : Nat) (xma5 : Nat) (xma6 : Nat) (xma7 : Nat) (xc : Nat) (xcut : Int32) (xfm1 : Nat → Int32) (xfm2 : Nat → Int32) (xfm3 : Nat → Int32) (xfm4 : Nat → Int32) (xfm5 : Nat → Int32) (xfm6 : Nat → Int32) (xfm7 : Nat → Int32) (xca1 : Nat) (xca2 : Nat) (xca3 : Nat) (xca4 : Nat) (xb0 : Nat) (xfc1 : Nat → Int32) (xfc2 : Nat → Int32) (xfc3 : Nat → Int32) (xfc4 : Nat → Int32) (xna1 : Nat) (xna2 : Nat) (xe0 : Nat) (xfn1 : Nat → Int32) (xfn2 : Nat → Int32) (xra1 : Nat) (xra2 : Nat) (xra3 : Nat) (xfr1 : Nat → Int32) (xfr2 : Nat → Int32) (xfr3 : Nat → Int32) (tt : Nat → Nat) (yl : Nat → Nat) (cc : Nat → Nat → Nat) (t2 : Nat → Nat) (pm : Nat → Prop), (k0 ≤ 600) ∧ (xcw ≤ 300) ∧ (xkt ≤ 600) ∧ (xd ≤ 8) ∧ (xkl ≤ 80) ∧ (xc ≤ 80) ∧ (xcut = 0 ∨ xcut = 1) ∧ (xb0 ≤ 30) ∧ (xe0 ≤ 80) ∧ (qT k0 xf tt) ∧ (qC xd xkl xfd1 xfd2 xfl yl cc) ∧ (qT xkt xft t2) ∧ (qWg t2 xkt xcw xfw1 xfw2 xfw3 (qA t2 xkt) (qLn t2 xkt) (qSn t2 xkt)) ∧ (qN t2 xkt = xcw) ∧ (∀ i, i < xcw → qK2 t2 (qA t2 xkt) (qLn t2 xkt) (qSn t2 xkt) xcw i (xfw4 i)) ∧ (qMM t2 xkt xd yl cc = xc) ∧ (xpc ≤ 20) ∧ (qPx xpc xfp pm) ∧ k = (k0, tt, xd, yl, cc, xkt, t2, pm) ∧ w = [(q, .inr (8, [.ref xtp, .ref xw, .ref xtd, .ref xpn, .ref xmn, .ref xcs, .ref xnm, .ref xrd])), (xtp, .inr (5, [.ref xtpa, .int (nI k0)])), (xtpa, .inl (cB, 600, .inl xf)), (xw, .inr (7, [.ref xtl, .ref xwa1, .ref xwa2, .ref xwa3, .ref xwa4, .int (nI xcw), .int xsc])), (xwa1, .inl (cI, 300, .inl xfw1)), (xwa2, .inl (cI, 300, .inl xfw2)), (xwa3, .inl (cI, 300, .inl xfw3)), (xwa4, .inl (cI, 300, .inl xfw4)), (xtl, .inr (5, [.ref xta, .int (nI xkt)])), (xta, .inl (cB, 600, .inl xft)), (xtd, .inr (6, [.ref xlt, .ref xta1, .ref xta2, .ref xta3, .int (nI xd)])), (xta1, .inl (cI, 8, .inl xfd1)), (xta2, .inl (cI, 8, .inl xfd2)), (xta3, .inl (cI, 8, .inl xfd3)), (xlt, .inr (5, [.ref xla, .int (nI xkl)])), (xla, .inl (cB, 80, .inl xfl)), (xpn, .inr (3, [.ref xpa, .int (nI xpc)])), (xpa, .inl (cI, 80, .inl xfp)), (xmn, .inr (1, [.ref xw, .ref xma1, .ref xma2, .ref xma3, .ref xma4, .ref xma5, .ref xma6, .ref xma7, .int (nI xc), .int xcut])), (xma1, .inl (cI, 80, .inl xfm1)), (xma2, .inl (cI, 80, .inl xfm2)), (xma3, .inl (cI, 80, .inl xfm3)), (xma4, .inl (cI, 80, .inl xfm4)), (xma5, .inl (cI, 80, .inl xfm5)), (xma6, .inl (cI, 80, .inl xfm6)), (xma7, .inl (cI, 80, .inl xfm7)), (xcs, .inr (0, [.ref xca1, .ref xca2, .ref xca3, .ref xca4, .int (nI xb0)])), (xca1, .inl (cI, 30, .inl xfc1)), (xca2, .inl (cI, 30, .inl xfc2)), (xca3, .inl (cI, 30, .inl xfc3)), (xca4, .inl (cI, 30, .inl xfc4)), (xnm, .inr (2, [.ref xmn, .ref xna1, .ref xna2, .int (nI xe0)])), (xna1, .inl (cI, 80, .inl xfn1)), (xna2, .inl (cI, 80, .inl xfn2)), (xrd, .inr (4, [.ref xmn, .ref xpn, .ref xcs, .ref xnm, .ref xra1, .ref xra2, .ref xra3])), (xra1, .inl (cI, 80, .inl xfr1)), (xra2, .inl (cI, 80, .inl xfr2)), (xra3, .inl (cZ, 80, .inl xfr3))]
def lw9 (cB cI cZ : ClassId) (q : Nat) (k : lwK) (w : va_W) : Prop := ∃ (b0 : Nat) (b1 : Nat) (k0 : Nat) (tl : Nat) (wn : Nat) (sp : Int32) (b6 : Nat) (b7 : Nat) (b8 : Nat) (b9 : Nat) (dn : Nat) (b11 : Nat) (b12 : Nat) (b13 : Nat) (mn : Nat) (pn : Nat) (db : Int32) (ct : Int32) (b18 : Nat) (b19 : Nat) (b20 : Nat) (b21 : Nat) (b22 : Nat) (b23 : Nat) (b24 : Nat) (b25 : Nat) (b26 : Nat) (b27 : Nat) (b28 : Nat) (b29 : Nat) (b30 : Nat) (qn : Nat) (b32 : Nat) (b33 : Nat) (a_tape : Nat → Int32) (a_tale : Nat → Int32) (a_wordAt : Nat → Int32) (a_wordLong : Nat → Int32) (a_wordSentence : Nat → Int32) (a_isFirst : Nat → Int32) (a_toldLong : Nat → Int32) (a_toldLetter : Nat → Int32) (a_toldSex : Nat → Int32) (a_pinned : Nat → Int32) (a_pinnedTo : Nat → Int32) (a_wordOf : Nat → Int32) (a_kind : Nat → Int32) (a_who : Nat → Int32) (a_fit : Nat → Int32) (a_doubt : Nat → Int32) (a_mentionAt : Nat → Int32) (a_sex : Nat → Int32) (a_joined : Nat → Int32) (a_lastAt : Nat → Int32) (a_lastSentence : Nat → Int32) (a_members : Nat → Int32) (a_names : Nat → Int32) (a_name : Nat → Int32) (o : Nat → Nat) (cn : Nat → Nat) (tt : Nat → Nat) (yl : Nat → Nat) (cc : Nat → Nat → Nat) (t2 : Nat → Nat) (pm : Nat → Prop), (k0 ≤ 600) ∧ (tl ≤ 600) ∧ (wn ≤ 300) ∧ (mW wn tl a_wordAt a_wordLong) ∧ (dn ≤ 8) ∧ (mD dn a_toldLong) ∧ (mn ≤ 80) ∧ (mM mn wn a_wordOf o) ∧ (mA wn mn a_mentionAt o) ∧ (mX mn a_mentionAt o) ∧ (pn ≤ 30) ∧ (mJ pn a_joined) ∧ (mN pn mn mn a_joined a_names a_name cn) ∧ (mH mn pn a_who) ∧ (qn ≤ 20) ∧ (mQ qn a_pinned a_pinnedTo) ∧ (qG k0 a_tape tt) ∧ (qR dn a_toldLong a_toldLetter yl cc) ∧ (qG tl a_tale t2) ∧ (qN t2 tl = wn) ∧ (qWh t2 tl wn a_wordAt a_wordLong (qA t2 tl) (qLn t2 tl)) ∧ (qF9 wn a_isFirst (qSn t2 tl)) ∧ (qMM t2 tl dn yl cc = mn) ∧ (qP9 qn a_pinned pm) ∧ k = (k0, tt, dn, yl, cc, tl, t2, pm) ∧ w = [(q, .inr (9, [.ref b0, .ref b1, .int (nI k0), .int (nI tl), .int (nI wn), .int sp, .ref b6, .ref b7, .ref b8, .ref b9, .int (nI dn), .ref b11, .ref b12, .ref b13, .int (nI mn), .int (nI pn), .int db, .int ct, .ref b18, .ref b19, .ref b20, .ref b21, .ref b22, .ref b23, .ref b24, .ref b25, .ref b26, .ref b27, .ref b28, .ref b29, .ref b30, .int (nI qn), .ref b32, .ref b33])), (b0, .inl (cI, 600, .inl a_tape)), (b1, .inl (cI, 600, .inl a_tale)), (b6, .inl (cI, 301, .inl a_wordAt)), (b7, .inl (cI, 301, .inl a_wordLong)), (b8, .inl (cI, 301, .inl a_wordSentence)), (b9, .inl (cZ, 301, .inl a_isFirst)), (b11, .inl (cI, 8, .inl a_toldLong)), (b12, .inl (cI, 80, .inl a_toldLetter)), (b13, .inl (cI, 8, .inl a_toldSex)), (b32, .inl (cI, 20, .inl a_pinned)), (b33, .inl (cI, 20, .inl a_pinnedTo)), (b18, .inl (cI, 80, .inl a_wordOf)), (b19, .inl (cI, 80, .inl a_kind)), (b20, .inl (cI, 80, .inl a_who)), (b21, .inl (cI, 80, .inl a_fit)), (b22, .inl (cZ, 80, .inl a_doubt)), (b23, .inl (cI, 301, .inl a_mentionAt)), (b24, .inl (cI, 30, .inl a_sex)), (b25, .inl (cI, 30, .inl a_joined)), (b26, .inl (cI, 30, .inl a_lastAt)), (b27, .inl (cI, 30, .inl a_lastSentence)), (b28, .inl (cI, 30, .inl a_members)), (b29, .inl (cI, 30, .inl a_names)), (b30, .inl (cI, 2400, .inl a_name))]
