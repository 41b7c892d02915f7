theorem qCn_ext {M N : Nat → Prop} : ∀ {n : Nat}, (∀ z, z < n → (M z ↔ N z)) → qCn M n = qCn N n
  | 0, _ => rfl
  | n + 1, h => by
    have e := qCn_ext (n := n) (fun z hz => h z (by omega))
    by_cases q : M n
    · rw [qCn_y q, qCn_y ((h n (by omega)).mp q), e]
    · rw [qCn_n q, qCn_n (fun w => q ((h n (by omega)).mpr w)), e]
theorem qCn_one {M N : Nat → Prop} {j : Nat} (hM : M j) (hN : ¬ N j) : ∀ {n : Nat}, j < n → (∀ z, z < n → z ≠ j → (M z ↔ N z)) → qCn M n = qCn N n + 1
  | 0, hj, _ => absurd hj (Nat.not_lt_zero j)
  | n + 1, hj, h => by
    by_cases e : n = j
    · have e2 : qCn M n = qCn N n := qCn_ext (fun z hz => h z (by omega) (by omega))
      rw [qCn_y (show M n by rw [e]; exact hM), qCn_n (show ¬ N n by rw [e]; exact hN), e2]
    · have ih := qCn_one hM hN (n := n) (by omega) (fun z hz => h z (by omega))
      by_cases q : M n
      · rw [qCn_y q, qCn_y ((h n (by omega) e).mp q), ih]
      · rw [qCn_n q, qCn_n (fun w => q ((h n (by omega) e).mpr w)), ih]
theorem qCn_pos {M : Nat → Prop} {j n : Nat} (hM : M j) (hj : j < n) : 1 ≤ qCn M n := by
  have q := qCn_one (M := M) (N := fun z => M z ∧ z ≠ j) hM (fun w => w.2 rfl) hj (fun z _ hz => ⟨fun w => ⟨w, hz⟩, fun w => w.1⟩)
  omega
theorem qCn_F : ∀ n : Nat, qCn (fun _ => False) n = 0
  | 0 => rfl
  | n + 1 => by rw [qCn_n (fun w => w), qCn_F n]
def qIns (pm : Nat → Prop) (x : Int32) : Nat → Prop := fun z => pm z ∨ (z < 80 ∧ nI z = x)
def qDel (pm : Nat → Prop) (x : Int32) : Nat → Prop := fun z => pm z ∧ ¬ nI z = x
def qHas (pm : Nat → Prop) (x : Int32) : Prop := ∃ z, z < 80 ∧ pm z ∧ nI z = x
def qOk (x y : Int32) (c : Nat) : Prop := ∃ j k : Nat, x = nI j ∧ y = nI k ∧ k < j ∧ j < c
theorem nI80 {a b : Nat} (ha : a < 80) (hb : b < 80) (h : nI a = nI b) : a = b := (nI_eq (by omega) (by omega)).mp h
theorem qIns_ne {pm : Nat → Prop} {z j : Nat} (hz : z < 80) (hj : j < 80) (h : z ≠ j) : qIns pm (nI j) z ↔ pm z := ⟨fun q => q.elim id (fun w => absurd (nI80 hz hj w.2) h), fun q => Or.inl q⟩
theorem qDel_ne {pm : Nat → Prop} {z j : Nat} (hz : z < 80) (hj : j < 80) (h : z ≠ j) : pm z ↔ qDel pm (nI j) z := ⟨fun q => ⟨q, fun w => h (nI80 hz hj w)⟩, fun q => q.1⟩
theorem qIns_new {pm : Nat → Prop} {j : Nat} (hj : j < 80) (h : ¬ pm j) : qCn (qIns pm (nI j)) 80 = qCn pm 80 + 1 := qCn_one (Or.inr ⟨hj, rfl⟩) h hj (fun z hz hzj => qIns_ne hz hj hzj)
theorem qIns_old {pm : Nat → Prop} {j : Nat} (hj : j < 80) (h : pm j) : qCn (qIns pm (nI j)) 80 = qCn pm 80 := qCn_ext (fun z hz => by
  by_cases e : z = j
  · rw [e]
    exact ⟨fun _ => h, fun q => Or.inl q⟩
  · exact qIns_ne hz hj e)
theorem qDel_cn {pm : Nat → Prop} {j : Nat} (hj : j < 80) (h : pm j) : qCn pm 80 = qCn (qDel pm (nI j)) 80 + 1 := qCn_one h (fun q => q.2 rfl) hj (fun z hz hzj => qDel_ne hz hj hzj)
def qPx (pc : Nat) (fp : Nat → Int32) (pm : Nat → Prop) : Prop := qCn pm 80 = pc ∧ ∀ j, j < 80 → (fp j = -1 ↔ ¬ pm j)
theorem qPx_0 {g : Nat → Int32} (h : ∀ j, j < 80 → g j = -1) : qPx 0 g (fun _ => False) := ⟨qCn_F 80, fun j hj => ⟨fun _ => id, fun _ => h j hj⟩⟩
theorem qPx_arr {fp : Nat → Int32} {pm : Nat → Prop} {j : Nat} {v : Int32} (h : ∀ j, j < 80 → (fp j = -1 ↔ ¬ pm j)) (hj : j < 80) (hv : ¬ v = -1) : ∀ i, i < 80 → (upd fp j v i = -1 ↔ ¬ qIns pm (nI j) i) := fun i hi => by
  by_cases e : i = j
  · rw [e, pk_us]
    exact ⟨fun q => absurd q hv, fun q => absurd (Or.inr ⟨hj, rfl⟩) q⟩
  · rw [pk_un e, h i hi, qIns_ne hi hj e]
theorem qPx_new {pc j : Nat} {fp : Nat → Int32} {pm : Nat → Prop} {v : Int32} (h : qPx pc fp pm) (hj : j < 80) (hv : ¬ v = -1) (hf : fp j = -1) : qPx (pc + 1) (upd fp j v) (qIns pm (nI j)) :=
  ⟨by rw [qIns_new hj ((h.2 j hj).mp hf), h.1], qPx_arr h.2 hj hv⟩
theorem qPx_old {pc j : Nat} {fp : Nat → Int32} {pm : Nat → Prop} {v : Int32} (h : qPx pc fp pm) (hj : j < 80) (hv : ¬ v = -1) (hf : ¬ fp j = -1) : qPx pc (upd fp j v) (qIns pm (nI j)) :=
  ⟨by rw [qIns_old hj (Classical.byContradiction (fun q => hf ((h.2 j hj).mpr q))), h.1], qPx_arr h.2 hj hv⟩
theorem qPx_del {pc j : Nat} {fp : Nat → Int32} {pm : Nat → Prop} (h : qPx pc fp pm) (hj : j < 80) (hp : pm j) : 1 ≤ pc ∧ qPx (pc - 1) (upd fp j (-1)) (qDel pm (nI j)) := by
  have q := qDel_cn hj hp
  rw [h.1] at q
  refine ⟨by omega, by omega, fun i hi => ?_⟩
  by_cases e : i = j
  · rw [e, pk_us]
    exact ⟨fun _ w => w.2 rfl, fun _ => rfl⟩
  · rw [pk_un e, h.2 i hi]
    exact ⟨fun w z => w z.1, fun w z => w ((qDel_ne hi hj e).mp z)⟩
theorem qIx {x : Int32} {c : Nat} (h1 : ¬ x < 0) (h2 : ¬ nI c ≤ x) (hc : c ≤ 80) : ∃ j : Nat, j < c ∧ x = nI j := by
  obtain ⟨j, h3, h4, -⟩ := pk_mu h1 h2 (by omega)
  exact ⟨j, h3, h4⟩
theorem qOk_n1 {x y : Int32} {c : Nat} (h : x < 0 ∨ nI c ≤ x) (hc : c ≤ 80) : ¬ qOk x y c := fun ⟨j, k, e1, e2, h1, h2⟩ => by
  subst e1
  rcases h with h | h
  · exact nI_pos (by omega) h
  · have := (nI_leI (by omega) (by omega)).mp h
    omega
theorem qOk_n2 {x y : Int32} {c : Nat} (h : y < 0 ∨ nI c ≤ y) (hc : c ≤ 80) : ¬ qOk x y c := fun ⟨j, k, e1, e2, h1, h2⟩ => by
  subst e2
  rcases h with h | h
  · exact nI_pos (by omega) h
  · have := (nI_leI (by omega) (by omega)).mp h
    omega
theorem qOk_n3 {j k c : Nat} (h : nI j ≤ nI k) (hj : j < 80) (hk : k < 80) (hc : c ≤ 80) : ¬ qOk (nI j) (nI k) c := fun ⟨a, b, e1, e2, h1, h2⟩ => by
  have ea := nI80 hj (by omega) e1
  have eb := nI80 hk (by omega) e2
  have := (nI_leI (by omega) (by omega)).mp h
  omega
theorem qHas_no {pm : Nat → Prop} {j : Nat} (hj : j < 80) (h : ¬ pm j) : ¬ qHas pm (nI j) := fun ⟨z, h1, h2, h3⟩ => h (by rw [← nI80 h1 hj h3]; exact h2)
theorem qTg {x : Int32} {f : Nat → Int32} (h1 : ¬ x < 0) (h2 : ¬ 80 ≤ x) : ∃ j : Nat, j < 80 ∧ x = nI j ∧ f x.toNatClampNeg = f j := by
  obtain ⟨j, h3, h4⟩ := qIx (c := 80) h1 h2 (by omega)
  refine ⟨j, h3, h4, ?_⟩
  rw [h4, nI_clamp (by omega)]
theorem qTg_n {x : Int32} (h : x < 0 ∨ 80 ≤ x) : ¬ ∃ j : Nat, j < 80 ∧ x = nI j := fun ⟨j, h1, h2⟩ => by
  subst h2
  rcases h with h | h
  · exact nI_pos (by omega) h
  · have := (nI_leI (a := 80) (by decide) (by omega)).mp h
    omega
def qP9 (qn : Nat) (f : Nat → Int32) (pm : Nat → Prop) : Prop := qCn pm 80 = qn ∧ (∀ i, i < qn → ∃ j, j < 80 ∧ f i = nI j ∧ pm j) ∧ (∀ j, j < 80 → pm j → ∃ i, i < qn ∧ f i = nI j) ∧ ∀ a b, a < qn → b < qn → f a = f b → a = b
theorem qP9_0 {f : Nat → Int32} : qP9 0 f (fun _ => False) := ⟨qCn_F 80, fun i hi => absurd hi (Nat.not_lt_zero i), fun _ _ h => h.elim, fun a b ha => absurd ha (Nat.not_lt_zero a)⟩
theorem qP9_y {qn i : Nat} {f : Nat → Int32} {pm : Nat → Prop} {x : Int32} (h : qP9 qn f pm) (hi : i < qn) (e : f i = x) : ∃ j, j < 80 ∧ x = nI j ∧ pm j := by
  obtain ⟨j, h1, h2, h3⟩ := h.2.1 i hi
  exact ⟨j, h1, e.symm.trans h2, h3⟩
theorem qP9_n {qn : Nat} {f : Nat → Int32} {pm : Nat → Prop} {x : Int32} (h : qP9 qn f pm) (hn : ∀ i, i < qn → ¬ f i = x) : ¬ qHas pm x := fun ⟨z, h1, h2, h3⟩ => by
  obtain ⟨i, h4, h5⟩ := h.2.2.1 z h1 h2
  exact hn i h4 (h5.trans h3)
theorem qP9_new {qn j : Nat} {f : Nat → Int32} {pm : Nat → Prop} (h : qP9 qn f pm) (hj : j < 80) (hn : ∀ i, i < qn → ¬ f i = nI j) : qP9 (qn + 1) (upd f qn (nI j)) (qIns pm (nI j)) := by
  have hpj : ¬ pm j := fun q => by
    obtain ⟨i, h4, h5⟩ := h.2.2.1 j hj q
    exact hn i h4 h5
  refine ⟨by rw [qIns_new hj hpj, h.1], fun i hi => ?_, fun z hz hp => ?_, fun a b ha hb e => ?_⟩
  · by_cases q : i = qn
    · rw [q, pk_us]
      exact ⟨j, hj, rfl, Or.inr ⟨hj, rfl⟩⟩
    · rw [pk_un q]
      obtain ⟨z, h1, h2, h3⟩ := h.2.1 i (by omega)
      exact ⟨z, h1, h2, Or.inl h3⟩
  · by_cases q : z = j
    · exact ⟨qn, by omega, by rw [pk_us, q]⟩
    · obtain ⟨i, h4, h5⟩ := h.2.2.1 z hz ((qIns_ne hz hj q).mp hp)
      exact ⟨i, by omega, by rw [pk_un (by omega)]; exact h5⟩
  · by_cases qa : a = qn
    · by_cases qb : b = qn
      · omega
      · rw [qa, pk_us, pk_un qb] at e
        exact absurd e.symm (hn b (by omega))
    · by_cases qb : b = qn
      · rw [qb, pk_us, pk_un qa] at e
        exact absurd e (hn a (by omega))
      · rw [pk_un qa, pk_un qb] at e
        exact h.2.2.2 a b (by omega) (by omega) e
theorem qUpd_same {f : Nat → Int32} {i : Nat} {v : Int32} (e : f i = v) : upd f i v = f := funext (fun q => by
  by_cases z : q = i
  · rw [z, pk_us, e]
  · rw [pk_un z])
theorem qP9_old {qn i j : Nat} {f : Nat → Int32} {pm : Nat → Prop} (h : qP9 qn f pm) (hj : j < 80) (hi : i < qn) (e : f i = nI j) : qP9 qn (upd f i (nI j)) pm ∧ qP9 qn (upd f i (nI j)) (qIns pm (nI j)) := by
  rw [qUpd_same e]
  obtain ⟨z, h1, h2, h3⟩ := h.2.1 i hi
  have hpj : pm j := by
    have ez : z = j := nI80 h1 hj (h2.symm.trans e)
    rw [← ez]
    exact h3
  refine ⟨h, by rw [qIns_old hj hpj, h.1], fun a ha => ?_, fun z hz hp => ?_, h.2.2.2⟩
  · obtain ⟨z, h1, h2, h3⟩ := h.2.1 a ha
    exact ⟨z, h1, h2, Or.inl h3⟩
  · by_cases q : z = j
    · exact h.2.2.1 z hz (by rw [q]; exact hpj)
    · exact h.2.2.1 z hz ((qIns_ne hz hj q).mp hp)
theorem qP9_del {qn i1 j : Nat} {f g : Nat → Int32} {pm : Nat → Prop} (h : qP9 qn f pm) (hj : j < 80) (hi : i1 < qn) (e : f i1 = nI j) (hp : pm j) (s1 : ∀ q, q < i1 → g q = f q) (s2 : ∀ q, i1 ≤ q → q < qn - 1 → g q = f (q + 1)) : qP9 (qn - 1) g (qDel pm (nI j)) := by
  have hc := qDel_cn hj hp
  rw [h.1] at hc
  have key : ∀ a, a < qn - 1 → ∃ b, b < qn ∧ b ≠ i1 ∧ g a = f b ∧ (b = a ∨ b = a + 1) ∧ (b = a ↔ a < i1) := fun a ha => by
    rcases Nat.lt_or_ge a i1 with q | q
    · exact ⟨a, by omega, by omega, s1 a q, Or.inl rfl, ⟨fun _ => q, fun _ => rfl⟩⟩
    · exact ⟨a + 1, by omega, by omega, s2 a q ha, Or.inr rfl, ⟨fun w => by omega, fun w => by omega⟩⟩
  refine ⟨by omega, fun a ha => ?_, fun z hz hpz => ?_, fun a b ha hb eab => ?_⟩
  · obtain ⟨b, h1, h2, h3, -⟩ := key a ha
    obtain ⟨z, h4, h5, h6⟩ := h.2.1 b h1
    refine ⟨z, h4, h3.trans h5, h6, fun w => h2 (h.2.2.2 b i1 h1 hi ?_)⟩
    rw [h5, e, w]
  · obtain ⟨i, h4, h5⟩ := h.2.2.1 z hz hpz.1
    have hne : i ≠ i1 := fun w => hpz.2 (by rw [← h5, w, e])
    rcases Nat.lt_or_ge i i1 with q | q
    · exact ⟨i, by omega, by rw [s1 i q]; exact h5⟩
    · refine ⟨i - 1, by omega, ?_⟩
      rw [s2 (i - 1) (by omega) (by omega), show i - 1 + 1 = i by omega]
      exact h5
  · obtain ⟨a2, h1, h2, h3, h4, h5⟩ := key a ha
    obtain ⟨b2, h6, h7, h8, h9, h10⟩ := key b hb
    have e2 : a2 = b2 := h.2.2.2 a2 b2 h1 h6 (h3.symm.trans (eab.trans h8))
    rcases h4 with q | q
    · rcases h9 with w | w
      · omega
      · have z1 := h5.mp q
        have z2 : ¬ b < i1 := fun v => by
          have := h10.mpr v
          omega
        omega
    · rcases h9 with w | w
      · have z1 := h10.mp w
        have z2 : ¬ a < i1 := fun v => by
          have := h5.mpr v
          omega
        omega
      · omega
theorem qSh2 {f g : Nat → Int32} {i1 i : Nat} (h2 : ∀ q, i1 ≤ q → q < i → g q = f (q + 1)) (h3 : ∀ q, i ≤ q → g q = f q) : ∀ q, i1 ≤ q → q < i + 1 → upd g i (g (i + 1)) q = f (q + 1) := fun q h4 h5 => by
  by_cases e : q = i
  · rw [e, pk_us]
    exact h3 (i + 1) (by omega)
  · rw [pk_un e]
    exact h2 q h4 (by omega)
theorem qOk_m1 {x y : Int32} {c : Nat} (h : x < 0 ∨ nI c - 1 < x) (hc : c ≤ 80) : ¬ qOk x y c := fun ⟨j, k, e1, e2, h1, h2⟩ => by
  subst e1
  rcases h with h | h
  · exact nI_pos (by omega) h
  · rw [show (nI c - 1 : Int32) = nI (c - 1) from pk_sub (b := 1) (by omega)] at h
    exact nI_nlt (by omega) (by omega) h
theorem qOk_m2 {y : Int32} {j c : Nat} (h : y < 0 ∨ nI j - 1 < y) (hj : j < 80) (hc : c ≤ 80) : ¬ qOk (nI j) y c := fun ⟨a, k, e1, e2, h1, h2⟩ => by
  subst e2
  have ea := nI80 hj (by omega) e1
  rcases h with h | h
  · exact nI_pos (by omega) h
  · rw [show (nI j - 1 : Int32) = nI (j - 1) from pk_sub (b := 1) (by omega)] at h
    exact nI_nlt (by omega) (by omega) h
