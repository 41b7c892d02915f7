def mB (pn mn : Nat) (fn nm : Nat → Int32) (c : Nat → Nat) : Prop := (∀ p, p < pn → fn p = nI (c p) ∧ c p ≤ 80) ∧ (∀ p, p < pn → ∀ i, i < c p → ∃ j : Nat, j < mn ∧ nm (80 * p + i) = nI j)
def mX (mn : Nat) (f : Nat → Int32) (o : Nat → Nat) : Prop := ∀ j, j < mn → f (o j) = nI j
def mQ (qn : Nat) (fp ft : Nat → Int32) : Prop := ∀ i, i < qn → ∃ j k : Nat, fp i = nI j ∧ ft i = nI k ∧ k < j ∧ j < 80
theorem mM_inv {mn wn a b : Nat} {f : Nat → Int32} {o : Nat → Nat} (h : mM mn wn f o) (ha : a < mn) (hb : b < mn) (e : o a < o b) : a < b := by
  rcases Nat.lt_or_ge a b with q | q
  · exact q
  · rcases Nat.eq_or_lt_of_le q with z | z
    · rw [z] at e
      omega
    · have := h.2 b a z ha
      omega
theorem mDn2 {w : Nat} (h : 2 ≤ w) : nI w + (-2) = nI (w - 2) := by
  rw [← pk_sub (b := 2) h, Int32.sub_eq_add_neg]
  rfl
theorem mB_0 {pn mn J b : Nat} {fj fn nm : Nat → Int32} {c : Nat → Nat} (h : mN pn mn J fj fn nm c) : mB pn mn fn nm (va_up c b (c b + 0)) := by
  have e : va_up c b (c b + 0) = c := by
    funext p
    by_cases q : p = b
    · rw [q, va_up_self]
      rfl
    · rw [va_up_ne _ _ q]
  rw [e]
  exact ⟨h.1, h.2.1⟩
theorem mB_at {pn mn a b v : Nat} {fn nm : Nat → Int32} {c : Nat → Nat} (h : mB pn mn fn nm (va_up c b v)) (ha : a < pn) (hab : a ≠ b) : fn a = nI (c a) ∧ c a ≤ 80 ∧ ∀ i, i < c a → ∃ j : Nat, j < mn ∧ nm (80 * a + i) = nI j := by
  have h1 := h.1 a ha
  have h2 := h.2 a ha
  rw [va_up_ne _ _ hab] at h1 h2
  exact ⟨h1.1, h1.2, h2⟩
theorem mB_to {pn mn b v : Nat} {fn nm : Nat → Int32} {c : Nat → Nat} (h : mB pn mn fn nm (va_up c b v)) (hb : b < pn) : fn b = nI v := by
  have h1 := (h.1 b hb).1
  rw [va_up_self] at h1
  exact h1
theorem mB_put {pn mn b i j : Nat} {fn nm : Nat → Int32} {c : Nat → Nat} (h : mB pn mn fn nm (va_up c b (c b + i))) (hb : b < pn) (hc : c b + i < 80) (hj : j < mn) : mB pn mn (upd fn b (nI (c b + i + 1))) (upd nm (80 * b + (c b + i)) (nI j)) (va_up c b (c b + (i + 1))) := by
  refine ⟨fun q hq => ?_, fun q hq k hk => ?_⟩
  · by_cases z : q = b
    · rw [z, pk_us, va_up_self]
      exact ⟨rfl, by omega⟩
    · have h1 := h.1 q hq
      rw [va_up_ne _ _ z] at h1
      rw [pk_un z, va_up_ne _ _ z]
      exact h1
  · by_cases z : q = b
    · rw [z, va_up_self] at hk
      by_cases y : k = c b + i
      · rw [z, y, pk_us]
        exact ⟨j, hj, rfl⟩
      · rw [pk_un (by omega)]
        exact h.2 q hq k (by rw [z, va_up_self]; omega)
    · have h1 := (h.1 q hq).2
      have h2 := h.2 q hq
      rw [va_up_ne _ _ z] at hk h1 h2
      rw [pk_un (by omega)]
      exact h2 k hk
theorem mN_join {pn mn J a b i : Nat} {fj fn nm g1 g2 : Nat → Int32} {c : Nat → Nat} (h : mN pn mn J fj fn nm c) (hB : mB pn mn g1 g2 (va_up c b (c b + i))) (hi : i = c a) (hba : b < a) (ha : a < pn) (ea : fj a = -1) (eb : fj b = -1) (hpn : pn ≤ 30) : mN pn mn J (upd fj a (nI b)) g1 g2 (va_up c b (c b + c a)) := by
  rw [hi] at hB
  refine ⟨hB.1, hB.2, ?_⟩
  rw [mS_join (fun q => nI_m1 (by omega) q) ha (by omega) (by omega) ea eb]
  exact h.2.2
theorem mN_two {pn mn J a b : Nat} {fj fn nm : Nat → Int32} {c : Nat → Nat} (h : mN pn mn J fj fn nm c) (hba : b < a) (ha : a < pn) (ea : fj a = -1) (eb : fj b = -1) : c b + c a ≤ J := by
  have h1 := mS_two (c := c) (n := pn) ha (by omega : b < pn) (by omega) ea eb
  have h2 := h.2.2
  omega
theorem mH_mono {jn pn pn' : Nat} {f : Nat → Int32} (h : mH jn pn f) (hp : pn ≤ pn') : mH jn pn' f := fun j hj => by
  rcases h j hj with q | ⟨p, q1, q2⟩
  · exact Or.inl q
  · exact Or.inr ⟨p, by omega, q2⟩
theorem mH_put {jn pn : Nat} {f : Nat → Int32} {v : Int32} (h : mH jn pn f) (hv : v = -1 ∨ ∃ p : Nat, p < pn ∧ v = nI p) : mH (jn + 1) pn (upd f jn v) := fun j hj => by
  by_cases e : j = jn
  · rw [e, pk_us]
    exact hv
  · rw [pk_un e]
    exact h j (by omega)
theorem mH_0 {pn : Nat} {f : Nat → Int32} : mH 0 pn f := fun j hj => absurd hj (Nat.not_lt_zero j)
theorem mJ_0 {f : Nat → Int32} : mJ 0 f := fun j hj => absurd hj (Nat.not_lt_zero j)
theorem mN_0 {mn : Nat} {fj fn nm : Nat → Int32} {c : Nat → Nat} : mN 0 mn 0 fj fn nm c := ⟨fun j hj => absurd hj (Nat.not_lt_zero j), fun j hj => absurd hj (Nat.not_lt_zero j), Nat.le_refl 0⟩
theorem mD_0 {f : Nat → Int32} : mD 0 f := fun j hj => absurd hj (Nat.not_lt_zero j)
theorem mQ_0 {f g : Nat → Int32} : mQ 0 f g := fun j hj => absurd hj (Nat.not_lt_zero j)
theorem mX_0 {f : Nat → Int32} {o : Nat → Nat} : mX 0 f o := fun j hj => absurd hj (Nat.not_lt_zero j)
theorem mX_skip {k i : Nat} {f g : Nat → Int32} {o : Nat → Nat} (h : mX k f o) (hM : mM k i g o) : mX k (upd f i (-1)) o := fun j hj => by
  have := (hM.1 j hj).2
  rw [pk_un (by omega)]
  exact h j hj
theorem mX_add {k i : Nat} {f g : Nat → Int32} {o : Nat → Nat} (h : mX k f o) (hM : mM k i g o) : mX (k + 1) (upd (upd f i (-1)) i (nI k)) (va_up o k i) := fun j hj => by
  by_cases e : j = k
  · rw [e, va_up_self, pk_us]
  · have := (hM.1 j (by omega)).2
    rw [va_up_ne _ _ e, pk_un (by omega), pk_un (by omega)]
    exact h j (by omega)
theorem mQ_use {qn i j : Nat} {fp ft : Nat → Int32} (h : mQ qn fp ft) (hi : i < qn) (hj : j < 80) (e : fp i = nI j) : ∃ k : Nat, ft i = nI k ∧ k < j := by
  obtain ⟨j1, k, e1, e2, h1, h2⟩ := h i hi
  have := (nI_eq (a := j1) (b := j) (by omega) (by omega)).mp (e1.symm.trans e)
  exact ⟨k, e2, by omega⟩
theorem mQ_put {qn i j k : Nat} {fp ft : Nat → Int32} (h : mQ qn fp ft) (hj : j < 80) (hk : k < j) : mQ qn (upd fp i (nI j)) (upd ft i (nI k)) := fun p hp => by
  by_cases e : p = i
  · rw [e, pk_us, pk_us]
    exact ⟨j, k, rfl, rfl, hk, hj⟩
  · rw [pk_un e, pk_un e]
    exact h p hp
theorem mQ_add {qn j k : Nat} {fp ft : Nat → Int32} (h : mQ qn fp ft) (hj : j < 80) (hk : k < j) : mQ (qn + 1) (upd fp qn (nI j)) (upd ft qn (nI k)) := fun p hp => by
  by_cases e : p = qn
  · rw [e, pk_us, pk_us]
    exact ⟨j, k, rfl, rfl, hk, hj⟩
  · rw [pk_un e, pk_un e]
    exact h p (by omega)
theorem mQ_down {qn : Nat} {fp ft : Nat → Int32} (h : mQ (qn + 1) fp ft) : mQ qn fp ft := fun p hp => h p (by omega)
theorem mQ_move {qn i : Nat} {fp ft : Nat → Int32} (h : mQ (qn + 1) fp ft) (hi : i < qn) : mQ (qn + 1) (upd fp i (fp (i + 1))) (upd ft i (ft (i + 1))) := fun p hp => by
  by_cases e : p = i
  · rw [e, pk_us, pk_us]
    exact h (i + 1) (by omega)
  · rw [pk_un e, pk_un e]
    exact h p hp
theorem mD_put {dn i Y : Nat} {f : Nat → Int32} (h : mD dn f) (hY : Y ≤ 10) : mD dn (upd f i (nI Y)) := fun p hp => by
  by_cases e : p = i
  · rw [e, pk_us]
    exact ⟨Y, rfl, hY⟩
  · rw [pk_un e]
    exact h p hp
theorem mD_add {dn Y : Nat} {f : Nat → Int32} (h : mD dn f) (hY : Y ≤ 10) : mD (dn + 1) (upd f dn (nI Y)) := fun p hp => by
  by_cases e : p = dn
  · rw [e, pk_us]
    exact ⟨Y, rfl, hY⟩
  · rw [pk_un e]
    exact h p (by omega)
