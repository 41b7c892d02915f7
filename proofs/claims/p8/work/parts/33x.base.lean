theorem mS_ge {fj : Nat → Int32} {c : Nat → Nat} : ∀ {n p : Nat}, p < n → fj p = -1 → c p ≤ mS fj c n
  | 0, p, h, _ => absurd h (Nat.not_lt_zero p)
  | n + 1, p, h, e => by
    show c p ≤ mS fj c n + (if fj n = -1 then c n else 0)
    by_cases q : p = n
    · subst q
      rw [if_pos e]
      omega
    · have := mS_ge (c := c) (n := n) (by omega : p < n) e
      omega
theorem mS_cong {fj fj' : Nat → Int32} {c c' : Nat → Nat} : ∀ {n : Nat}, (∀ p, p < n → fj p = fj' p ∧ c p = c' p) → mS fj c n = mS fj' c' n
  | 0, _ => rfl
  | n + 1, h => by
    show mS fj c n + _ = mS fj' c' n + _
    rw [mS_cong (n := n) (fun p hp => h p (by omega)), (h n (by omega)).1, (h n (by omega)).2]
theorem mS_up {fj : Nat → Int32} {c : Nat → Nat} {p v : Nat} : ∀ {n : Nat}, p < n → fj p = -1 → mS fj (va_up c p v) n + c p = mS fj c n + v
  | 0, h, _ => absurd h (Nat.not_lt_zero p)
  | n + 1, h, e => by
    show mS fj (va_up c p v) n + (if fj n = -1 then va_up c p v n else 0) + c p = mS fj c n + (if fj n = -1 then c n else 0) + v
    by_cases q : p = n
    · subst q
      rw [if_pos e, if_pos e, va_up_self, mS_cong (n := p) (fj' := fj) (c' := c) (fun a ha => ⟨rfl, va_up_ne _ _ (by omega)⟩)]
      omega
    · have := mS_up (c := c) (v := v) (n := n) (by omega : p < n) e
      rw [va_up_ne _ _ (Ne.symm q)]
      omega
theorem mN_mono {pn mn J : Nat} {fj fn nm : Nat → Int32} {c : Nat → Nat} (h : mN pn mn J fj fn nm c) : mN pn mn (J + 1) fj fn nm c := ⟨h.1, h.2.1, by have := h.2.2; omega⟩
theorem mN_come {pn mn J : Nat} {fj fn nm : Nat → Int32} {c : Nat → Nat} (h : mN pn mn J fj fn nm c) : mN (pn + 1) mn J (upd fj pn (-1)) (upd fn pn 0) nm (va_up c pn 0) := by
  refine ⟨fun p hp => ?_, fun p hp i hi => ?_, ?_⟩
  · by_cases e : p = pn
    · rw [e, pk_us, va_up_self]
      exact ⟨rfl, by omega⟩
    · rw [pk_un e, va_up_ne _ _ e]
      exact h.1 p (by omega)
  · by_cases e : p = pn
    · rw [e, va_up_self] at hi
      omega
    · rw [va_up_ne _ _ e] at hi
      exact h.2.1 p (by omega) i hi
  · show mS _ _ pn + _ ≤ J
    rw [pk_us, if_pos rfl, va_up_self, mS_cong (n := pn) (fj' := fj) (c' := c) (fun a ha => ⟨pk_un (by omega), va_up_ne _ _ (by omega)⟩)]
    exact h.2.2
theorem mN_put {pn mn J p j : Nat} {fj fn nm : Nat → Int32} {c : Nat → Nat} (h : mN pn mn J fj fn nm c) (hp : p < pn) (e : fj p = -1) (hc : c p < 80) (hj : j < mn) : mN pn mn (J + 1) fj (upd fn p (nI (c p + 1))) (upd nm (80 * p + c p) (nI j)) (va_up c p (c p + 1)) := by
  refine ⟨fun q hq => ?_, fun q hq i hi => ?_, ?_⟩
  · by_cases z : q = p
    · rw [z, pk_us, va_up_self]
      exact ⟨rfl, by omega⟩
    · rw [pk_un z, va_up_ne _ _ z]
      exact h.1 q hq
  · by_cases z : q = p
    · rw [z, va_up_self] at hi
      by_cases y : i = c p
      · rw [z, y, pk_us]
        exact ⟨j, hj, rfl⟩
      · rw [pk_un (by omega)]
        exact h.2.1 q hq i (by rw [z]; omega)
    · rw [va_up_ne _ _ z] at hi
      have h80 := (h.1 q hq).2
      rw [pk_un (by omega)]
      exact h.2.1 q hq i hi
  · have h1 := mS_up (fj := fj) (c := c) (v := c p + 1) hp e
    have h2 := h.2.2
    omega
theorem mN_lt {pn mn J p : Nat} {fj fn nm : Nat → Int32} {c : Nat → Nat} (h : mN pn mn J fj fn nm c) (hp : p < pn) (e : fj p = -1) : c p ≤ J := Nat.le_trans (mS_ge hp e) h.2.2
theorem mJ_come {pn : Nat} {f : Nat → Int32} (h : mJ pn f) : mJ (pn + 1) (upd f pn (-1)) := fun p hp => by
  by_cases e : p = pn
  · rw [e, pk_us]
    exact Or.inl rfl
  · rw [pk_un e]
    exact h p (by omega)
theorem nI_m1 {a : Nat} (h : a < 2 ^ 31) (e : nI a = -1) : False := nI_pos h (by rw [e]; decide)
