theorem mS_off {fj : Nat → Int32} {c : Nat → Nat} {p : Nat} {x : Int32} (hx : ¬ x = -1) : ∀ {n : Nat}, p < n → fj p = -1 → mS (upd fj p x) c n + c p = mS fj c n
  | 0, h, _ => absurd h (Nat.not_lt_zero p)
  | n + 1, h, e => by
    show mS (upd fj p x) c n + (if upd fj p x n = -1 then c n else 0) + c p = mS fj c n + (if fj n = -1 then c n else 0)
    by_cases q : p = n
    · subst q
      rw [pk_us, if_neg hx, if_pos e, mS_cong (n := p) (fj' := fj) (c' := c) (fun a ha => ⟨pk_un (by omega), rfl⟩)]
      omega
    · have := mS_off (c := c) hx (n := n) (by omega : p < n) e
      rw [pk_un (Ne.symm q)]
      omega
theorem mS_two {fj : Nat → Int32} {c : Nat → Nat} {a b n : Nat} (ha : a < n) (hb : b < n) (hab : a ≠ b) (ea : fj a = -1) (eb : fj b = -1) : c a + c b ≤ mS fj c n := by
  have h0 : ¬ (0 : Int32) = -1 := by decide
  have h1 := mS_off (c := c) h0 ha ea
  have h2 := mS_ge (fj := upd fj a 0) (c := c) hb (by rw [pk_un (Ne.symm hab)]; exact eb)
  omega
theorem mS_join {fj : Nat → Int32} {c : Nat → Nat} {a b n : Nat} {x : Int32} (hx : ¬ x = -1) (ha : a < n) (hb : b < n) (hab : a ≠ b) (ea : fj a = -1) (eb : fj b = -1) : mS (upd fj a x) (va_up c b (c b + c a)) n = mS fj c n := by
  have h1 := mS_off (c := c) hx ha ea
  have h2 := mS_up (fj := upd fj a x) (c := c) (v := c b + c a) hb (by rw [pk_un (Ne.symm hab)]; exact eb)
  omega
theorem mJ_join {pn a b : Nat} {f : Nat → Int32} (h : mJ pn f) (hba : b < a) : mJ pn (upd f a (nI b)) := fun p hp => by
  by_cases e : p = a
  · rw [e, pk_us]
    exact Or.inr ⟨b, hba, rfl⟩
  · rw [pk_un e]
    exact h p hp
