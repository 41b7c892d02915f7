theorem mM_0 {f : Nat → Int32} {o : Nat → Nat} : mM 0 0 f o := ⟨fun j h => absurd h (Nat.not_lt_zero j), fun a b _ h => absurd h (Nat.not_lt_zero b)⟩
theorem mA_0 {f : Nat → Int32} {o : Nat → Nat} : mA 0 0 f o := fun w h => absurd h (Nat.not_lt_zero w)
theorem mM_up {k i : Nat} {f : Nat → Int32} {o : Nat → Nat} (h : mM k i f o) : mM k (i + 1) f o := ⟨fun j hj => ⟨(h.1 j hj).1, Nat.lt_succ_of_lt (h.1 j hj).2⟩, h.2⟩
theorem mM_add {k i : Nat} {f : Nat → Int32} {o : Nat → Nat} (h : mM k i f o) : mM (k + 1) (i + 1) (upd f k (nI i)) (va_up o k i) := by
  refine ⟨fun j hj => ?_, fun a b hab hb => ?_⟩
  · by_cases e : j = k
    · rw [e, pk_us, va_up_self]
      exact ⟨rfl, Nat.lt_succ_self i⟩
    · rw [pk_un e, va_up_ne _ _ e]
      have := h.1 j (by omega)
      exact ⟨this.1, by omega⟩
  · by_cases e : b = k
    · rw [e, va_up_self, va_up_ne _ _ (by omega)]
      exact (h.1 a (by omega)).2
    · rw [va_up_ne _ _ e, va_up_ne _ _ (by omega)]
      exact h.2 a b hab (by omega)
theorem mA_skip {k i : Nat} {f : Nat → Int32} {o : Nat → Nat} (h : mA i k f o) : mA (i + 1) k (upd f i (-1)) o := fun w hw => by
  by_cases e : w = i
  · rw [e, pk_us]
    exact Or.inl rfl
  · rw [pk_un e]
    exact h w (by omega)
theorem mA_add {k i : Nat} {f g : Nat → Int32} {o : Nat → Nat} (h : mA i k f o) (_ : mM k i g o) : mA (i + 1) (k + 1) (upd (upd f i (-1)) i (nI k)) (va_up o k i) := fun w hw => by
  by_cases e : w = i
  · rw [e, pk_us]
    exact Or.inr ⟨k, Nat.lt_succ_self k, rfl, by rw [va_up_self]⟩
  · rw [pk_un e, pk_un e]
    rcases h w (by omega) with q | ⟨j, hj, ej, oj⟩
    · exact Or.inl q
    · exact Or.inr ⟨j, by omega, ej, by rw [va_up_ne _ _ (by omega)]; exact oj⟩
