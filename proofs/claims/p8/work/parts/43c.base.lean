def qFd (t : Nat → Nat) (yl : Nat → Nat) (cc : Nat → Nat → Nat) (X Y i : Nat) : Prop := yl i = Y ∧ ∀ j, j < Y → t (X + j) = cc i j
def qC (d kl : Nat) (fd1 fd2 fl : Nat → Int32) (yl : Nat → Nat) (cc : Nat → Nat → Nat) : Prop := kl ≤ 10 * d ∧ ∃ tz : Nat → Nat, qT kl fl tz ∧ ∀ i, i < d → fd2 i = nI (yl i) ∧ 2 ≤ yl i ∧ yl i ≤ 10 ∧ ∃ X : Nat, fd1 i = nI X ∧ X + yl i ≤ kl ∧ ∀ j, j < yl i → tz (X + j) = cc i j
def qR (dn : Nat) (fl ft : Nat → Int32) (yl : Nat → Nat) (cc : Nat → Nat → Nat) : Prop := ∀ i, i < dn → fl i = nI (yl i) ∧ 2 ≤ yl i ∧ yl i ≤ 10 ∧ ∀ j, j < yl i → ft (10 * i + j) = nI (cc i j) ∧ cc i j < 256
def qAcc (t : Nat → Nat) (k : Nat) (x : Int32) (d : Nat) (yl : Nat → Nat) (cc : Nat → Nat → Nat) : Prop := (¬ x < 0 ∧ ¬ 3 < x) ∧ qNm t 0 k ∧ ¬ qHe t 0 k ∧ (d < 8 ∨ ∃ i, i < d ∧ qFd t yl cc 0 k i)
theorem qStep {P : Nat → Prop} {i : Nat} (h : ∀ j, j < i → P j) (hi : P i) : ∀ j, j < i + 1 → P j := fun j hj => by
  by_cases e : j = i
  · rw [e]
    exact hi
  · exact h j (by omega)
theorem qStep1 {P : Nat → Prop} {i : Nat} (h : ∀ j, 1 ≤ j → j < i → P j) (hi : P i) : ∀ j, 1 ≤ j → j < i + 1 → P j := fun j h1 hj => by
  by_cases e : j = i
  · rw [e]
    exact hi
  · exact h j h1 (by omega)
theorem qNil {P : Nat → Prop} : ∀ j, j < 0 → P j := fun j hj => absurd hj (Nat.not_lt_zero j)
theorem qNil1 {P : Nat → Prop} : ∀ j, 1 ≤ j → j < 1 → P j := fun j h1 hj => absurd hj (by omega)
theorem qb_again : ∀ c, c < 256 → (sb_b c).toInt8.toInt32 = sb_b c := by decide +kernel
theorem qAllS {g f1 : Nat → Int32} {tg : Nat → Nat} {k i : Nat} (h : ∀ j, j < i → g (k + j) = sb_b (tg j)) (e : f1 i = sb_b (tg i) ∧ tg i < 256) : ∀ j, j < i + 1 → upd g (k + i) (f1 i).toInt8.toInt32 (k + j) = sb_b (tg j) := fun j hj => by
  by_cases q : j = i
  · rw [q, pk_us, e.1, qb_again _ e.2]
  · rw [pk_un (by omega)]
    exact h j (by omega)
theorem qMin7 {d : Nat} (h : d ≤ 7) : (if (7 : Int32) < nI d then 7 else nI d) = nI d := if_neg (nI_nlt (a := 7) h (by decide))
theorem qC_0 {fd1 fd2 fl : Nat → Int32} {yl : Nat → Nat} {cc : Nat → Nat → Nat} : qC 0 0 fd1 fd2 fl yl cc := ⟨Nat.zero_le _, fun _ => 0, qT_0, fun i hi => absurd hi (Nat.not_lt_zero i)⟩
theorem qR_0 {fl ft : Nat → Int32} {yl : Nat → Nat} {cc : Nat → Nat → Nat} : qR 0 fl ft yl cc := fun i hi => absurd hi (Nat.not_lt_zero i)
theorem qC_add {d kl k1 : Nat} {fd1 fd2 fl fl' : Nat → Int32} {yl tg : Nat → Nat} {cc : Nat → Nat → Nat} (h : qC d kl fd1 fd2 fl yl cc) (h2 : 2 ≤ k1) (h10 : k1 ≤ 10) (hb : ∀ j, j < k1 → tg j < 256) (e1 : ∀ j, j < kl → fl' j = fl j) (e2 : ∀ j, j < k1 → fl' (kl + j) = sb_b (tg j)) : qC (d + 1) (kl + k1) (upd fd1 d (nI kl)) (upd fd2 d (nI k1)) fl' (va_up yl d k1) (va_up cc d tg) := by
  obtain ⟨hk, tz, hz, hi⟩ := h
  refine ⟨by omega, fun j => if j < kl then tz j else tg (j - kl), fun j hj => ?_, fun i hd => ?_⟩
  · by_cases q : j < kl
    · dsimp only
      rw [if_pos q, e1 j q]
      exact hz j q
    · have := e2 (j - kl) (by omega)
      rw [show kl + (j - kl) = j by omega] at this
      dsimp only
      rw [if_neg q]
      exact ⟨this, hb _ (by omega)⟩
  · by_cases q : i = d
    · rw [q, pk_us, pk_us, va_up_self, va_up_self]
      refine ⟨rfl, h2, h10, kl, rfl, Nat.le_refl _, fun j hj => ?_⟩
      dsimp only
      rw [if_neg (show ¬ kl + j < kl by omega), show kl + j - kl = j by omega]
    · obtain ⟨a1, a2, a3, X, a4, a5, a6⟩ := hi i (by omega)
      rw [pk_un q, pk_un q, va_up_ne _ _ q, va_up_ne _ _ q]
      refine ⟨a1, a2, a3, X, a4, by omega, fun j hj => ?_⟩
      dsimp only
      rw [if_pos (show X + j < kl by omega)]
      exact a6 j hj
