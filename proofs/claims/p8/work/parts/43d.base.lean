def qU (t : Nat → Nat) : Nat → Nat := fun j => if j = 0 then qLow (t 0) else t j
theorem qPkS {v : Int64} {u : Nat → Nat} {i c : Nat} (hv : v = lN (qPk u i)) (hl : qPk u i < 256 ^ 6) (hu : u i = c) (hc : c < 256) : v <<< (Int32.toInt64 8 &&& 63) ||| (nI c).toInt64 = lN (qPk u (i + 1)) := by
  rw [hv, qPk_shl hl hc]
  show lN (qPk u i * 256 + c) = lN (qPk u i * 256 + u i)
  rw [hu]
theorem qU_rg {t : Nat → Nat} {n : Nat} (hc : qCap (t 0)) (hs : ∀ j, 1 ≤ j → j < n → qSm (t (0 + j))) : ∀ j, j < n → 1 ≤ qU t j ∧ qU t j < 256 := fun j hj => by
  unfold qU
  by_cases e : j = 0
  · rw [if_pos e, qLow1 hc]
    have h1 := hc.1
    have h2 := hc.2
    omega
  · rw [if_neg e]
    have h := hs j (by omega) hj
    rw [Nat.zero_add] at h
    have h1 := h.1
    have h2 := h.2
    omega
theorem qU_lt {t : Nat → Nat} {n i : Nat} (hc : qCap (t 0)) (hs : ∀ j, 1 ≤ j → j < i → qSm (t (0 + j))) (hi : i < n) (hn : n < 7) : qPk (qU t) i < 256 ^ 6 :=
  Nat.lt_of_lt_of_le (qPk_lt (fun j hj => (qU_rg hc hs j hj).2)) (Nat.pow_le_pow_right (by decide) (by omega))
theorem qTell {t : Nat → Nat} {v : Int64} {n : Nat} (hp : (n < 7 → v = lN (qPk (qU t) n)) ∧ (7 ≤ n → v = lN 0)) (hc : qCap (t 0)) (hs : ∀ j, 1 ≤ j → j < n → qSm (t (0 + j))) (h2 : 2 ≤ n) : ∃ a : Nat, a < 2 ^ 63 ∧ v = lN a ∧ (qHc a ↔ qHe t 0 n) := by
  by_cases h7 : n < 7
  · refine ⟨qPk (qU t) n, ?_, hp.1 h7, ?_⟩
    · have h := Nat.lt_of_lt_of_le (qPk_lt (fun j hj => (qU_rg hc hs j hj).2)) (Nat.pow_le_pow_right (by decide : 0 < 256) (show n ≤ 6 by omega))
      have : (256 : Nat) ^ 6 ≤ 2 ^ 63 := by decide
      omega
    · rw [qHc_iff (qU_rg hc hs)]
      constructor
      · intro ⟨i, hi, e1, e2⟩
        refine ⟨i, hi, e1, ?_, fun j h1 hj => ?_⟩
        · have := e2 0 (by omega)
          unfold qU at this
          rw [if_pos rfl] at this
          exact this
        · have := e2 j hj
          unfold qU at this
          rw [if_neg (by omega)] at this
          rw [Nat.zero_add]
          exact this
      · intro ⟨i, hi, e1, e2, e3⟩
        refine ⟨i, hi, e1, fun j hj => ?_⟩
        unfold qU
        by_cases e : j = 0
        · rw [if_pos e, e]
          exact e2
        · rw [if_neg e]
          have := e3 j (by omega) hj
          rw [Nat.zero_add] at this
          exact this
  · refine ⟨0, by decide, hp.2 (by omega), ?_⟩
    constructor
    · intro ⟨i, hi, e⟩
      exfalso
      rcases (show i = 0 ∨ i = 1 ∨ i = 2 ∨ i = 3 ∨ i = 4 ∨ i = 5 ∨ i = 6 ∨ i = 7 ∨ i = 8 ∨ i = 9 ∨ i = 10 by omega) with rfl | rfl | rfl | rfl | rfl | rfl | rfl | rfl | rfl | rfl | rfl <;> revert e <;> decide
    · intro ⟨i, hi, e1, _⟩
      exact absurd ⟨i, hi, e1⟩ (qHc_big (by omega))
theorem qHc_n {a : Nat} (h0 : ¬ a = 26725) (h1 : ¬ a = 6842733) (h2 : ¬ a = 6842739) (h3 : ¬ a = 7563365) (h4 : ¬ a = 6841714) (h5 : ¬ a = 1751478899) (h6 : ¬ a = 26996) (h7 : ¬ a = 6911091) (h8 : ¬ a = 1952998777) (h9 : ¬ a = 1952998765) (h10 : ¬ a = 499967682930) : ¬ qHc a := fun ⟨i, hi, h⟩ => by
  rcases (show i = 0 ∨ i = 1 ∨ i = 2 ∨ i = 3 ∨ i = 4 ∨ i = 5 ∨ i = 6 ∨ i = 7 ∨ i = 8 ∨ i = 9 ∨ i = 10 by omega) with rfl | rfl | rfl | rfl | rfl | rfl | rfl | rfl | rfl | rfl | rfl
  · exact h0 h
  · exact h1 h
  · exact h2 h
  · exact h3 h
  · exact h4 h
  · exact h5 h
  · exact h6 h
  · exact h7 h
  · exact h8 h
  · exact h9 h
  · exact h10 h
theorem qLc {v : Int64} {a b : Nat} (hv : v = lN a) (ha : a < 2 ^ 63) (hb : b < 2 ^ 63) : lg_cmp v (lN b) = 0 ↔ a = b := by
  rw [lg_cmp_eq, hv, pk_lEQ ha hb]
theorem qTr {t : Nat} (h : nI t < 2 ∨ 10 < nI t) (ht : t ≤ 600) : ¬ (2 ≤ t ∧ t ≤ 10) := fun q => by
  rcases h with h | h
  · have := (nI_ltI (a := t) (b := 2) (by omega) (by decide)).mp h
    omega
  · have := (nI_ltI (a := 10) (b := t) (by decide) (by omega)).mp h
    omega
theorem qR_found {dn i1 n : Nat} {fl ft g : Nat → Int32} {t yl : Nat → Nat} {cc : Nat → Nat → Nat} (h : qR dn fl ft yl cc) (hi : i1 < dn) (hf : qFd t yl cc 0 n i1) (hn : n ≤ 10) (h1 : ∀ j, j < n → g (10 * i1 + j) = nI (t j)) (h2 : ∀ q, (q < 10 * i1 ∨ 10 * i1 + 10 ≤ q) → g q = ft q) : qR dn (upd fl i1 (nI n)) g yl cc := fun i hd => by
  obtain ⟨a1, a2, a3, a4⟩ := h i hd
  by_cases e : i = i1
  · rw [e] at a1 a2 a3 a4
    rw [e, pk_us, hf.1]
    rw [hf.1] at a2 a3
    refine ⟨rfl, a2, a3, fun j hj => ?_⟩
    have h3 := hf.2 j hj
    rw [Nat.zero_add] at h3
    rw [h1 j hj, h3]
    exact ⟨rfl, (a4 j (by rw [hf.1]; exact hj)).2⟩
  · rw [pk_un e]
    refine ⟨a1, a2, a3, fun j hj => ?_⟩
    rw [h2 _ (by omega)]
    exact a4 j hj
theorem qR_new {dn n : Nat} {fl ft g : Nat → Int32} {t yl : Nat → Nat} {cc : Nat → Nat → Nat} (h : qR dn fl ft yl cc) (hn : n ≤ 10) (hn2 : 2 ≤ n) (hb : ∀ j, j < n → t j < 256) (h1 : ∀ j, j < n → g (10 * dn + j) = nI (t j)) (h2 : ∀ q, (q < 10 * dn ∨ 10 * dn + 10 ≤ q) → g q = ft q) : qR (dn + 1) (upd fl dn (nI n)) g (va_up yl dn n) (va_up cc dn t) := fun i hd => by
  by_cases e : i = dn
  · rw [e, pk_us, va_up_self, va_up_self]
    exact ⟨rfl, hn2, hn, fun j hj => ⟨h1 j hj, hb j hj⟩⟩
  · obtain ⟨a1, a2, a3, a4⟩ := h i (by omega)
    rw [pk_un e, va_up_ne _ _ e, va_up_ne _ _ e]
    refine ⟨a1, a2, a3, fun j hj => ?_⟩
    rw [h2 _ (by omega)]
    exact a4 j hj
theorem qLet {g : Nat → Int32} {t : Nat → Nat} {b i : Nat} (h : ∀ j, j < i → g (b + j) = nI (t j)) : ∀ j, j < i + 1 → upd g (b + i) (nI (t i)) (b + j) = nI (t j) := fun j hj => by
  by_cases e : j = i
  · rw [e, pk_us]
  · rw [pk_un (by omega)]
    exact h j (by omega)
