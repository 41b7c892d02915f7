def qWh (t : Nat → Nat) (k c : Nat) (f1 f2 : Nat → Int32) (wA wL : Nat → Nat) : Prop := ∀ i, i < c → f1 i = nI (wA i) ∧ f2 i = nI (wL i) ∧ wA i + wL i ≤ k ∧ 1 ≤ wL i ∧ ∀ j, j < wL i → qLr (t (wA i + j))
def qG2 (c : Nat) (f1 f2 : Nat → Int32) (wA wL : Nat → Nat) : Prop := ∀ i, i < c → f1 i = nI (wA i) ∧ f2 i = nI (wL i)
def qF9 (c : Nat) (g : Nat → Int32) (wS : Nat → Nat) : Prop := ∀ i, i < c → (g i = 1 ∧ qFi wS i) ∨ (g i = 0 ∧ ¬ qFi wS i)
theorem qF9_01 {c i : Nat} {g : Nat → Int32} {wS : Nat → Nat} (h : qF9 c g wS) (hi : i < c) : g i = 0 ∨ g i = 1 := (h i hi).elim (fun q => Or.inr q.1) (fun q => Or.inl q.1)
theorem qG2_add {c X L : Nat} {f1 f2 : Nat → Int32} {wA wL : Nat → Nat} (h : qG2 c f1 f2 wA wL) : qG2 (c + 1) (upd f1 c (nI X)) (upd f2 c (nI L)) (va_up wA c X) (va_up wL c L) := fun i hi => by
  by_cases e : i = c
  · rw [e, pk_us, pk_us, va_up_self, va_up_self]
    exact ⟨rfl, rfl⟩
  · rw [pk_un e, pk_un e, va_up_ne _ _ e, va_up_ne _ _ e]
    exact h i (by omega)
theorem qF9_add {c s : Nat} {g : Nat → Int32} {wS : Nat → Nat} {b : Int32} (h : qF9 c g wS) (hb : (b = 1 ∧ (c = 0 ∨ ¬ wS (c - 1) = s)) ∨ (b = 0 ∧ ¬ (c = 0 ∨ ¬ wS (c - 1) = s))) : qF9 (c + 1) (upd g c b) (va_up wS c s) := fun i hi => by
  by_cases e : i = c
  · rw [e, pk_us]
    have ef : qFi (va_up wS c s) c ↔ (c = 0 ∨ ¬ wS (c - 1) = s) := by
      unfold qFi
      rw [va_up_self]
      by_cases z : c = 0
      · exact ⟨fun _ => Or.inl z, fun _ => Or.inl z⟩
      · rw [va_up_ne _ _ (show c - 1 ≠ c by omega)]
    rw [ef]
    exact hb
  · rw [pk_un e]
    have ef : qFi (va_up wS c s) i ↔ qFi wS i := by
      unfold qFi
      rw [va_up_ne _ _ e, va_up_ne _ _ (show i - 1 ≠ c by omega)]
    rw [ef]
    exact h i (by omega)
def qLa (c : Nat) (v : Int32) (wS : Nat → Nat) : Prop := (c = 0 ∧ v = -1) ∨ (1 ≤ c ∧ v = nI (wS (c - 1)))
theorem qLa_add {c s : Nat} {wS : Nat → Nat} : qLa (c + 1) (nI s) (va_up wS c s) := Or.inr ⟨by omega, by rw [Nat.add_sub_cancel, va_up_self]⟩
theorem qLa_1 {c s : Nat} {v : Int32} {wS : Nat → Nat} (h : qLa c v wS) (hv : ¬ v = nI s) : c = 0 ∨ ¬ wS (c - 1) = s := by
  rcases h with h | h
  · exact Or.inl h.1
  · exact Or.inr (fun q => hv (by rw [h.2, q]))
theorem qLa_0 {c s : Nat} {v : Int32} {wS : Nat → Nat} (h : qLa c v wS) (hv : v = nI s) (hs : s < 2 ^ 31) (hw : 1 ≤ c → wS (c - 1) < 2 ^ 31) : ¬ (c = 0 ∨ ¬ wS (c - 1) = s) := by
  rcases h with h | h
  · exact (nI_m1 hs (hv.symm.trans h.2)).elim
  · have e : wS (c - 1) = s := (nI_eq (hw h.1) hs).mp (h.2.symm.trans hv)
    intro q
    rcases q with q | q
    · omega
    · exact q e
theorem qLr_m {x : Int32} {c : Nat} (e : x = nI c) (hc : c < 256) : mLet x ↔ qLr c := by
  subst e
  constructor
  · intro h
    rcases h with h | h
    · exact Or.inl (qn_sm1 hc h.1 h.2)
    · exact Or.inr (qn_cap1 hc h.1 h.2)
  · intro h
    rcases h with h | h
    · exact Or.inl ⟨fun q => qn_sm0 hc (Or.inl q) h, fun q => qn_sm0 hc (Or.inr q) h⟩
    · exact Or.inr ⟨fun q => qn_cap0 hc (Or.inl q) h, fun q => qn_cap0 hc (Or.inr q) h⟩
theorem qRun_of {t : Nat → Nat} {k X Y : Nat} (h1 : X ≤ Y) (h2 : Y ≤ k) (h3 : ∀ j, j < Y - X → qLr (t (X + j))) (h4 : Y = k ∨ ¬ qLr (t Y)) : qRun t k X (Y - X) := by
  refine ⟨by omega, h3, ?_⟩
  rw [show X + (Y - X) = Y by omega]
  exact h4
theorem qRunS {t : Nat → Nat} {X Y : Nat} (hXY : X ≤ Y) (h : ∀ j, j < Y - X → qLr (t (X + j))) (hl : qLr (t Y)) : ∀ j, j < Y + 1 - X → qLr (t (X + j)) := fun j hj => by
  by_cases e : j = Y - X
  · rw [e, show X + (Y - X) = Y by omega]
    exact hl
  · exact h j (by omega)
theorem qRun0 {t : Nat → Nat} {X : Nat} : ∀ j, j < X - X → qLr (t (X + j)) := fun j hj => absurd hj (by omega)
theorem qWh_of {t : Nat → Nat} {k n X c s : Nat} {f1 f2 g : Nat → Int32} {wA wL wS : Nat → Nat} (h : qWi t k n = (X, c, s, wA, wL, wS)) (hX : X = k) (hg : qG2 c f1 f2 wA wL) (hf : qF9 c g wS) : qN t k = c ∧ qWh t k c f1 f2 (qA t k) (qLn t k) ∧ qF9 c g (qSn t k) := by
  obtain ⟨eN, eA, eL, eS⟩ := qWf_of h hX
  have ok := qWi_ok (t := t) (k := k) n
  rw [h] at ok
  have o5 : ∀ i, i < c → wA i + wL i ≤ X ∧ 1 ≤ wL i ∧ wS i ≤ s ∧ ∀ j, j < wL i → qLr (t (wA i + j)) := ok.2.2.2.2
  rw [eA, eL, eS]
  refine ⟨eN, fun i hi => ?_, hf⟩
  obtain ⟨a1, a2⟩ := hg i hi
  have q := o5 i hi
  exact ⟨a1, a2, by omega, q.2.1, q.2.2.2⟩
theorem qWi_s {t : Nat → Nat} {k n X c s : Nat} {wA wL wS : Nat → Nat} (h : qWi t k n = (X, c, s, wA, wL, wS)) : s ≤ X ∧ ∀ i, i < c → wS i ≤ s := by
  have ok := qWi_ok (t := t) (k := k) n
  rw [h] at ok
  exact ⟨ok.2.2.2.1, fun i hi => (ok.2.2.2.2 i hi).2.2.1⟩
def qUa (t : Nat → Nat) (X : Nat) (z : Int32) (j : Nat) : Nat := if j = 0 ∧ z = 1 then qLow (t X) else t (X + j)
theorem qUa_c {t : Nat → Nat} {X i : Nat} {z : Int32} (h0 : i = 0) (hz : z = 1) (hc : qCap (t (X + i))) : qUa t X z i = t (X + i) + 32 := by
  unfold qUa
  rw [if_pos ⟨h0, hz⟩]
  rw [h0, Nat.add_zero] at hc ⊢
  exact qLow1 hc
theorem qUa_n {t : Nat → Nat} {X i : Nat} {z : Int32} (h : ¬ (i = 0 ∧ z = 1 ∧ qCap (t (X + i)))) : qUa t X z i = t (X + i) := by
  unfold qUa
  by_cases q : i = 0 ∧ z = 1
  · rw [if_pos q]
    have hc : ¬ qCap (t (X + i)) := fun w => h ⟨q.1, q.2, w⟩
    rw [q.1, Nat.add_zero] at hc ⊢
    exact qLow0 hc
  · rw [if_neg q]
theorem qLr_rg {c : Nat} (h : qLr c) : 65 ≤ c ∧ c ≤ 122 := by
  rcases h with h | h
  · have h1 := h.1
    have h2 := h.2
    omega
  · have h1 := h.1
    have h2 := h.2
    omega
theorem qUa_rg {t : Nat → Nat} {X Y : Nat} {z : Int32} (hl : ∀ j, j < Y → qLr (t (X + j))) : ∀ j, j < Y → 1 ≤ qUa t X z j ∧ qUa t X z j < 256 := fun j hj => by
  have h := qLr_rg (hl j hj)
  by_cases q : j = 0 ∧ z = 1 ∧ qCap (t (X + j))
  · rw [qUa_c q.1 q.2.1 q.2.2]
    have := q.2.2.2
    omega
  · rw [qUa_n q]
    omega
theorem qUa_lt {t : Nat → Nat} {X Y i : Nat} {z : Int32} (hl : ∀ j, j < Y → qLr (t (X + j))) (hi : i < Y) (hY : Y ≤ 6) : qPk (qUa t X z) i < 256 ^ 6 :=
  Nat.lt_of_lt_of_le (qPk_lt (fun j hj => (qUa_rg hl j (by omega)).2)) (Nat.pow_le_pow_right (by decide) (by omega))
def qPa (t : Nat → Nat) (X Y : Nat) (z : Int32) : Nat := if 6 < Y then 0 else qPk (qUa t X z) Y
theorem qPa_big {t : Nat → Nat} {X Y : Nat} {z : Int32} (h : 6 < Y) : lN (qPa t X Y z) = 0 := by
  unfold qPa
  rw [if_pos h]
  rfl
theorem qPa_small {t : Nat → Nat} {X Y : Nat} {z : Int32} (h : Y ≤ 6) : lN (qPa t X Y z) = lN (qPk (qUa t X z) Y) := by
  unfold qPa
  rw [if_neg (by omega)]
theorem qPa_lt {t : Nat → Nat} {X Y : Nat} {z : Int32} (hl : ∀ j, j < Y → qLr (t (X + j))) : qPa t X Y z < 2 ^ 63 := by
  unfold qPa
  by_cases h : 6 < Y
  · rw [if_pos h]
    decide
  · rw [if_neg h]
    have q := Nat.lt_of_lt_of_le (qPk_lt (u := qUa t X z) (n := Y) (fun j hj => (qUa_rg hl j hj).2)) (Nat.pow_le_pow_right (by decide : 0 < 256) (show Y ≤ 6 by omega))
    have e : (256 : Nat) ^ 6 ≤ 2 ^ 63 := by decide
    omega
theorem qHc_0 : ¬ qHc 0 := fun ⟨i, hi, e⟩ => by
  rcases (show i = 0 ∨ i = 1 ∨ i = 2 ∨ i = 3 ∨ i = 4 ∨ i = 5 ∨ i = 6 ∨ i = 7 ∨ i = 8 ∨ i = 9 ∨ i = 10 by omega) with rfl | rfl | rfl | rfl | rfl | rfl | rfl | rfl | rfl | rfl | rfl <;> revert e <;> decide
theorem qPa_he {t : Nat → Nat} {X Y : Nat} {z : Int32} (hl : ∀ j, j < Y → qLr (t (X + j))) (hY : 1 ≤ Y) : qHc (qPa t X Y z) ↔ qHe t X Y ∧ (z = 1 ∨ ¬ qCap (t X)) := by
  by_cases h : 6 < Y
  · unfold qPa
    rw [if_pos h]
    constructor
    · intro q
      exact (qHc_0 q).elim
    · intro ⟨⟨i, hi, e1, _⟩, _⟩
      exact absurd ⟨i, hi, e1⟩ (qHc_big h)
  · unfold qPa
    rw [if_neg h, qHc_iff (qUa_rg hl)]
    constructor
    · intro ⟨i, hi, e1, e2⟩
      have w0 := qW_ok i (by omega) 0 (by omega)
      have e0 := e2 0 (by omega)
      by_cases q : z = 1 ∧ qCap (t X)
      · rw [qUa_c rfl q.1 q.2] at e0
        refine ⟨⟨i, hi, e1, ?_, fun j h1 hj => ?_⟩, Or.inl q.1⟩
        · rw [qLow1 q.2]
          exact e0
        · have e3 := e2 j hj
          rw [qUa_n (fun w => absurd w.1 (by omega))] at e3
          exact e3
      · rw [qUa_n (fun w => q ⟨w.2.1, w.2.2⟩)] at e0
        have hc : ¬ qCap (t X) := fun w => by
          have e4 : t X = qW i 0 := e0
          have := w.2
          omega
        refine ⟨⟨i, hi, e1, ?_, fun j h1 hj => ?_⟩, Or.inr hc⟩
        · rw [qLow0 hc]
          exact e0
        · have e3 := e2 j hj
          rw [qUa_n (fun w => absurd w.1 (by omega))] at e3
          exact e3
    · intro ⟨⟨i, hi, e1, e2, e3⟩, hz⟩
      refine ⟨i, hi, e1, fun j hj => ?_⟩
      by_cases e : j = 0
      · subst e
        by_cases q : qCap (t X)
        · rw [qUa_c rfl (hz.resolve_right (fun w => w q)) q]
          rw [qLow1 q] at e2
          exact e2
        · rw [qUa_n (fun w => q w.2.2)]
          rw [qLow0 q] at e2
          exact e2
      · rw [qUa_n (fun w => e w.1)]
        exact e3 j (by omega) hj
theorem qNe {r : Int32} (h : 0 < r) : ¬ r = -1 := fun q => by
  subst q
  exact absurd h (by decide)
theorem qH1 {t wS : Nat → Nat} {X Y i : Nat} {z : Int32} (hf : (z = 1 ∧ qFi wS i) ∨ (z = 0 ∧ ¬ qFi wS i)) (h : qHe t X Y ∧ (z = 1 ∨ ¬ qCap (t X))) : qHe t X Y ∧ (qFi wS i ∨ ¬ qCap (t X)) := by
  refine ⟨h.1, ?_⟩
  rcases h.2 with q | q
  · rcases hf with w | w
    · exact Or.inl w.2
    · exact absurd (q.symm.trans w.1) (by decide)
  · exact Or.inr q
theorem qH2 {t wS : Nat → Nat} {X Y i : Nat} {z : Int32} (hf : (z = 1 ∧ qFi wS i) ∨ (z = 0 ∧ ¬ qFi wS i)) (h : qHe t X Y ∧ (qFi wS i ∨ ¬ qCap (t X))) : qHe t X Y ∧ (z = 1 ∨ ¬ qCap (t X)) := by
  refine ⟨h.1, ?_⟩
  rcases h.2 with q | q
  · rcases hf with w | w
    · exact Or.inl w.1
    · exact absurd q w.2
  · exact Or.inr q
theorem qWi_lt {t : Nat → Nat} {k n X c s : Nat} {wA wL wS : Nat → Nat} (h : qWi t k n = (X, c, s, wA, wL, wS)) (hX : X < k) (hl : qLr (t X)) : 2 * c ≤ X := by
  have q := (qWi_ok (t := t) (k := k) n).2.2.1
  rw [h] at q
  exact q hX hl
theorem qRun_1 {t : Nat → Nat} {k p L : Nat} (h : qRun t k p L) (hl : qLr (t p)) (hp : p < k) : 1 ≤ L := by
  rcases Nat.eq_zero_or_pos L with e | e
  · exact absurd hl (qRun_0 h e hp)
  · exact e
theorem qWi_word2 {t : Nat → Nat} {k n X Y c s : Nat} {wA wL wS : Nat → Nat} (h : qWi t k n = (X, c, s, wA, wL, wS)) (hX : X < k) (hl : qLr (t X)) (hXY : X ≤ Y) (hL : qRun t k X (Y - X)) : qWi t k (n + 1) = (Y, c + 1, s, va_up wA c X, va_up wL c (Y - X), va_up wS c s) := by
  have q := qWi_word h hX hl hL
  rw [show X + (Y - X) = Y by omega] at q
  exact q
