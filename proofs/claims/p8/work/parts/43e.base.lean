def qLr (c : Nat) : Prop := qSm c ∨ qCap c
def qRun (t : Nat → Nat) (k p L : Nat) : Prop := p + L ≤ k ∧ (∀ j, j < L → qLr (t (p + j))) ∧ (p + L = k ∨ ¬ qLr (t (p + L)))
theorem qRun_lt {t : Nat → Nat} {k p L M : Nat} (h1 : qRun t k p L) (h2 : qRun t k p M) (h : L < M) : False := by
  rcases h1.2.2 with e | e
  · have := h2.1
    omega
  · exact e (h2.2.1 L h)
theorem qRun_u {t : Nat → Nat} {k p L M : Nat} (h1 : qRun t k p L) (h2 : qRun t k p M) : L = M := by
  rcases Nat.lt_trichotomy L M with h | h | h
  · exact (qRun_lt h1 h2 h).elim
  · exact h
  · exact (qRun_lt h2 h1 h).elim
theorem qRun_0 {t : Nat → Nat} {k p L : Nat} (h : qRun t k p L) (hL : L = 0) (hp : p < k) : ¬ qLr (t p) := by
  subst hL
  rcases h.2.2 with e | e
  · omega
  · exact e
noncomputable def qRl (t : Nat → Nat) : Nat → Nat → Nat
  | 0, _ => 0
  | n + 1, p => @ite _ (qLr (t p)) (Classical.propDecidable _) (qRl t n (p + 1) + 1) 0
theorem qRl_ok {t : Nat → Nat} : ∀ (n p : Nat), qRun t (p + n) p (qRl t n p)
  | 0, p => ⟨Nat.le_refl _, fun j hj => absurd hj (Nat.not_lt_zero j), Or.inl rfl⟩
  | n + 1, p => by
    have e : qRl t (n + 1) p = @ite _ (qLr (t p)) (Classical.propDecidable _) (qRl t n (p + 1) + 1) 0 := rfl
    rw [e]
    by_cases h : qLr (t p)
    · rw [if_pos h]
      obtain ⟨a, b, c⟩ := qRl_ok (t := t) n (p + 1)
      refine ⟨by omega, fun j hj => ?_, ?_⟩
      · by_cases e : j = 0
        · rw [e]
          exact h
        · have q := b (j - 1) (by omega)
          rw [show p + 1 + (j - 1) = p + j by omega] at q
          exact q
      · rcases c with c | c
        · exact Or.inl (by omega)
        · refine Or.inr ?_
          rw [show p + (qRl t n (p + 1) + 1) = p + 1 + qRl t n (p + 1) by omega]
          exact c
    · rw [if_neg h]
      exact ⟨by omega, fun j hj => absurd hj (Nat.not_lt_zero j), Or.inr h⟩
noncomputable def qRn (t : Nat → Nat) (k p : Nat) : Nat := qRl t (k - p) p
theorem qRn_ok {t : Nat → Nat} {k p : Nat} (h : p ≤ k) : qRun t k p (qRn t k p) := by
  have q := qRl_ok (t := t) (k - p) p
  rw [show p + (k - p) = k by omega] at q
  exact q
abbrev qWt : Type := Nat × Nat × Nat × (Nat → Nat) × (Nat → Nat) × (Nat → Nat)
noncomputable def qWs (t : Nat → Nat) (k : Nat) (w : qWt) : qWt :=
  @ite _ (w.1 < k) (Classical.propDecidable _) (@ite _ (qLr (t w.1)) (Classical.propDecidable _) (w.1 + qRn t k w.1, w.2.1 + 1, w.2.2.1, va_up w.2.2.2.1 w.2.1 w.1, va_up w.2.2.2.2.1 w.2.1 (qRn t k w.1), va_up w.2.2.2.2.2 w.2.1 w.2.2.1) (w.1 + 1, w.2.1, @ite _ (t w.1 = 46) (Classical.propDecidable _) (w.2.2.1 + 1) w.2.2.1, w.2.2.2)) w
noncomputable def qWi (t : Nat → Nat) (k : Nat) : Nat → qWt
  | 0 => (0, 0, 0, fun _ => 0, fun _ => 0, fun _ => 0)
  | n + 1 => qWs t k (qWi t k n)
theorem qWi_word {t : Nat → Nat} {k n X c s L : Nat} {wA wL wS : Nat → Nat} (h : qWi t k n = (X, c, s, wA, wL, wS)) (hX : X < k) (hl : qLr (t X)) (hL : qRun t k X L) : qWi t k (n + 1) = (X + L, c + 1, s, va_up wA c X, va_up wL c L, va_up wS c s) := by
  have e : qWi t k (n + 1) = qWs t k (qWi t k n) := rfl
  have eL : qRn t k X = L := qRun_u (qRn_ok (by omega)) hL
  rw [e, h]
  unfold qWs
  dsimp only
  rw [if_pos hX, if_pos hl, eL]
theorem qWi_dot {t : Nat → Nat} {k n X c s : Nat} {wA wL wS : Nat → Nat} (h : qWi t k n = (X, c, s, wA, wL, wS)) (hX : X < k) (hl : ¬ qLr (t X)) (hd : t X = 46) : qWi t k (n + 1) = (X + 1, c, s + 1, wA, wL, wS) := by
  have e : qWi t k (n + 1) = qWs t k (qWi t k n) := rfl
  rw [e, h]
  unfold qWs
  dsimp only
  rw [if_pos hX, if_neg hl, if_pos hd]
theorem qWi_skip {t : Nat → Nat} {k n X c s : Nat} {wA wL wS : Nat → Nat} (h : qWi t k n = (X, c, s, wA, wL, wS)) (hX : X < k) (hl : ¬ qLr (t X)) (hd : ¬ t X = 46) : qWi t k (n + 1) = (X + 1, c, s, wA, wL, wS) := by
  have e : qWi t k (n + 1) = qWs t k (qWi t k n) := rfl
  rw [e, h]
  unfold qWs
  dsimp only
  rw [if_pos hX, if_neg hl, if_neg hd]
theorem qWi_end {t : Nat → Nat} {k n : Nat} (h : ¬ (qWi t k n).1 < k) : qWi t k (n + 1) = qWi t k n := by
  have e : qWi t k (n + 1) = qWs t k (qWi t k n) := rfl
  rw [e]
  unfold qWs
  rw [if_neg h]
def qWok (t : Nat → Nat) (k : Nat) (w : qWt) : Prop := w.1 ≤ k ∧ 2 * w.2.1 ≤ w.1 + 1 ∧ (w.1 < k → qLr (t w.1) → 2 * w.2.1 ≤ w.1) ∧ w.2.2.1 ≤ w.1 ∧ ∀ i, i < w.2.1 → w.2.2.2.1 i + w.2.2.2.2.1 i ≤ w.1 ∧ 1 ≤ w.2.2.2.2.1 i ∧ w.2.2.2.2.2 i ≤ w.2.2.1 ∧ ∀ j, j < w.2.2.2.2.1 i → qLr (t (w.2.2.2.1 i + j))
theorem qWi_ok {t : Nat → Nat} {k : Nat} : ∀ n : Nat, qWok t k (qWi t k n)
  | 0 => ⟨Nat.zero_le _, Nat.zero_le _, fun _ _ => Nat.zero_le _, Nat.zero_le _, fun i hi => absurd hi (Nat.not_lt_zero i)⟩
  | n + 1 => by
    have ih := qWi_ok (t := t) (k := k) n
    rcases hw : qWi t k n with ⟨X, c, s, wA, wL, wS⟩
    rw [hw] at ih
    obtain ⟨g1, g2, g3, g4, g5⟩ := ih
    have h1 : X ≤ k := g1
    have h2 : 2 * c ≤ X + 1 := g2
    have h3 : X < k → qLr (t X) → 2 * c ≤ X := g3
    have h4 : s ≤ X := g4
    have h5 : ∀ i, i < c → wA i + wL i ≤ X ∧ 1 ≤ wL i ∧ wS i ≤ s ∧ ∀ j, j < wL i → qLr (t (wA i + j)) := g5
    by_cases hX : X < k
    · by_cases hl : qLr (t X)
      · have hr := qRn_ok (t := t) h1
        have hL : 1 ≤ qRn t k X := by
          rcases Nat.eq_zero_or_pos (qRn t k X) with e | e
          · exact absurd hl (qRun_0 hr e hX)
          · exact e
        have h6 := h3 hX hl
        have h7 := hr.1
        have h8 := hr.2.2
        have h9 := hr.2.1
        rw [qWi_word hw hX hl hr]
        generalize qRn t k X = L at hL h7 h8 h9 ⊢
        refine ⟨h7, ?_, fun a b => ?_, ?_, fun i hi => ?_⟩
        · show 2 * (c + 1) ≤ X + L + 1
          omega
        · exfalso
          have a2 : X + L < k := a
          rcases h8 with e | e
          · omega
          · exact e b
        · show s ≤ X + L
          omega
        · show va_up wA c X i + va_up wL c L i ≤ X + L ∧ 1 ≤ va_up wL c L i ∧ va_up wS c s i ≤ s ∧ ∀ j, j < va_up wL c L i → qLr (t (va_up wA c X i + j))
          have hi2 : i < c + 1 := hi
          by_cases e : i = c
          · rw [e, va_up_self, va_up_self, va_up_self]
            exact ⟨Nat.le_refl _, hL, Nat.le_refl _, h9⟩
          · rw [va_up_ne _ _ e, va_up_ne _ _ e, va_up_ne _ _ e]
            have q := h5 i (by omega)
            exact ⟨by omega, q.2.1, q.2.2.1, q.2.2.2⟩
      · by_cases hd : t X = 46
        · rw [qWi_dot hw hX hl hd]
          refine ⟨hX, ?_, fun _ _ => ?_, ?_, fun i hi => ?_⟩
          · show 2 * c ≤ X + 1 + 1
            omega
          · show 2 * c ≤ X + 1
            omega
          · show s + 1 ≤ X + 1
            omega
          · have q := h5 i hi
            show wA i + wL i ≤ X + 1 ∧ 1 ≤ wL i ∧ wS i ≤ s + 1 ∧ ∀ j, j < wL i → qLr (t (wA i + j))
            exact ⟨by omega, q.2.1, by omega, q.2.2.2⟩
        · rw [qWi_skip hw hX hl hd]
          refine ⟨hX, ?_, fun _ _ => ?_, ?_, fun i hi => ?_⟩
          · show 2 * c ≤ X + 1 + 1
            omega
          · show 2 * c ≤ X + 1
            omega
          · show s ≤ X + 1
            omega
          · have q := h5 i hi
            show wA i + wL i ≤ X + 1 ∧ 1 ≤ wL i ∧ wS i ≤ s ∧ ∀ j, j < wL i → qLr (t (wA i + j))
            exact ⟨by omega, q.2.1, q.2.2.1, q.2.2.2⟩
    · rw [qWi_end (by rw [hw]; exact hX), hw]
      exact ⟨h1, h2, h3, h4, h5⟩
theorem qWi_room {t : Nat → Nat} {k n X c s : Nat} {wA wL wS : Nat → Nat} (h : qWi t k n = (X, c, s, wA, wL, wS)) (hX : X < k) (hl : qLr (t X)) (hk : k ≤ 600) : c < 300 := by
  have q := (qWi_ok (t := t) (k := k) n).2.2.1
  rw [h] at q
  have q2 : 2 * c ≤ X := q hX hl
  omega
theorem qWi_ge {t : Nat → Nat} {k : Nat} : ∀ n : Nat, n ≤ (qWi t k n).1 ∨ (qWi t k n).1 = k
  | 0 => Or.inl (Nat.zero_le _)
  | n + 1 => by
    have ih := qWi_ge (t := t) (k := k) n
    have ok := (qWi_ok (t := t) (k := k) n).1
    rcases hw : qWi t k n with ⟨X, c, s, wA, wL, wS⟩
    rw [hw] at ih ok
    have ih2 : n ≤ X ∨ X = k := ih
    have h1 : X ≤ k := ok
    by_cases hX : X < k
    · by_cases hl : qLr (t X)
      · have hr := qRn_ok (t := t) h1
        have hL : 1 ≤ qRn t k X := by
          rcases Nat.eq_zero_or_pos (qRn t k X) with e | e
          · exact absurd hl (qRun_0 hr e hX)
          · exact e
        rw [qWi_word hw hX hl hr]
        refine Or.inl ?_
        show n + 1 ≤ X + qRn t k X
        omega
      · by_cases hd : t X = 46
        · rw [qWi_dot hw hX hl hd]
          refine Or.inl ?_
          show n + 1 ≤ X + 1
          omega
        · rw [qWi_skip hw hX hl hd]
          refine Or.inl ?_
          show n + 1 ≤ X + 1
          omega
    · rw [qWi_end (by rw [hw]; exact hX), hw]
      refine Or.inr ?_
      show X = k
      omega
theorem qWi_stay {t : Nat → Nat} {k n : Nat} (h : (qWi t k n).1 = k) : ∀ j : Nat, qWi t k (n + j) = qWi t k n
  | 0 => rfl
  | j + 1 => by
    have e := qWi_stay h j
    have e2 : qWi t k (n + j + 1) = qWi t k (n + j) := qWi_end (by rw [e, h]; exact Nat.lt_irrefl _)
    show qWi t k (n + j + 1) = _
    rw [e2, e]
noncomputable def qWf (t : Nat → Nat) (k : Nat) : qWt := qWi t k k
theorem qWf_eq {t : Nat → Nat} {k n : Nat} (h : (qWi t k n).1 = k) : qWi t k n = qWf t k := by
  have hk : (qWi t k k).1 = k := by
    rcases qWi_ge (t := t) (k := k) k with q | q
    · have := (qWi_ok (t := t) (k := k) k).1
      omega
    · exact q
  rcases Nat.le_total n k with q | q
  · have e := qWi_stay h (k - n)
    rw [show n + (k - n) = k by omega] at e
    exact e.symm
  · have e := qWi_stay hk (n - k)
    rw [show k + (n - k) = n by omega] at e
    exact e
noncomputable def qN (t : Nat → Nat) (k : Nat) : Nat := (qWf t k).2.1
noncomputable def qA (t : Nat → Nat) (k : Nat) : Nat → Nat := (qWf t k).2.2.2.1
noncomputable def qLn (t : Nat → Nat) (k : Nat) : Nat → Nat := (qWf t k).2.2.2.2.1
noncomputable def qSn (t : Nat → Nat) (k : Nat) : Nat → Nat := (qWf t k).2.2.2.2.2
def qG3 (c : Nat) (f1 f2 f3 : Nat → Int32) (wA wL wS : Nat → Nat) : Prop := ∀ i, i < c → f1 i = nI (wA i) ∧ f2 i = nI (wL i) ∧ f3 i = nI (wS i)
theorem qG3_add {c X L s : Nat} {f1 f2 f3 : Nat → Int32} {wA wL wS : Nat → Nat} (h : qG3 c f1 f2 f3 wA wL wS) : qG3 (c + 1) (upd f1 c (nI X)) (upd f2 c (nI L)) (upd f3 c (nI s)) (va_up wA c X) (va_up wL c L) (va_up wS c s) := fun i hi => by
  by_cases e : i = c
  · rw [e, pk_us, pk_us, pk_us, va_up_self, va_up_self, va_up_self]
    exact ⟨rfl, rfl, rfl⟩
  · rw [pk_un e, pk_un e, pk_un e, va_up_ne _ _ e, va_up_ne _ _ e, va_up_ne _ _ e]
    exact h i (by omega)
def qWg (t : Nat → Nat) (k c : Nat) (f1 f2 f3 : Nat → Int32) (wA wL wS : Nat → Nat) : Prop := ∀ i, i < c → f1 i = nI (wA i) ∧ f2 i = nI (wL i) ∧ f3 i = nI (wS i) ∧ wA i + wL i ≤ k ∧ 1 ≤ wL i ∧ wS i ≤ 600 ∧ ∀ j, j < wL i → qLr (t (wA i + j))
theorem qWf_of {t : Nat → Nat} {k n X c s : Nat} {wA wL wS : Nat → Nat} (h : qWi t k n = (X, c, s, wA, wL, wS)) (hX : X = k) : qN t k = c ∧ qA t k = wA ∧ qLn t k = wL ∧ qSn t k = wS := by
  have e : qWi t k n = qWf t k := qWf_eq (by rw [h]; exact hX)
  rw [h] at e
  unfold qN qA qLn qSn
  rw [← e]
  exact ⟨rfl, rfl, rfl, rfl⟩
theorem qWg_of {t : Nat → Nat} {k n X c s : Nat} {f1 f2 f3 : Nat → Int32} {wA wL wS : Nat → Nat} (h : qWi t k n = (X, c, s, wA, wL, wS)) (hX : X = k) (hk : k ≤ 600) (hg : qG3 c f1 f2 f3 wA wL wS) : qN t k = c ∧ qWg t k c f1 f2 f3 (qA t k) (qLn t k) (qSn t k) := by
  obtain ⟨eN, eA, eL, eS⟩ := qWf_of h hX
  have ok := qWi_ok (t := t) (k := k) n
  rw [h] at ok
  have o4 : s ≤ X := ok.2.2.2.1
  have o5 : ∀ i, i < c → wA i + wL i ≤ X ∧ 1 ≤ wL i ∧ wS i ≤ s ∧ ∀ j, j < wL i → qLr (t (wA i + j)) := ok.2.2.2.2
  refine ⟨eN, fun i hi => ?_⟩
  rw [eA, eL, eS]
  obtain ⟨a1, a2, a3⟩ := hg i hi
  have q := o5 i hi
  have q3 := q.2.2.1
  exact ⟨a1, a2, a3, by omega, q.2.1, by omega, q.2.2.2⟩
theorem qWg_0 {t : Nat → Nat} {k : Nat} {f1 f2 f3 : Nat → Int32} {wA wL wS : Nat → Nat}   : qWg t k 0 f1 f2 f3 wA wL wS := fun i hi => absurd hi (Nat.not_lt_zero i)
theorem qN_0 {t : Nat → Nat} : qN t 0 = 0 := rfl
def qFi (wS : Nat → Nat) (i : Nat) : Prop := i = 0 ∨ ¬ wS (i - 1) = wS i
def qSam (t wA wL : Nat → Nat) (v i : Nat) : Prop := ∀ j, j < wL i → t (wA v + j) = t (wA i + j)
def qIn (t wA wL wS : Nat → Nat) (wn i : Nat) : Prop := ∃ v, v < wn ∧ ¬ qFi wS v ∧ wL v = wL i ∧ qSam t wA wL v i
def qTo (t wA wL : Nat → Nat) (d : Nat) (yl : Nat → Nat) (cc : Nat → Nat → Nat) (i : Nat) : Prop := ∃ j, j < d ∧ qFd t yl cc (wA i) (wL i) j
def qMn (t wA wL wS : Nat → Nat) (wn d : Nat) (yl : Nat → Nat) (cc : Nat → Nat → Nat) (i : Nat) : Prop := (qHe t (wA i) (wL i) ∧ (qFi wS i ∨ ¬ qCap (t (wA i)))) ∨ (¬ qHe t (wA i) (wL i) ∧ qNm t (wA i) (wL i) ∧ (¬ qFi wS i ∨ qTo t wA wL d yl cc i ∨ qIn t wA wL wS wn i))
noncomputable def qCn (M : Nat → Prop) : Nat → Nat
  | 0 => 0
  | n + 1 => @ite _ (M n) (Classical.propDecidable _) (qCn M n + 1) (qCn M n)
theorem qCn_y {M : Nat → Prop} {n : Nat} (h : M n) : qCn M (n + 1) = qCn M n + 1 := if_pos h
theorem qCn_n {M : Nat → Prop} {n : Nat} (h : ¬ M n) : qCn M (n + 1) = qCn M n := if_neg h
def qM8 (x : Nat) : Nat := if x < 80 then x else 80
theorem qM8_le {x : Nat} : qM8 x ≤ 80 := by
  unfold qM8
  by_cases a : x < 80
  · rw [if_pos a]
    omega
  · rw [if_neg a]
    exact Nat.le_refl _
theorem qM8_y {M : Nat → Prop} {n c : Nat} (h : c = qM8 (qCn M n)) (hM : M n) (hc : c < 80) : c + 1 = qM8 (qCn M (n + 1)) := by
  rw [qCn_y hM]
  unfold qM8 at h ⊢
  by_cases a : qCn M n < 80
  · rw [if_pos a] at h
    by_cases b : qCn M n + 1 < 80
    · rw [if_pos b]
      omega
    · rw [if_neg b]
      omega
  · rw [if_neg a] at h
    omega
theorem qM8_f {M : Nat → Prop} {n c : Nat} (h : c = qM8 (qCn M n)) (hM : M n) (hc : 80 ≤ c) : c = qM8 (qCn M (n + 1)) := by
  rw [qCn_y hM]
  unfold qM8 at h ⊢
  by_cases a : qCn M n < 80
  · rw [if_pos a] at h
    omega
  · rw [if_neg (show ¬ qCn M n + 1 < 80 by omega)]
    rw [if_neg a] at h
    exact h
theorem qM8_n {M : Nat → Prop} {n c : Nat} (h : c = qM8 (qCn M n)) (hM : ¬ M n) : c = qM8 (qCn M (n + 1)) := by
  rw [qCn_n hM]
  exact h
theorem qSm_nc {c : Nat} (h : qSm c) : ¬ qCap c := fun q => by
  have h1 := h.1
  have h2 := q.2
  omega
theorem qHe_cap {t : Nat → Nat} {X Y : Nat} (h : qHe t X Y) (hs : ¬ qSm (t X)) : qCap (t X) := by
  refine Classical.byContradiction (fun hc => ?_)
  obtain ⟨i, hi, h1, h2, h3⟩ := h
  have hl := pLenB (show i < 14 by omega)
  have hw := qW_ok i (by omega) 0 (by omega)
  rw [qLow0 hc] at h2
  exact hs (by rw [h2]; exact ⟨hw.2.1, hw.2.2⟩)
theorem qNm_al {t : Nat → Nat} {X X2 Y : Nat} (h : ∀ j, j < Y → t (X2 + j) = t (X + j)) (q : qNm t X Y) : qNm t X2 Y := by
  obtain ⟨a, b, c, d⟩ := q
  refine ⟨a, b, ?_, fun j h1 h2 => ?_⟩
  · have := h 0 (by omega)
    rw [Nat.add_zero, Nat.add_zero] at this
    rw [this]
    exact c
  · rw [h j h2]
    exact d j h1 h2
theorem qHe_al {t : Nat → Nat} {X X2 Y : Nat} (hY : 1 ≤ Y) (h : ∀ j, j < Y → t (X2 + j) = t (X + j)) (q : qHe t X2 Y) : qHe t X Y := by
  obtain ⟨i, hi, a, b, c⟩ := q
  refine ⟨i, hi, a, ?_, fun j h1 h2 => ?_⟩
  · have := h 0 (by omega)
    rw [Nat.add_zero, Nat.add_zero] at this
    rw [← this]
    exact b
  · rw [← h j h2]
    exact c j h1 h2
def qKo (t wA wL wS : Nat → Nat) (i : Nat) (v : Int32) : Prop := (qHe t (wA i) (wL i) ∧ (qFi wS i ∨ ¬ qCap (t (wA i))) ∧ 0 < v ∧ v ≤ 4) ∨ (¬ qHe t (wA i) (wL i) ∧ qNm t (wA i) (wL i) ∧ ¬ qFi wS i ∧ v = 0) ∨ (((qHe t (wA i) (wL i) ∧ ¬ qFi wS i ∧ qCap (t (wA i))) ∨ (¬ qHe t (wA i) (wL i) ∧ ¬ qNm t (wA i) (wL i))) ∧ 5 ≤ v ∧ v ≤ 7)
def qK1 (t wA wL wS : Nat → Nat) (i : Nat) (v : Int32) : Prop := qKo t wA wL wS i v ∨ (¬ qHe t (wA i) (wL i) ∧ qNm t (wA i) (wL i) ∧ qFi wS i ∧ v = 8)
def qK2 (t wA wL wS : Nat → Nat) (wn i : Nat) (v : Int32) : Prop := qKo t wA wL wS i v ∨ (¬ qHe t (wA i) (wL i) ∧ qNm t (wA i) (wL i) ∧ qFi wS i ∧ ((v = 0 ∧ qIn t wA wL wS wn i) ∨ (v = 8 ∧ ¬ qIn t wA wL wS wn i)))
theorem qI5 {v : Int32} (h1 : 5 ≤ v) (h2 : ¬ 4 < v) : False := by
  rw [Int32.le_iff_toInt_le] at h1
  rw [Int32.lt_iff_toInt_lt] at h2
  have e5 : (5 : Int32).toInt = 5 := by decide
  have e4 : (4 : Int32).toInt = 4 := by decide
  omega
theorem qI0 {v : Int32} (h1 : 0 < v) (h2 : v < 0 ∨ v = 0) : False := by
  rcases h2 with h2 | h2
  · rw [Int32.lt_iff_toInt_lt] at h1 h2
    have e0 : (0 : Int32).toInt = 0 := by decide
    omega
  · rw [h2] at h1
    exact absurd h1 (by decide)
theorem qI4 {v : Int32} (h1 : v ≤ 4) (h2 : 4 < v) : False := by
  rw [Int32.le_iff_toInt_le] at h1
  rw [Int32.lt_iff_toInt_lt] at h2
  omega
theorem qI8 {v : Int32} (h : v = 8) (h1 : v ≤ 4 ∨ v ≤ 7) : False := by
  subst h
  rcases h1 with h1 | h1
  · exact absurd h1 (by decide)
  · exact absurd h1 (by decide)
theorem qI50 {v : Int32} (h : v = 0) (h1 : 5 ≤ v) : False := by
  subst h
  exact absurd h1 (by decide)
theorem qK1_8 {t wA wL wS : Nat → Nat} {i : Nat} {v : Int32} (h : qK1 t wA wL wS i v) (hv : v = 8) : ¬ qHe t (wA i) (wL i) ∧ qNm t (wA i) (wL i) ∧ qFi wS i := by
  rcases h with (h | h | h) | h
  · exact (qI8 hv (Or.inl h.2.2.2)).elim
  · exact absurd (h.2.2.2.symm.trans hv) (by decide)
  · exact (qI8 hv (Or.inr h.2.2)).elim
  · exact ⟨h.1, h.2.1, h.2.2.1⟩
theorem qK1_o {t wA wL wS : Nat → Nat} {i : Nat} {v : Int32} (h : qK1 t wA wL wS i v) (hv : ¬ v = 8) : qKo t wA wL wS i v := h.resolve_right (fun q => hv q.2.2.2)
theorem qK_in {t wA wL wS : Nat → Nat} {c w : Nat} {g : Nat → Int32} (hg : ∀ v, v < c → ¬ qFi wS v → qKo t wA wL wS v (g v)) (hL : 1 ≤ wL w) (h1 : ¬ qHe t (wA w) (wL w)) (h2 : qNm t (wA w) (wL w)) : (∃ v, v < c ∧ g v = 0 ∧ ¬ qFi wS v ∧ wL v = wL w ∧ qSam t wA wL v w) ↔ qIn t wA wL wS c w := by
  constructor
  · intro ⟨v, a1, a2, a3, a4, a5⟩
    exact ⟨v, a1, a3, a4, a5⟩
  · intro ⟨v, a1, a3, a4, a5⟩
    refine ⟨v, a1, ?_, a3, a4, a5⟩
    rcases hg v a1 a3 with h | h | h
    · exact absurd (qHe_al hL a5 (by have := h.1; rw [a4] at this; exact this)) h1
    · exact h.2.2.2
    · rcases h.1 with z | z
      · exact absurd (qHe_al hL a5 (by have := z.1; rw [a4] at this; exact this)) h1
      · exact absurd (show qNm t (wA v) (wL v) by rw [a4]; exact qNm_al a5 h2) z.2
section
variable {t wA wL wS yl : Nat → Nat} {wn d i : Nat} {cc : Nat → Nat → Nat} {v : Int32}
theorem qK2_0 (h : qK2 t wA wL wS wn i v) (hv : v = 0) : qMn t wA wL wS wn d yl cc i := by
  rcases h with (h | h | h) | h
  · exact (qI0 h.2.2.1 (Or.inr hv)).elim
  · exact Or.inr ⟨h.1, h.2.1, Or.inl h.2.2.1⟩
  · exact (qI50 hv h.2.1).elim
  · rcases h.2.2.2 with z | z
    · exact Or.inr ⟨h.1, h.2.1, Or.inr (Or.inr z.2)⟩
    · exact absurd (hv.symm.trans z.1) (by decide)
theorem qK2_8 (h : qK2 t wA wL wS wn i v) (hv : v = 8) : ¬ qHe t (wA i) (wL i) ∧ qNm t (wA i) (wL i) ∧ qFi wS i ∧ ¬ qIn t wA wL wS wn i := by
  rcases h with (h | h | h) | h
  · exact (qI8 hv (Or.inl h.2.2.2)).elim
  · exact absurd (h.2.2.2.symm.trans hv) (by decide)
  · exact (qI8 hv (Or.inr h.2.2)).elim
  · rcases h.2.2.2 with z | z
    · exact absurd (z.1.symm.trans hv) (by decide)
    · exact ⟨h.1, h.2.1, h.2.2.1, z.2⟩
theorem qK2_8y (h : qK2 t wA wL wS wn i v) (hv : v = 8) (ht : qTo t wA wL d yl cc i) : qMn t wA wL wS wn d yl cc i := by
  have q := qK2_8 h hv
  exact Or.inr ⟨q.1, q.2.1, Or.inr (Or.inl ht)⟩
theorem qK2_8n (h : qK2 t wA wL wS wn i v) (hv : v = 8) (ht : ¬ qTo t wA wL d yl cc i) : ¬ qMn t wA wL wS wn d yl cc i := fun q => by
  have z := qK2_8 h hv
  rcases q with q | q
  · exact z.1 q.1
  · rcases q.2.2 with a | a | a
    · exact a z.2.2.1
    · exact ht a
    · exact z.2.2.2 a
theorem qK2_p (h : qK2 t wA wL wS wn i v) (h0 : ¬ v = 0) (h8 : ¬ v = 8) (h4 : ¬ 4 < v) : qMn t wA wL wS wn d yl cc i := by
  rcases h with (h | h | h) | h
  · exact Or.inl ⟨h.1, h.2.1⟩
  · exact absurd h.2.2.2 h0
  · exact (qI5 h.2.1 h4).elim
  · rcases h.2.2.2 with z | z
    · exact absurd z.1 h0
    · exact absurd z.1 h8
theorem qK2_n (h : qK2 t wA wL wS wn i v) (h0 : ¬ v = 0) (h8 : ¬ v = 8) (h4 : v < 0 ∨ 4 < v) : ¬ qMn t wA wL wS wn d yl cc i := fun q => by
  rcases h with (h | h | h) | h
  · rcases h4 with z | z
    · exact qI0 h.2.2.1 (Or.inl z)
    · exact qI4 h.2.2.2 z
  · exact h0 h.2.2.2
  · rcases h.1 with z | z
    · rcases q with a | a
      · exact a.2.elim z.2.1 (fun b => b z.2.2)
      · exact a.1 z.1
    · rcases q with a | a
      · exact z.1 a.1
      · exact z.2 a.2.1
  · rcases h.2.2.2 with z | z
    · exact h0 z.1
    · exact h8 z.1
theorem qK2_c (h : qK2 t wA wL wS wn i v) (h0 : ¬ v = 0) (h8 : ¬ v = 8) : (¬ v < 0 ∧ ¬ 4 < v ∧ qMn t wA wL wS wn d yl cc i) ∨ ((v < 0 ∨ 4 < v) ∧ ¬ qMn t wA wL wS wn d yl cc i) := by
  by_cases h4 : v < 0 ∨ 4 < v
  · exact Or.inr ⟨h4, qK2_n h h0 h8 h4⟩
  · exact Or.inl ⟨fun q => h4 (Or.inl q), fun q => h4 (Or.inr q), qK2_p h h0 h8 (fun q => h4 (Or.inr q))⟩
end
theorem qMx1 {L : Nat} (h : 1 ≤ L) (hb : L ≤ 600) : (if nI L < 1 then 1 else nI L) = nI L := if_neg (nI_nlt (b := 1) h (by omega))
theorem qMx0 {L : Nat} (h : L = 0) : (if nI L < 1 then 1 else nI L) = nI 1 := by
  subst h
  decide
theorem qUpd {P : Nat → Int32 → Prop} {i : Nat} {g : Nat → Int32} {v : Int32} (h : ∀ j, j < i → P j (g j)) (hi : P i v) : ∀ j, j < i + 1 → P j (upd g i v j) := fun j hj => by
  by_cases e : j = i
  · rw [e, pk_us]
    exact hi
  · rw [pk_un e]
    exact h j (by omega)
theorem qTail {P : Nat → Int32 → Prop} {i c : Nat} {g : Nat → Int32} {v : Int32} (h : ∀ j, i ≤ j → j < c → P j (g j)) : ∀ j, i + 1 ≤ j → j < c → P j (upd g i v j) := fun j h1 h2 => by
  rw [pk_un (by omega)]
  exact h j (by omega) h2
theorem qK_both {t wA wL wS : Nat → Nat} {c i : Nat} {g : Nat → Int32} (ha : ∀ j, j < i → qK2 t wA wL wS c j (g j)) (hb : ∀ j, i ≤ j → j < c → qK1 t wA wL wS j (g j)) : ∀ v, v < c → ¬ qFi wS v → qKo t wA wL wS v (g v) := fun v hv hF => by
  rcases Nat.lt_or_ge v i with q | q
  · exact (ha v q).resolve_right (fun z => hF z.2.2.1)
  · exact (hb v q hv).resolve_right (fun z => hF z.2.2.1)
theorem qAllS0 {g f1 : Nat → Int32} {tg : Nat → Nat} {i : Nat} (h : ∀ j, j < i → g j = sb_b (tg j)) (e : f1 i = sb_b (tg i) ∧ tg i < 256) : ∀ j, j < i + 1 → upd g i (f1 i).toInt8.toInt32 j = sb_b (tg j) := fun j hj => by
  by_cases q : j = i
  · rw [q, pk_us, e.1, qb_again _ e.2]
  · rw [pk_un q]
    exact h j (by omega)
noncomputable def qMM (t : Nat → Nat) (k d : Nat) (yl : Nat → Nat) (cc : Nat → Nat → Nat) : Nat := qM8 (qCn (qMn t (qA t k) (qLn t k) (qSn t k) (qN t k) d yl cc) (qN t k))
