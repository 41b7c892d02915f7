def qNm (t : Nat → Nat) (X Y : Nat) : Prop := 2 ≤ Y ∧ Y ≤ 10 ∧ qCap (t X) ∧ ∀ j, 1 ≤ j → j < Y → qSm (t (X + j))
def qLow (c : Nat) : Nat := if 65 ≤ c ∧ c ≤ 90 then c + 32 else c
theorem qLow1 {c : Nat} (h : qCap c) : qLow c = c + 32 := if_pos h
theorem qLow0 {c : Nat} (h : ¬ qCap c) : qLow c = c := if_neg h
def qWd : List (List Nat) := [[104, 101], [104, 105, 109], [104, 105, 115], [115, 104, 101], [104, 101, 114], [104, 101, 114, 115], [105, 116], [105, 116, 115], [116, 104, 101, 121], [116, 104, 101, 109], [116, 104, 101, 105, 114], [105, 115], [119, 97, 115], [97, 110, 100]]
def qW (i j : Nat) : Nat := (qWd.getD i []).getD j 0
theorem qW_ok : ∀ i, i < 14 → ∀ j, j < pLen.getD i 0 → (pByt.getD i []).getD j 0 &&& 255 = nI (qW i j) ∧ 97 ≤ qW i j ∧ qW i j ≤ 122 := by decide +kernel
def qSp (t : Nat → Nat) (X Y i : Nat) : Prop := Y = pLen.getD i 0 ∧ qLow (t X) = qW i 0 ∧ ∀ j, 1 ≤ j → j < Y → t (X + j) = qW i j
def qHe (t : Nat → Nat) (X Y : Nat) : Prop := ∃ i, i < 11 ∧ qSp t X Y i
theorem qFc {c i : Nat} (hc : qCap c) (hi : i < 14) : nI (c + 32) = (pByt.getD i []).getD 0 0 &&& 255 ↔ qLow c = qW i 0 := by
  have h := qW_ok i hi 0 (by have := (pLenB hi).1; omega)
  have h2 := hc.2
  rw [h.1, qLow1 hc, nI_eq (by omega) (by omega)]
theorem qFn {c i : Nat} (hb : c < 256) (hc : ¬ qCap c) (hi : i < 14) : sb_b c = (pByt.getD i []).getD 0 0 &&& 255 ↔ qLow c = qW i 0 := by
  have h := qW_ok i hi 0 (by have := (pLenB hi).1; omega)
  rw [h.1, qLow0 hc, qb_eq hb (by omega)]
theorem qFj {c i j : Nat} (hb : c < 256) (hi : i < 14) (hj : j < pLen.getD i 0) : sb_b c = (pByt.getD i []).getD j 0 &&& 255 ↔ c = qW i j := by
  have h := qW_ok i hi j hj
  rw [h.1, qb_eq hb (by omega)]
theorem qHe_n {t : Nat → Nat} {X Y : Nat} (h0 : ¬ qSp t X Y 0) (h1 : ¬ qSp t X Y 1) (h2 : ¬ qSp t X Y 2) (h3 : ¬ qSp t X Y 3) (h4 : ¬ qSp t X Y 4) (h5 : ¬ qSp t X Y 5) (h6 : ¬ qSp t X Y 6) (h7 : ¬ qSp t X Y 7) (h8 : ¬ qSp t X Y 8) (h9 : ¬ qSp t X Y 9) (h10 : ¬ qSp t X Y 10) : ¬ qHe t X Y := fun ⟨i, hi, h⟩ => by
  rcases (show i = 0 ∨ i = 1 ∨ i = 2 ∨ i = 3 ∨ i = 4 ∨ i = 5 ∨ i = 6 ∨ i = 7 ∨ i = 8 ∨ i = 9 ∨ i = 10 by omega) with rfl | rfl | rfl | rfl | rfl | rfl | rfl | rfl | rfl | rfl | rfl
  · exact h0 h
  · exact h1 h
  · exact h2 h
  · exact h3 h
  · exact h4 h
  · exact h5 h
  · exact h6 h
  · exact h7 h
  · exact h8 h
  · exact h9 h
  · exact h10 h
theorem qHe_3 {t : Nat → Nat} {X Y a b c : Nat} (ha : a < 11) (hb : b < 11) (hc : c < 11) (h : qSp t X Y a ∨ qSp t X Y b ∨ qSp t X Y c) : qHe t X Y := by
  rcases h with h | h | h
  · exact ⟨a, ha, h⟩
  · exact ⟨b, hb, h⟩
  · exact ⟨c, hc, h⟩
def qPk (u : Nat → Nat) : Nat → Nat
  | 0 => 0
  | n + 1 => qPk u n * 256 + u n
theorem qPk_lt {u : Nat → Nat} : ∀ {n : Nat}, (∀ j, j < n → u j < 256) → qPk u n < 256 ^ n
  | 0, _ => Nat.zero_lt_one
  | n + 1, h => by
    have h1 := qPk_lt (u := u) (n := n) (fun j hj => h j (by omega))
    have h2 := h n (by omega)
    show qPk u n * 256 + u n < 256 ^ (n + 1)
    rw [Nat.pow_succ]
    omega
theorem qPk_cong {u w : Nat → Nat} : ∀ {n : Nat}, (∀ j, j < n → u j = w j) → qPk u n = qPk w n
  | 0, _ => rfl
  | n + 1, h => by
    show qPk u n * 256 + u n = qPk w n * 256 + w n
    rw [qPk_cong (n := n) (fun j hj => h j (by omega)), h n (by omega)]
theorem qPk_inj {u w : Nat → Nat} : ∀ {n m : Nat}, (∀ j, j < n → 1 ≤ u j ∧ u j < 256) → (∀ j, j < m → 1 ≤ w j ∧ w j < 256) → qPk u n = qPk w m → n = m ∧ ∀ j, j < n → u j = w j
  | 0, 0, _, _, _ => ⟨rfl, fun j hj => absurd hj (Nat.not_lt_zero j)⟩
  | 0, m + 1, _, h2, e => by
    have h := h2 m (by omega)
    have e' : 0 = qPk w m * 256 + w m := e
    omega
  | n + 1, 0, h1, _, e => by
    have h := h1 n (by omega)
    have e' : qPk u n * 256 + u n = 0 := e
    omega
  | n + 1, m + 1, h1, h2, e => by
    have a := h1 n (by omega)
    have b := h2 m (by omega)
    have e' : qPk u n * 256 + u n = qPk w m * 256 + w m := e
    have e1 : qPk u n = qPk w m := by omega
    have e2 : u n = w m := by omega
    obtain ⟨e3, e4⟩ := qPk_inj (n := n) (m := m) (fun j hj => h1 j (by omega)) (fun j hj => h2 j (by omega)) e1
    refine ⟨by omega, fun j hj => ?_⟩
    by_cases q : j = n
    · rw [q, e2, e3]
    · exact e4 j (by omega)
theorem qPk_shl {a c : Nat} (ha : a < 256 ^ 6) (hc : c < 256) : lN a <<< (Int32.toInt64 8 &&& 63) ||| (nI c).toInt64 = lN (a * 256 + c) := by
  rw [nI_l (by omega)]
  apply Int64.toBitVec_inj.mp
  apply BitVec.eq_of_toNat_eq
  have h1 : (lN a <<< (Int32.toInt64 8 &&& 63)).toBitVec.toNat = a * 256 := by
    show (BitVec.ofNat 64 a <<< ((Int32.toInt64 8 &&& 63).toBitVec.smod 64).toNat).toNat = _
    rw [show ((Int32.toInt64 8 &&& 63).toBitVec.smod 64).toNat = 8 by decide, BitVec.toNat_shiftLeft, BitVec.toNat_ofNat, Nat.shiftLeft_eq]
    omega
  have h2 : (lN c).toBitVec.toNat = c := by
    show (BitVec.ofNat 64 c).toNat = c
    rw [BitVec.toNat_ofNat]
    omega
  have h3 : (lN (a * 256 + c)).toBitVec.toNat = a * 256 + c := by
    show (BitVec.ofNat 64 (a * 256 + c)).toNat = _
    rw [BitVec.toNat_ofNat]
    omega
  rw [h3, Int64.toBitVec_or, BitVec.toNat_or, h1, h2]
  rw [show a * 256 = a <<< 8 by rw [Nat.shiftLeft_eq], ← Nat.shiftLeft_add_eq_or_of_lt (show c < 2 ^ 8 by omega)]
def qCs : List Nat := [26725, 6842733, 6842739, 7563365, 6841714, 1751478899, 26996, 6911091, 1952998777, 1952998765, 499967682930]
theorem qCs_ok : ∀ i, i < 11 → qCs.getD i 0 = qPk (qW i) (pLen.getD i 0) := by decide +kernel
theorem qW_rg : ∀ i, i < 11 → ∀ j, j < pLen.getD i 0 → 1 ≤ qW i j ∧ qW i j < 256 := fun i hi j hj => by
  have h := qW_ok i (by omega) j hj
  omega
def qHc (a : Nat) : Prop := ∃ i, i < 11 ∧ a = qCs.getD i 0
theorem qHc_iff {u : Nat → Nat} {n : Nat} (hu : ∀ j, j < n → 1 ≤ u j ∧ u j < 256) : qHc (qPk u n) ↔ ∃ i, i < 11 ∧ n = pLen.getD i 0 ∧ ∀ j, j < n → u j = qW i j := by
  constructor
  · intro ⟨i, hi, e⟩
    rw [qCs_ok i hi] at e
    obtain ⟨h1, h2⟩ := qPk_inj hu (qW_rg i hi) e
    exact ⟨i, hi, h1, h2⟩
  · intro ⟨i, hi, h1, h2⟩
    refine ⟨i, hi, ?_⟩
    rw [qCs_ok i hi, ← h1]
    exact qPk_cong h2
theorem qHc_big {n : Nat} (h : 6 < n) : ¬ ∃ i, i < 11 ∧ n = pLen.getD i 0 := fun ⟨i, hi, e⟩ => by
  have := (pLenB (show i < 14 by omega)).2
  omega
