theorem qb_int : ∀ c, c < 256 → (sb_b c).toInt = if c < 128 then (c : Int) else (c : Int) - 256 := by decide +kernel
theorem qb_lo : ∀ w, w < 128 → sb_b w = nI w := by decide +kernel
theorem qb_low : ∀ c, c < 256 → 65 ≤ c ∧ c ≤ 90 → sb_b c - 65 + 97 = nI (c + 32) := by decide +kernel
theorem qb_cap : ∀ c, c < 256 → ((sb_b c < 65 ∨ 90 < sb_b c) ↔ ¬ (65 ≤ c ∧ c ≤ 90)) := by decide +kernel
theorem qb_sm : ∀ c, c < 256 → ((sb_b c < 97 ∨ 122 < sb_b c) ↔ ¬ (97 ≤ c ∧ c ≤ 122)) := by decide +kernel
theorem qn_cap : ∀ c, c < 256 → ((nI c < 65 ∨ 90 < nI c) ↔ ¬ (65 ≤ c ∧ c ≤ 90)) := by decide +kernel
theorem qn_sm : ∀ c, c < 256 → ((nI c < 97 ∨ 122 < nI c) ↔ ¬ (97 ≤ c ∧ c ≤ 122)) := by decide +kernel
theorem qb_inj {a b : Nat} (ha : a < 256) (hb : b < 256) (h : sb_b a = sb_b b) : a = b := by
  have h1 := qb_int a ha
  have h2 := qb_int b hb
  rw [h, h2] at h1
  by_cases p : a < 128
  · by_cases q : b < 128
    · rw [if_pos p, if_pos q] at h1
      omega
    · rw [if_pos p, if_neg q] at h1
      omega
  · by_cases q : b < 128
    · rw [if_neg p, if_pos q] at h1
      omega
    · rw [if_neg p, if_neg q] at h1
      omega
theorem qb_eq {c w : Nat} (hc : c < 256) (hw : w < 128) : sb_b c = nI w ↔ c = w := by
  rw [← qb_lo w hw]
  exact ⟨fun h => qb_inj hc (by omega) h, fun h => by rw [h]⟩
def qCap (c : Nat) : Prop := 65 ≤ c ∧ c ≤ 90
def qSm (c : Nat) : Prop := 97 ≤ c ∧ c ≤ 122
def qT (k : Nat) (f : Nat → Int32) (t : Nat → Nat) : Prop := ∀ i, i < k → f i = sb_b (t i) ∧ t i < 256
def qG (k : Nat) (g : Nat → Int32) (t : Nat → Nat) : Prop := ∀ i, i < k → g i = nI (t i) ∧ t i < 256
theorem qb_cap1 {c : Nat} (hc : c < 256) (h1 : ¬ sb_b c < 65) (h2 : ¬ 90 < sb_b c) : qCap c := Classical.byContradiction (fun q => ((qb_cap c hc).mpr q).elim h1 h2)
theorem qb_cap0 {c : Nat} (hc : c < 256) (h : sb_b c < 65 ∨ 90 < sb_b c) : ¬ qCap c := (qb_cap c hc).mp h
theorem qb_sm1 {c : Nat} (hc : c < 256) (h1 : ¬ sb_b c < 97) (h2 : ¬ 122 < sb_b c) : qSm c := Classical.byContradiction (fun q => ((qb_sm c hc).mpr q).elim h1 h2)
theorem qb_sm0 {c : Nat} (hc : c < 256) (h : sb_b c < 97 ∨ 122 < sb_b c) : ¬ qSm c := (qb_sm c hc).mp h
theorem qn_cap1 {c : Nat} (hc : c < 256) (h1 : ¬ nI c < 65) (h2 : ¬ 90 < nI c) : qCap c := Classical.byContradiction (fun q => ((qn_cap c hc).mpr q).elim h1 h2)
theorem qn_cap0 {c : Nat} (hc : c < 256) (h : nI c < 65 ∨ 90 < nI c) : ¬ qCap c := (qn_cap c hc).mp h
theorem qn_sm1 {c : Nat} (hc : c < 256) (h1 : ¬ nI c < 97) (h2 : ¬ 122 < nI c) : qSm c := Classical.byContradiction (fun q => ((qn_sm c hc).mpr q).elim h1 h2)
theorem qn_sm0 {c : Nat} (hc : c < 256) (h : nI c < 97 ∨ 122 < nI c) : ¬ qSm c := (qn_sm c hc).mp h
def qV (x : Int32) (s : Nat) : Nat := x.toBitVec.toNat / 2 ^ s % 256
theorem qV_lt (x : Int32) (s : Nat) : qV x s < 256 := Nat.mod_lt _ (by decide)
def qB (x s : Int32) : Int32 := ((x.toUInt32 >>> ((Int32.toUInt32 s) &&& Int32.toUInt32 31)).toInt32).toInt8.toInt32
theorem qB_v (x s : Int32) (k : Nat) (hs : ((Int32.toUInt32 s) &&& Int32.toUInt32 31).toNat % 32 = k) : qB x s = sb_b (qV x k) := by
  have e : ((x.toUInt32 >>> ((Int32.toUInt32 s) &&& Int32.toUInt32 31)).toInt32).toInt8 = (nI (qV x k)).toInt8 := by
    apply Int8.toBitVec_inj.mp
    apply BitVec.eq_of_toNat_eq
    have h1 : (((x.toUInt32 >>> ((Int32.toUInt32 s) &&& Int32.toUInt32 31)).toInt32).toInt8).toBitVec.toNat = (x.toUInt32 >>> ((Int32.toUInt32 s) &&& Int32.toUInt32 31)).toNat % 2 ^ 8 := by
      rw [Int32.toBitVec_toInt8, BitVec.signExtend_eq_setWidth_of_le _ (by decide), BitVec.toNat_setWidth]
      rfl
    have h2 : (nI (qV x k)).toInt8.toBitVec.toNat = qV x k % 2 ^ 8 := by
      rw [Int32.toBitVec_toInt8, BitVec.signExtend_eq_setWidth_of_le _ (by decide), BitVec.toNat_setWidth, pk_tn (by have := qV_lt x k; omega)]
    rw [h1, h2, UInt32.toNat_shiftRight, hs, Nat.shiftRight_eq_div_pow]
    have h3 : x.toUInt32.toNat = x.toBitVec.toNat := rfl
    rw [h3]
    unfold qV
    omega
  unfold qB sb_b
  rw [e]
theorem qV_shr (x : Int32) {s : Nat} (hs : s ≤ 24) : (x >>> (nI s &&& 31)) &&& 255 = nI (qV x s) := by
  have e : nI s &&& 31 = nI s := by
    rw [pk_andN (by omega) (m := 31) 5 (by decide), Nat.mod_eq_of_lt (by omega)]
  rw [e, pk_and _ (m := 255) 8 (by decide)]
  have h1 : (x >>> nI s).toBitVec = x.toBitVec.sshiftRight s := by
    have h2 : ((nI s).toBitVec.smod 32).toNat = s := by
      rcases (show s = 0 ∨ s = 1 ∨ s = 2 ∨ s = 3 ∨ s = 4 ∨ s = 5 ∨ s = 6 ∨ s = 7 ∨ s = 8 ∨ s = 9 ∨ s = 10 ∨ s = 11 ∨ s = 12 ∨ s = 13 ∨ s = 14 ∨ s = 15 ∨ s = 16 ∨ s = 17 ∨ s = 18 ∨ s = 19 ∨ s = 20 ∨ s = 21 ∨ s = 22 ∨ s = 23 ∨ s = 24 by omega) with rfl | rfl | rfl | rfl | rfl | rfl | rfl | rfl | rfl | rfl | rfl | rfl | rfl | rfl | rfl | rfl | rfl | rfl | rfl | rfl | rfl | rfl | rfl | rfl | rfl <;> decide
    show x.toBitVec.sshiftRight ((nI s).toBitVec.smod 32).toNat = _
    rw [h2]
  have h3 : (x.toBitVec.sshiftRight s).setWidth 8 = (x.toBitVec >>> s).setWidth 8 := by
    apply BitVec.eq_of_getLsbD_eq
    intro i hi
    rw [BitVec.getLsbD_setWidth, BitVec.getLsbD_setWidth, BitVec.getLsbD_sshiftRight, BitVec.getLsbD_ushiftRight]
    have h4 : s + i < 32 := by omega
    have h5 : i < 32 := by omega
    have h6 : ¬ 32 ≤ i := by omega
    simp [h4, h5, h6]
  have h6 := congrArg BitVec.toNat h3
  rw [BitVec.toNat_setWidth, BitVec.toNat_setWidth, BitVec.toNat_ushiftRight, Nat.shiftRight_eq_div_pow] at h6
  rw [h1, h6]
  rfl
def qPick (n : Nat) (x1 x2 x3 x4 x5 : Int32) : Int32 := if n = 0 then x1 else if n = 1 then x2 else if n = 2 then x3 else if n = 3 then x4 else x5
def qTf (t : Nat → Nat) (k : Nat) (x1 x2 x3 x4 x5 : Int32) : Nat → Nat := fun j => if j < k then t j else qV (qPick ((j - k) / 4) x1 x2 x3 x4 x5) (24 - 8 * ((j - k) % 4))
theorem qTf_lo {t : Nat → Nat} {k j : Nat} {x1 x2 x3 x4 x5 : Int32} (h : j < k) : qTf t k x1 x2 x3 x4 x5 j = t j := if_pos h
theorem qTf_hi {t : Nat → Nat} {k i n r : Nat} {x1 x2 x3 x4 x5 : Int32} (hi : i = 4 * n + r) (hr : r < 4) : qTf t k x1 x2 x3 x4 x5 (k + i) = qV (qPick n x1 x2 x3 x4 x5) (24 - 8 * r) := by
  unfold qTf
  rw [if_neg (by omega), show k + i - k = i by omega, show i / 4 = n by omega, show i % 4 = r by omega]
def qA4 (f : Nat → Int32) (k : Nat) (x : Int32) : Nat → Int32 := upd (upd (upd (upd f k (qB x 24)) (k + 1) (qB x 16)) (k + 2) (qB x 8)) (k + 3) (qB x 0)
theorem qT_4 {f : Nat → Int32} {t : Nat → Nat} {k : Nat} {x : Int32} (h : qT k f t) (h0 : t k = qV x 24) (h1 : t (k + 1) = qV x 16) (h2 : t (k + 2) = qV x 8) (h3 : t (k + 3) = qV x 0) : qT (k + 4) (qA4 f k x) t := fun i hi => by
  unfold qA4
  by_cases e3 : i = k + 3
  · rw [e3, pk_us, h3, qB_v x 0 0 (by decide)]
    exact ⟨rfl, qV_lt _ _⟩
  · rw [pk_un e3]
    by_cases e2 : i = k + 2
    · rw [e2, pk_us, h2, qB_v x 8 8 (by decide)]
      exact ⟨rfl, qV_lt _ _⟩
    · rw [pk_un e2]
      by_cases e1 : i = k + 1
      · rw [e1, pk_us, h1, qB_v x 16 16 (by decide)]
        exact ⟨rfl, qV_lt _ _⟩
      · rw [pk_un e1]
        by_cases e0 : i = k
        · rw [e0, pk_us, h0, qB_v x 24 24 (by decide)]
          exact ⟨rfl, qV_lt _ _⟩
        · rw [pk_un e0]
          exact h i (by omega)
def qF (f : Nat → Int32) (k : Nat) (x1 x2 x3 x4 x5 : Int32) : Nat → Int32 := qA4 (qA4 (qA4 (qA4 (qA4 f k x1) (k + 4) x2) (k + 8) x3) (k + 12) x4) (k + 16) x5
theorem qT_feed {f : Nat → Int32} {t : Nat → Nat} {k : Nat} {x1 x2 x3 x4 x5 : Int32} (h : qT k f t) : qT (k + 20) (qF f k x1 x2 x3 x4 x5) (qTf t k x1 x2 x3 x4 x5) := by
  have g0 : qT k f (qTf t k x1 x2 x3 x4 x5) := fun i hi => by rw [qTf_lo hi]; exact h i hi
  have g1 := qT_4 (x := x1) g0 (qTf_hi (i := 0) (n := 0) (r := 0) rfl (by decide)) (qTf_hi (i := 1) (n := 0) (r := 1) rfl (by decide)) (qTf_hi (i := 2) (n := 0) (r := 2) rfl (by decide)) (qTf_hi (i := 3) (n := 0) (r := 3) rfl (by decide))
  have g2 := qT_4 (x := x2) g1 (qTf_hi (i := 4) (n := 1) (r := 0) rfl (by decide)) (qTf_hi (i := 5) (n := 1) (r := 1) rfl (by decide)) (qTf_hi (i := 6) (n := 1) (r := 2) rfl (by decide)) (qTf_hi (i := 7) (n := 1) (r := 3) rfl (by decide))
  have g3 := qT_4 (x := x3) g2 (qTf_hi (i := 8) (n := 2) (r := 0) rfl (by decide)) (qTf_hi (i := 9) (n := 2) (r := 1) rfl (by decide)) (qTf_hi (i := 10) (n := 2) (r := 2) rfl (by decide)) (qTf_hi (i := 11) (n := 2) (r := 3) rfl (by decide))
  have g4 := qT_4 (x := x4) g3 (qTf_hi (i := 12) (n := 3) (r := 0) rfl (by decide)) (qTf_hi (i := 13) (n := 3) (r := 1) rfl (by decide)) (qTf_hi (i := 14) (n := 3) (r := 2) rfl (by decide)) (qTf_hi (i := 15) (n := 3) (r := 3) rfl (by decide))
  exact qT_4 (x := x5) g4 (qTf_hi (i := 16) (n := 4) (r := 0) rfl (by decide)) (qTf_hi (i := 17) (n := 4) (r := 1) rfl (by decide)) (qTf_hi (i := 18) (n := 4) (r := 2) rfl (by decide)) (qTf_hi (i := 19) (n := 4) (r := 3) rfl (by decide))
theorem qG_put {g : Nat → Int32} {T : Nat → Nat} {k : Nat} {v : Int32} (h : qG k g T) (hv : v = nI (T k)) (hT : T k < 256) : qG (k + 1) (upd g k v) T := fun i hi => by
  by_cases e : i = k
  · rw [e, pk_us, hv]
    exact ⟨rfl, hT⟩
  · rw [pk_un e]
    exact h i (by omega)
theorem qG_feed {g : Nat → Int32} {t : Nat → Nat} {k i n : Nat} {x x1 x2 x3 x4 x5 : Int32} (h : qG (k + i) g (qTf t k x1 x2 x3 x4 x5)) (hn : i / 4 = n) (hx : qPick n x1 x2 x3 x4 x5 = x) : qG (k + (i + 1)) (upd g (k + i) (nI (qV x (24 - 8 * (i % 4))))) (qTf t k x1 x2 x3 x4 x5) := by
  have e : qTf t k x1 x2 x3 x4 x5 (k + i) = qV x (24 - 8 * (i % 4)) := by rw [qTf_hi (i := i) (n := n) (r := i % 4) (by omega) (by omega), hx]
  exact (show qG (k + i + 1) _ _ from qG_put (k := k + i) h (by rw [e]) (by rw [e]; exact qV_lt _ _))
theorem qG_feed0 {g : Nat → Int32} {t : Nat → Nat} {k : Nat} {x1 x2 x3 x4 x5 : Int32} (h : qG k g t) : qG (k + 0) g (qTf t k x1 x2 x3 x4 x5) := fun i hi => by
  rw [qTf_lo (show i < k from hi)]
  exact h i hi
theorem qT_le {f : Nat → Int32} {t : Nat → Nat} {k k' : Nat} (h : qT k f t) (hk : k' ≤ k) : qT k' f t := fun i hi => h i (by omega)
theorem qG_le {f : Nat → Int32} {t : Nat → Nat} {k k' : Nat} (h : qG k f t) (hk : k' ≤ k) : qG k' f t := fun i hi => h i (by omega)
theorem qT_0 {f : Nat → Int32} {t : Nat → Nat} : qT 0 f t := fun i hi => absurd hi (Nat.not_lt_zero i)
theorem qG_0 {f : Nat → Int32} {t : Nat → Nat} : qG 0 f t := fun i hi => absurd hi (Nat.not_lt_zero i)
