theorem mD_tell {dn d2 i Y : Nat} {f : Nat → Int32} (h : mD dn f) (hY : Y ≤ 10) (hd : d2 = dn ∨ (d2 = dn + 1 ∧ i = dn)) : mD d2 (upd f i (nI Y)) := fun p hp => by
  by_cases e : p = i
  · rw [e, pk_us]
    exact ⟨Y, rfl, hY⟩
  · rw [pk_un e]
    exact h p (by omega)
theorem mQ_mv {qn i : Nat} {fp ft : Nat → Int32} (h : mQ qn fp ft) (hi : i + 1 < qn) : mQ qn (upd fp i (fp (i + 1))) (upd ft i (ft (i + 1))) := fun p hp => by
  by_cases e : p = i
  · rw [e, pk_us, pk_us]
    exact h (i + 1) hi
  · rw [pk_un e, pk_un e]
    exact h p hp
theorem mQ_dn {qn : Nat} {fp ft : Nat → Int32} (h : mQ qn fp ft) : mQ (qn - 1) fp ft := fun p hp => h p (by omega)
