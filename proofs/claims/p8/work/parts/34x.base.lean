theorem mOk {v : Int32} {pn : Nat} (h : v = -1 ∨ ∃ p : Nat, p < pn ∧ v = nI p) (hne : ¬ v = -1) (hpn : pn ≤ 30) : vp_in v 30 := by
  obtain ⟨p, hp, rfl⟩ := h.resolve_left hne
  exact vp_in_nI (by omega) (by omega)
