/-! the law: what its cases ask -/
section LX
variable {G : gG} {S S1 S2 : gS} {T : gT} {A : aW} {N : Nat} {X : mX}
theorem wR.o (h : wR G S T A N X) : gis G 2 (ax A) ∧ gis G 3 (am A) ∧ gis G 10 (ao A) ∧ gn G (ao A) = 1 ∧ gis G 11 (aoD A) ∧ gn G (aoD A) = 1 := by
  obtain ⟨h1, h2, h3, h4, h5, h6, h7, h8, h9, h10⟩ := h.1.1
  exact ⟨h1.1, h3.1, h6, h7, h8, h9⟩
theorem ggd_ok {v : UInt64} (ok : oK A (gsd S1 (aoD A) v) S2) : ggd S2 (aoD A) = v := by
  have e : gr (gsd S1 (aoD A) v) (aoD A) = upd (upd (gr S1 (aoD A)) 0 (gdh v)) 1 (gdl v) := gr_same _ _ _
  unfold ggd
  rw [ok.2 0, ok.2 1, e]
  exact gdb_hl v
theorem share_n {a : Nat} {v : UInt32} (h : f_X5_openShare G a S = some (.inr v)) : vf_n32 v := by
  unfold f_X5_openShare at h
  obtain ⟨-, h⟩ := gd_e h
  obtain ⟨b, -, h⟩ := gb_e h
  obtain ⟨-, h⟩ := gd_e h
  obtain ⟨r, -, h⟩ := gb_e h
  split at h
  · cases h
  · obtain ⟨b2, -, h⟩ := gb_e h
    obtain ⟨-, h⟩ := gd_e h
    obtain ⟨q, h⟩ := gd_e h
    cases h
    exact q
end LX
theorem lt_neg {i L : Nat} (hi : i ≤ L) (hL : L < 5) : nI L - 5 < nI i := by
  have : ∀ L, L < 5 → ∀ i, i ≤ L → nI L - 5 < nI i := by decide
  exact this L hL i hi
theorem x_drp {K : gKx} {PX : va_W} {G : gG} {pc : Nat} {lv : List (Option Value)} {st : List Value} {S : gS} {T : gT} {c0 s0 : Nat} (i : Nat) (k : Xj K PX G pc (lv.set i none) st S T c0 s0) : Xj K PX G pc lv st S T c0 s0 := x_drop (d := 0) (own := "") (cc := ByteArray.empty) i k
