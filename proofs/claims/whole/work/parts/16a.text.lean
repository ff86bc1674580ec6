/-! rows of texts -/
theorem x_nT {K : gKx} {PX : va_W} {G : gG} {pc : Nat} {lv : List (Option Value)} {st : List Value} {S : gS} {T : gT} {c0 s0 : Nat} (k : ∀ T1 : gT, T1 = T → Xj K PX G pc lv st S T1 c0 s0) : Xj K PX G pc lv st S T c0 s0 := k T rfl
theorem x_nTp {K : gKx} {PX : va_W} {G : gG} {pc : Nat} {lv : List (Option Value)} {st : List Value} {S : gS} {T : gT} (k : ∀ T1 : gT, T1 = T → Xj K PX G pc lv st S T1 (gpc T1) (gps T1)) : Xj K PX G pc lv st S T (gpc T) (gps T) := k T rfl
section TX
variable {K : gKx} {PX : va_W} {G : gG} {pc idx a k : Nat} {lv : List (Option Value)} {st : List Value} {S : gS} {T : gT} {c0 s0 d : Nat} {own : String} {cc : ByteArray} {tx : List Nat} {i v : Int32}
theorem x_ord (g : Gd K own cc d) (hk : k < 8) (hlk : Cond.methodLink own idx ⟨"UmbrellaSchool$Command", "ordinal", "()I"⟩ ∈ lw_tbl) (hd : 1 ≤ d) (hW : (st.map fun v => v.category).sum ≤ 8) (hdg : decode cc pc = .ok (.invokevirtual idx, 3)) (kk : Xj K PX G (pc + 3) lv (.int (nI k) :: st) S T c0 s0) : Xj K PX G pc lv (.ref ((ky K).2 k) :: st) S T c0 s0 := sorry
theorem x_strL (g : Gd K own cc d) (hk : k < 8) (hlk : Cond.methodLink own idx yJ0_length_8abf5 ∈ lw_tbl) (hd : 3 ≤ d) (hW : (st.map fun v => v.category).sum ≤ 8) (hdg : decode cc pc = .ok (.invokevirtual idx, 3)) (kk : Xj K PX G (pc + 3) lv (.int (nI (gfl k)) :: st) S T c0 s0) : Xj K PX G pc lv (.ref ((ky K).2 (20 + k)) :: st) S T c0 s0 := sorry
theorem x_strC (g : Gd K own cc d) (hk : k < 8) (hi : vp_in i (gfl k)) (hlk : Cond.methodLink own idx yJ0_charAt_5068e ∈ lw_tbl) (hd : 3 ≤ d) (hW : (st.map fun v => v.category).sum ≤ 8) (hdg : decode cc pc = .ok (.invokevirtual idx, 3)) (kk : Xj K PX G (pc + 3) lv (.int (gfc k (Int32.toNatClampNeg i)) :: st) S T c0 s0) : Xj K PX G pc lv (.int i :: .ref ((ky K).2 (20 + k)) :: st) S T c0 s0 := sorry
theorem x_sbL (g : Gd K own cc d) (ht : tg T a = some tx) (hlk : Cond.methodLink own idx yJ4_length_8abf5 ∈ lw_tbl) (hd : 8 ≤ d) (hW : (st.map fun v => v.category).sum ≤ 8) (hdg : decode cc pc = .ok (.invokevirtual idx, 3)) (kk : Xj K PX G (pc + 3) lv (.int (nI (List.length tx)) :: st) S T c0 s0) : Xj K PX G pc lv (.ref a :: st) S T c0 s0 := sorry
theorem x_sbC (g : Gd K own cc d) (ht : tg T a = some tx) (hi : vp_in i (List.length tx)) (hlk : Cond.methodLink own idx yJ4_charAt_5068e ∈ lw_tbl) (hd : 8 ≤ d) (hW : (st.map fun v => v.category).sum ≤ 8) (hdg : decode cc pc = .ok (.invokevirtual idx, 3)) (kk : Xj K PX G (pc + 3) lv (.int (nI (List.getD tx (Int32.toNatClampNeg i) 0)) :: st) S T c0 s0) : Xj K PX G pc lv (.int i :: .ref a :: st) S T c0 s0 := sorry
theorem x_sbZ (g : Gd K own cc d) (ht : tg T a = some tx) (hlk : Cond.methodLink own idx yJ4_setLength_d00df ∈ lw_tbl) (hd : 8 ≤ d) (hW : (st.map fun v => v.category).sum ≤ 8) (hdg : decode cc pc = .ok (.invokevirtual idx, 3)) (kk : Xj K PX G (pc + 3) lv st S (ts T a []) c0 s0) : Xj K PX G pc lv (.int 0 :: .ref a :: st) S T c0 s0 := sorry
theorem x_sbZp (g : Gd K own cc d) (ht : tg T a = some tx) (hlk : Cond.methodLink own idx yJ4_setLength_d00df ∈ lw_tbl) (hd : 8 ≤ d) (hW : (st.map fun v => v.category).sum ≤ 8) (hdg : decode cc pc = .ok (.invokevirtual idx, 3)) (kk : Xj K PX G (pc + 3) lv st S (ts T a []) (gpc (ts T a [])) (gps (ts T a []))) : Xj K PX G pc lv (.int 0 :: .ref a :: st) S T (gpc T) (gps T) := sorry
theorem x_sbA (g : Gd K own cc d) (ht : tg T a = some tx) (hv : 0 ≤ v ∧ v ≤ 255 ∧ gcap T a) (hl : List.length (tx ++ [Int32.toNatClampNeg v]) ≤ 70) (hlk : Cond.methodLink own idx yJ4_append_cf468 ∈ lw_tbl) (hd : 8 ≤ d) (hW : (st.map fun v => v.category).sum ≤ 8) (hdg : decode cc pc = .ok (.invokevirtual idx, 3)) (kk : Xj K PX G (pc + 3) lv (.ref a :: st) S (ts T a (tx ++ [Int32.toNatClampNeg v])) (gpc (ts T a (tx ++ [Int32.toNatClampNeg v]))) (gps (ts T a (tx ++ [Int32.toNatClampNeg v])))) : Xj K PX G pc lv (.int v :: .ref a :: st) S T (gpc T) (gps T) := sorry
theorem x_sbI (g : Gd K own cc d) (ht : tg T a = some tx) (hv : 0 ≤ v ∧ gcap T a) (hl : List.length (tx ++ gdec (Int32.toNatClampNeg v)) ≤ 70) (hlk : Cond.methodLink own idx yJ4_append_bf812 ∈ lw_tbl) (hd : 8 ≤ d) (hW : (st.map fun v => v.category).sum ≤ 8) (hdg : decode cc pc = .ok (.invokevirtual idx, 3)) (kk : Xj K PX G (pc + 3) lv (.ref a :: st) S (ts T a (tx ++ gdec (Int32.toNatClampNeg v))) (gpc (ts T a (tx ++ gdec (Int32.toNatClampNeg v)))) (gps (ts T a (tx ++ gdec (Int32.toNatClampNeg v))))) : Xj K PX G pc lv (.int v :: .ref a :: st) S T (gpc T) (gps T) := sorry
end TX
-- what doesn't throw
def gNT {α : Type} (x : Option ((String ⊕ α) × gS × gT)) : Prop := ∀ E S T, x = some (.inl E, S, T) → False
theorem NT_gd {α : Type} {P : Prop} {k : Option ((String ⊕ α) × gS × gT)} (h : gNT k) : gNT (gd P k) := fun E S T q => h E S T (gd_e q).2
theorem NT_gb {α β : Type} {x : Option β} {k : β → Option ((String ⊕ α) × gS × gT)} (h : ∀ a, gNT (k a)) : gNT (gb x k) := fun E S T q => by
  obtain ⟨a, -, q⟩ := gb_e q
  exact h a E S T q
theorem NT_gb2 {α β γ : Type} {x : Option (β × γ)} {k : β → γ → Option ((String ⊕ α) × gS × gT)} (h : ∀ a b, gNT (k a b)) : gNT (gb2 x k) := fun E S T q => by
  obtain ⟨a, b, -, q⟩ := gb2_e q
  exact h a b E S T q
theorem NT_glt {α β : Type} {x : β} {k : β → Option ((String ⊕ α) × gS × gT)} (h : gNT (k x)) : gNT (glt x k) := h
theorem NT_ite {α : Type} {c : Prop} [Decidable c] {a b : Option ((String ⊕ α) × gS × gT)} (h1 : gNT a) (h2 : gNT b) : gNT (ite c a b) := by
  by_cases h : c
  · rw [if_pos h]; exact h1
  · rw [if_neg h]; exact h2
theorem NT_ret {α : Type} {r : α} {S : gS} {T : gT} : gNT (some (.inr r, S, T)) := fun E S T q => by cases q
theorem NT_none {α : Type} : gNT (none : Option ((String ⊕ α) × gS × gT)) := fun E S T q => by cases q
