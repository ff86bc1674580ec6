/-! what words and classes are, ahead of the layer -/
def gTb : List Cond := lw_tbl.filter goodWord
def gCa (y : MethodName) (bytes : ByteArray) (maxL : Nat) (ret : Option FieldType) (n : Nat) : Prop := Cond.code y bytes maxL ret ∈ lw_tbl ∧ Cond.initialized y.cls ∈ lw_tbl ∧ (y.cls ≠ "java/lang/invoke/MethodHandle" ∧ y.cls ≠ "java/lang/invoke/VarHandle" ∧ (parseMethodDescriptor y.desc).map (fun d => d.parameters.length) = some n) ∧ maxL ≤ 40
-- the fields of each kind: .inl an int field's number, .inr a reference field's
def gkt : Nat → Option (Nat × List (Nat ⊕ Nat)) := fun k => match k with
  | 0 => some (4, [.inr 0, .inl 0, .inl 1, .inl 2, .inl 3, .inl 4, .inl 5, .inl 6])
  | 1 => some (5, [.inr 1, .inr 2, .inr 3, .inr 4, .inl 10, .inl 11, .inl 12, .inl 13, .inl 14, .inl 15, .inl 16, .inl 17])
  | 2 => some (6, [.inr 5, .inr 6, .inr 7, .inr 8, .inr 9, .inl 20, .inl 21, .inl 22, .inl 23])
  | 3 => some (7, [.inl 30, .inr 10, .inr 11, .inr 12, .inr 13, .inl 31, .inl 32, .inl 33, .inr 14, .inl 34, .inr 15, .inl 35, .inl 36, .inl 37, .inl 38, .inr 16, .inl 39, .inl 40])
  | 4 => some (1, [.inr 20, .inl 50, .inl 51, .inl 52])
  | _ => none
def gCls (kd ci : Nat) (fl : List (Nat ⊕ Nat)) (C : String) (TC : u_T) (NC : Nat) (ty0 : Nat → FieldType) : Prop := gkt kd = some (ci, fl) ∧ vwCl[ci]? = some (C, TC, NC) ∧ (∀ w ∈ u_ws C TC NC, w ∈ gTb) ∧ (∀ k, k < NC → parseFieldDescriptor (TC k).2.2.1 = some (ty0 k)) ∧ (∀ a, a < NC → ∀ b, b < NC → a ≠ b → (TC a).2.1 ≠ (TC b).2.1) ∧ fl.length = NC
