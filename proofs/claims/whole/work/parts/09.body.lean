/-! calls without room, as the decompiled bodies use them; the words of decompiled bodies -/
theorem x_cV {K : gKx} {PX : va_W} {G : gG} {pc b kd ci idx n : Nat} {lv : List (Option Value)} {st rest As : List Value} {S S' : gS} {T : gT} {c0 s0 : Nat} {own : String} {cc : ByteArray} {d d' maxL : Nat} {ret : Option FieldType} {bytes : ByteArray} {y : MethodName} {v : Option Value} {fl : List (Nat ⊕ Nat)} {TC : u_T} {NC : Nat} {ty0 : Nat → FieldType} (st2 : List Value) (g : Gd K own cc d)
    (hC : Ct (ky K).2 y (Cond.code y bytes maxL ret :: gTb) d' 0 0 (.ref b :: As) G S T v G S' T) (hca : gCa y bytes maxL ret n) (hin : Cond.instanceMethod y ∈ lw_tbl) (hse : Cond.selects y.cls y y ∈ lw_tbl) (hlk : Cond.methodLink own idx y ∈ lw_tbl)
    (cl : gCls kd ci fl y.cls TC NC ty0) (hb : gis G kd b) (hd : d' + 1 ≤ d) (hn : As.length = n) (hst : st = As.reverse ++ .ref b :: rest) (hW : (rest.map fun v => v.category).sum ≤ 8) (hdg : decode cc pc = .ok (.invokevirtual idx, 3)) (h2 : v.toList ++ rest = st2)
    (k : Xj K PX G (pc + 3) lv st2 S' T c0 s0) : Xj K PX G pc lv st S T c0 s0 :=
  x_callV g hC hca hin hse hlk ⟨hb.1, rfl⟩ (by rw [hb.2]; exact cl.1) cl.2.1 hd (Nat.zero_le _) (Nat.zero_le _) hn hst hW hdg h2 k
theorem x_cS {K : gKx} {PX : va_W} {G : gG} {pc idx n : Nat} {lv : List (Option Value)} {st rest As : List Value} {S S' : gS} {T : gT} {c0 s0 : Nat} {own : String} {cc : ByteArray} {d d' maxL : Nat} {ret : Option FieldType} {bytes : ByteArray} {y : MethodName} {v : Option Value} (st2 : List Value) (g : Gd K own cc d)
    (hC : Ct (ky K).2 y (Cond.code y bytes maxL ret :: gTb) d' 0 0 As G S T v G S' T) (hca : gCa y bytes maxL ret n) (hstc : Cond.static y ∈ lw_tbl) (hlk : Cond.methodLink own idx y ∈ lw_tbl)
    (hd : d' + 1 ≤ d) (hn : As.length = n) (hst : st = As.reverse ++ rest) (hW : (rest.map fun v => v.category).sum ≤ 8) (hdg : decode cc pc = .ok (.invokestatic idx, 3)) (h2 : v.toList ++ rest = st2)
    (k : Xj K PX G (pc + 3) lv st2 S' T c0 s0) : Xj K PX G pc lv st S T c0 s0 :=
  x_callS g hC hca hstc hlk hd (Nat.zero_le _) (Nat.zero_le _) hn hst hW hdg h2 k
theorem x_cN {K : gKx} {PX : va_W} {G : gG} {pc idx n : Nat} {lv : List (Option Value)} {st rest As : List Value} {S S' : gS} {T : gT} {c0 s0 : Nat} {own host : String} {cc : ByteArray} {d d' maxL : Nat} {ret : Option FieldType} {bytes : ByteArray} {y : MethodName} {v : Option Value} (st2 : List Value) (g : Gd K own cc d)
    (hC : Ct (ky K).2 y (Cond.code y bytes maxL ret :: gTb) d' 0 0 As G S T v G S' T) (hca : gCa y bytes maxL ret n) (hstc : Cond.static y ∈ lw_tbl) (hlk : (own, idx, y, host) ∈ gNest)
    (hd : d' + 1 ≤ d) (hn : As.length = n) (hst : st = As.reverse ++ rest) (hW : (rest.map fun v => v.category).sum ≤ 8) (hdg : decode cc pc = .ok (.invokestatic idx, 3)) (h2 : v.toList ++ rest = st2)
    (k : Xj K PX G (pc + 3) lv st2 S' T c0 s0) : Xj K PX G pc lv st S T c0 s0 :=
  x_callN g hC hca hstc hlk hd (Nat.zero_le _) (Nat.zero_le _) hn hst hW hdg h2 k
-- the words of decompiled bodies
noncomputable def gd {α : Type} (P : Prop) (k : Option α) : Option α := @ite _ P (Classical.propDecidable P) k none
def gb {α β : Type} (x : Option α) (k : α → Option β) : Option β := x.bind k
def gb2 {α β γ : Type} (x : Option (α × β)) (k : α → β → Option γ) : Option γ := x.bind fun p => k p.1 p.2
def glt {α β : Type} (x : α) (k : α → Option β) : Option β := k x
def gz (b : Bool) : Int32 := if b = true then 1 else 0
def gN : Nat := 4096
theorem gd_e {α : Type} {P : Prop} {k : Option α} {y : α} (h : gd P k = some y) : P ∧ k = some y := by
  unfold gd at h
  by_cases q : P
  · rw [if_pos q] at h; exact ⟨q, h⟩
  · rw [if_neg q] at h; cases h
theorem gd_i {α : Type} {P : Prop} {k : Option α} (h : P) : gd P k = k := by
  unfold gd; rw [if_pos h]
theorem gb_e {α β : Type} {x : Option α} {k : α → Option β} {y : β} (h : gb x k = some y) : ∃ a, x = some a ∧ k a = some y := by
  unfold gb at h
  cases x with
  | none => cases h
  | some a => exact ⟨a, rfl, h⟩
theorem gb2_e {α β γ : Type} {x : Option (α × β)} {k : α → β → Option γ} {y : γ} (h : gb2 x k = some y) : ∃ a b, x = some (a, b) ∧ k a b = some y := by
  unfold gb2 at h
  cases x with
  | none => cases h
  | some a => exact ⟨a.1, a.2, rfl, h⟩
theorem glt_e {α β : Type} {x a : α} {k : α → Option β} {y : Option β} (e : a = x) (h : glt x k = y) : k a = y := by rw [e]; exact h
theorem ite_t {α : Type} {c : Prop} [Decidable c] {a b : α} {y : α} (q : c) (h : ite c a b = y) : a = y := by rw [if_pos q] at h; exact h
theorem ite_f {α : Type} {c : Prop} [Decidable c] {a b : α} {y : α} (q : ¬ c) (h : ite c a b = y) : b = y := by rw [if_neg q] at h; exact h
theorem gz_nar (b : Bool) : narrow .boolean (.int (gz b)) = .int (gz b) := by cases b <;> rfl
theorem x_iretS {K : gKx} {G : gG} {pc : Nat} {lv : List (Option Value)} {S S1 : gS} {T : gT} {c0 s0 d : Nat} {own : String} {cc : ByteArray} {x r : Int32} (g : Gd K own cc d) (e : gEnd K (some .int) (some (.int r)) G S1 T) (hdg : decode cc pc = .ok (.ireturn, 1)) (h1 : x = r) (h2 : S = S1) : Xj K [] G pc lv [.int x] S T c0 s0 := by
  subst h1 h2; exact x_iret g e hdg
theorem x_zretS {K : gKx} {G : gG} {pc : Nat} {lv : List (Option Value)} {S S1 : gS} {T : gT} {c0 s0 d : Nat} {own : String} {cc : ByteArray} {x : Int32} {b r : Bool} (g : Gd K own cc d) (e : gEnd K (some .boolean) (some (.int (gz r))) G S1 T) (hdg : decode cc pc = .ok (.ireturn, 1)) (hx : x = gz b) (h1 : b = r) (h2 : S = S1) : Xj K [] G pc lv [.int x] S T c0 s0 := by
  subst hx h1 h2; exact x_zret (gz_nar b) g e hdg
theorem x_cretS {K : gKx} {G : gG} {pc : Nat} {lv : List (Option Value)} {S S1 : gS} {T : gT} {c0 s0 d : Nat} {own : String} {cc : ByteArray} {x r : Int32} (g : Gd K own cc d) (e : gEnd K (some .char) (some (.int r)) G S1 T) (hdg : decode cc pc = .ok (.ireturn, 1)) (hn : narrow .char (.int x) = .int x) (h1 : x = r) (h2 : S = S1) : Xj K [] G pc lv [.int x] S T c0 s0 := by
  subst h1 h2; exact x_zret hn g e hdg
theorem x_vretS {K : gKx} {G : gG} {pc : Nat} {lv : List (Option Value)} {S S1 : gS} {T : gT} {c0 s0 d : Nat} {own : String} {cc : ByteArray} (g : Gd K own cc d) (e : gEnd K none none G S1 T) (hdg : decode cc pc = .ok (.return_, 1)) (h2 : S = S1) : Xj K [] G pc lv [] S T c0 s0 := by
  subst h2; exact x_vret g e hdg
theorem x_aretS {K : gKx} {G : gG} {pc a r : Nat} {lv : List (Option Value)} {S S1 : gS} {T : gT} {c0 s0 d : Nat} {own C : String} {cc : ByteArray} (g : Gd K own cc d) (e : gEnd K (some (.object C)) (some (.ref r)) G S1 T) (hdg : decode cc pc = .ok (.areturn, 1)) (h1 : a = r) (h2 : S = S1) : Xj K [] G pc lv [.ref a] S T c0 s0 := by
  subst h1 h2; exact x_aret (r := some a) g e hdg
theorem x_dret {K : gKx} {G : gG} {pc : Nat} {lv : List (Option Value)} {S S1 : gS} {T : gT} {c0 s0 d : Nat} {own : String} {cc : ByteArray} {x r : UInt64} (g : Gd K own cc d) (e : gEnd K (some .double) (some (.double r)) G S1 T) (hdg : decode cc pc = .ok (.dreturn, 1)) (h1 : x = r) (h2 : S = S1) : Xj K [] G pc lv [.double x] S T c0 s0 := by
  subst h1 h2
  intro H locs cells slots ls Z hat
  unfold kW
  rw [e.2]
  have hb := hat.2.2.2.2.2
  refine W.widen (k := kC K) (n := kS K) (by omega) (by omega) ?_
  exact W.dret g.1.1 g.1.2.1 e.1 (gOut hat) hat.2.2.2.1.2.2 hdg g.2.2.2.2.2.1
theorem x_fret {K : gKx} {G : gG} {pc : Nat} {lv : List (Option Value)} {S S1 : gS} {T : gT} {c0 s0 d : Nat} {own : String} {cc : ByteArray} {x r : UInt32} (g : Gd K own cc d) (e : gEnd K (some .float) (some (.float r)) G S1 T) (hdg : decode cc pc = .ok (.freturn, 1)) (h1 : x = r) (h2 : S = S1) : Xj K [] G pc lv [.float x] S T c0 s0 := by
  subst h1 h2
  intro H locs cells slots ls Z hat
  unfold kW
  rw [e.2]
  have hb := hat.2.2.2.2.2
  refine W.widen (k := kC K) (n := kS K) (by omega) (by omega) ?_
  exact W.fret g.1.1 g.1.2.1 e.1 (gOut hat) hat.2.2.2.1.2.2 hdg g.2.2.2.2.2.1
