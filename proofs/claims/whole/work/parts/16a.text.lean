/-! rows of texts -/
theorem x_nT {K : gKx} {PX : va_W} {G : gG} {pc : Nat} {lv : List (Option Value)} {st : List Value} {S : gS} {T : gT} {c0 s0 : Nat} (k : ∀ T1 : gT, T1 = T → Xj K PX G pc lv st S T1 c0 s0) : Xj K PX G pc lv st S T c0 s0 := k T rfl
theorem x_nTp {K : gKx} {PX : va_W} {G : gG} {pc : Nat} {lv : List (Option Value)} {st : List Value} {S : gS} {T : gT} (k : ∀ T1 : gT, T1 = T → Xj K PX G pc lv st S T1 (gpc T1) (gps T1)) : Xj K PX G pc lv st S T (gpc T) (gps T) := k T rfl
theorem gvp {i : Int32} {n : Nat} (h : vp_in i n) : ∃ j : Nat, j < n ∧ j < 2 ^ 31 ∧ i = nI j ∧ Int32.toNatClampNeg i = j := by
  have h1 : ¬ i < 0 := fun q => h (Or.inl q)
  have h2 : ¬ n ≤ i.toNatClampNeg := fun q => h (Or.inr q)
  obtain ⟨j, hj, rfl⟩ := nI_of h1
  rw [nI_clamp hj] at h2
  exact ⟨j, by omega, hj, rfl, nI_clamp hj⟩
theorem tg_split {T : gT} {a : Nat} {tx : List Nat} (h : tg T a = some tx) : ∃ (T1 : gT) (cap : Nat) (T2 : gT), T = T1 ++ (a, cap, tx) :: T2 ∧ tc T a = some cap := by
  unfold tg at h
  unfold tc
  cases hf : T.find? (fun q => q.1 == a) with
  | none => rw [hf] at h; cases h
  | some q =>
    rw [hf] at h
    obtain ⟨h1, as, bs, e, -⟩ := List.find?_eq_some_iff_append.mp hf
    obtain ⟨a', cap, tx'⟩ := q
    have h1 : a' = a := by simpa using h1
    subst h1
    cases h
    exact ⟨as, cap, bs, e, rfl⟩
theorem ts_id {T : gT} {a : Nat} {tx : List Nat} (h : ∀ q ∈ T, q.1 ≠ a) : ts T a tx = T := by
  unfold ts
  conv => rhs; rw [← List.map_id T]
  exact List.map_congr_left (fun q hq => if_neg (h q hq))
theorem ts_split {T1 T2 : gT} {a cap : Nat} {tx tx' : List Nat} (h : ∀ q ∈ T1 ++ T2, q.1 ≠ a) : ts (T1 ++ (a, cap, tx) :: T2) a tx' = T1 ++ (a, sb_cap tx'.length cap, tx') :: T2 := by
  have e1 := ts_id (tx := tx') (fun q hq => h q (List.mem_append_left _ hq))
  have e2 := ts_id (tx := tx') (fun q hq => h q (List.mem_append_right _ hq))
  unfold ts at e1 e2 ⊢
  rw [List.map_append, List.map_cons, e1, e2, if_pos rfl]
theorem gpc_split {T1 T2 : gT} {a cap : Nat} {tx : List Nat} : gpc (T1 ++ (a, cap, tx) :: T2) = gpc T1 + (gpot cap + gpc T2) := by
  unfold gpc
  rw [List.map_append, List.map_cons, List.sum_append, List.sum_cons]
theorem gps_split {T1 T2 : gT} {a cap : Nat} {tx : List Nat} : gps (T1 ++ (a, cap, tx) :: T2) = gps T1 + (gpos cap + gps T2) := by
  unfold gps
  rw [List.map_append, List.map_cons, List.sum_append, List.sum_cons]
theorem gbud {cap q : Nat} (hc : cap = 16 ∨ cap = 34 ∨ cap = 70) (hq : q ≤ 70) (hq2 : q ≤ cap + 10) : sb_cap q cap ≤ 65536 ∧ gmc q cap + gpot (sb_cap q cap) ≤ gpot cap ∧ gms q cap + gpos (sb_cap q cap) ≤ gpos cap := by
  by_cases h : q ≤ cap
  · have e : sb_cap q cap = cap := if_pos h
    rw [e, show gmc q cap = 0 from if_pos h, show gms q cap = 0 from if_pos h]
    omega
  · rw [show gmc q cap = 1 from if_neg h, show gms q cap = sb_cap q cap from if_neg h]
    rcases hc with rfl | rfl | rfl
    · have e : sb_cap q 16 = 34 := by
        unfold sb_cap
        rw [if_neg h, if_neg (by omega)]
      rw [e]
      decide
    · have e : sb_cap q 34 = 70 := by
        unfold sb_cap
        rw [if_neg h, if_neg (by omega)]
      rw [e]
      decide
    · omega
theorem x_less {K : gKx} {PX : va_W} {G : gG} {pc : Nat} {lv : List (Option Value)} {st : List Value} {S : gS} {T : gT} {c0 s0 c1 s1 : Nat} (hc : c1 ≤ c0) (hs : s1 ≤ s0) (k : Xj K PX G pc lv st S T c1 s1) : Xj K PX G pc lv st S T c0 s0 := fun H locs cells slots ls Z h => k H locs cells slots ls Z ⟨h.1, h.2.1, h.2.2.1, h.2.2.2.1, h.2.2.2.2.1, by have := h.2.2.2.2.2; omega⟩
section TX
variable {K : gKx} {PX : va_W} {G : gG} {pc idx a k : Nat} {lv : List (Option Value)} {st : List Value} {S : gS} {T : gT} {c0 s0 d : Nat} {own : String} {cc : ByteArray} {tx : List Nat} {i v : Int32}
theorem x_ord (g : Gd K own cc d) (hk : k < 8) (hlk : Cond.methodLink own idx ⟨"UmbrellaSchool$Command", "ordinal", "()I"⟩ ∈ lw_tbl) (hd : 1 ≤ d) (hW : (st.map fun v => v.category).sum ≤ 8) (hdg : decode cc pc = .ok (.invokevirtual idx, 3)) (kk : Xj K PX G (pc + 3) lv (.int (nI k) :: st) S T c0 s0) : Xj K PX G pc lv (.ref ((ky K).2 k) :: st) S T c0 s0 := by
  refine x_run (a := (Value.ref ((ky K).2 k) :: []).toArray) (mc := 0) (ms := 0) (v := some (.int (nI k))) (rest := st) g (Nat.zero_le _) (Nat.zero_le _) rfl (fun H locs cells slots ls Z hat hcap => ?_) kk
  have hM := kOrd (ad := (ky K).2) (G := G) (S := S) (T := T) hk (kl K) (kD K) (ky K).1 Z H.size g.2.2.2.1 hat.1
  have hr := gRoom (d' := 0) (mc := 0) (ms := 0) g hd ca_Jx29ce0_ordinal_8abf5.2.2.2
  obtain ⟨cell, h1, h2, h3, -⟩ := ((g.2.2.1.2.2.1.1 k hk).2.1).kept hat.2.2.2.1.2.1
  refine va_runU (cc := cc) (nL := kN K) (Ts := gTb) (own := own) (n := 0) (x := ⟨"UmbrellaSchool$Command", "ordinal", "()I"⟩) (y := yJx29ce0_ordinal_8abf5) (owner := "java/lang/Enum") (C := "UmbrellaSchool$Command") g.1 hM
    ⟨⟨rfl, rfl, hr.1, hr.2, pay_in g.1.2.2.2.2 (gGood ca_Jx29ce0_ordinal_8abf5.1), List.mem_cons_self⟩, g.tb ca_Jx29ce0_ordinal_8abf5.1 rfl, g.tb ca_Jx29ce0_ordinal_8abf5.2.1 rfl, ⟨by decide, by decide⟩, ?_, g.tb hlk rfl, g.tb (w_tb 371 (by decide +kernel)) rfl, va_Decl.of (g.tb in_Jx29ce0_ordinal_8abf5 rfl) (g.tb ca_Jx29ce0_ordinal_8abf5.1 rfl), g.tb (w_tb 373 (by decide +kernel)) rfl, g.tb in_Jx29ce0_ordinal_8abf5 rfl⟩
    ⟨gF_blind, ⟨cell, h1, h2, h3⟩, fun U hU hW => ⟨rfl, gGive g hat U hU hW⟩⟩ rfl rfl hat.2.2.2.2.1.1 rfl (lv_room hW) hdg hcap
  intro sig h
  have h2 := ca_Jx29ce0_ordinal_8abf5.2.2.1.2.2
  have h3 : (parseMethodDescriptor "()I").map (fun d => d.parameters.length) = some 0 := h2
  have h4 : parseMethodDescriptor "()I" = some sig := h
  rw [h4] at h3
  exact (Option.some.inj h3).symm
theorem x_strL (g : Gd K own cc d) (hk : k < 8) (hlk : Cond.methodLink own idx yJ0_length_8abf5 ∈ lw_tbl) (hd : 4 ≤ d) (hW : (st.map fun v => v.category).sum ≤ 8) (hdg : decode cc pc = .ok (.invokevirtual idx, 3)) (kk : Xj K PX G (pc + 3) lv (.int (nI (gfl k)) :: st) S T c0 s0) : Xj K PX G pc lv (.ref ((ky K).2 (20 + k)) :: st) S T c0 s0 :=
  x_callVK _ g hk (kJ0_length hk) ca_J0_length_8abf5 in_J0_length_8abf5 se_J0_length_8abf5 hlk (by omega) rfl rfl hW hdg rfl kk
theorem x_strC (g : Gd K own cc d) (hk : k < 8) (hi : vp_in i (gfl k)) (hlk : Cond.methodLink own idx yJ0_charAt_5068e ∈ lw_tbl) (hd : 4 ≤ d) (hW : (st.map fun v => v.category).sum ≤ 8) (hdg : decode cc pc = .ok (.invokevirtual idx, 3)) (kk : Xj K PX G (pc + 3) lv (.int (gfc k (Int32.toNatClampNeg i)) :: st) S T c0 s0) : Xj K PX G pc lv (.int i :: .ref ((ky K).2 (20 + k)) :: st) S T c0 s0 := by
  obtain ⟨j, hj, -, rfl, ej⟩ := gvp hi
  rw [ej] at kk
  exact x_callVK (As := [.int (nI j)]) _ g hk (kJ0_charAt hk hj) ca_J0_charAt_5068e in_J0_charAt_5068e se_J0_charAt_5068e hlk hd rfl rfl hW hdg rfl kk
theorem x_sbL (g : Gd K own cc d) (ht : tg T a = some tx) (hlk : Cond.methodLink own idx yJ4_length_8abf5 ∈ lw_tbl) (hd : 8 ≤ d) (hW : (st.map fun v => v.category).sum ≤ 8) (hdg : decode cc pc = .ok (.invokevirtual idx, 3)) (kk : Xj K PX G (pc + 3) lv (.int (nI (List.length tx)) :: st) S T c0 s0) : Xj K PX G pc lv (.ref a :: st) S T c0 s0 := by
  obtain ⟨T1, cap, T2, rfl, hc⟩ := tg_split ht
  exact x_frame (fun PX' k => x_callVT _ g kJ4_length ca_J4_length_8abf5 in_J4_length_8abf5 (g.tb se_J4_length_8abf5 rfl) hlk (by omega) (Nat.zero_le _) (Nat.zero_le _) rfl rfl hW hdg rfl k) kk
theorem x_sbC (g : Gd K own cc d) (ht : tg T a = some tx) (hi : vp_in i (List.length tx)) (hlk : Cond.methodLink own idx yJ4_charAt_5068e ∈ lw_tbl) (hd : 8 ≤ d) (hW : (st.map fun v => v.category).sum ≤ 8) (hdg : decode cc pc = .ok (.invokevirtual idx, 3)) (kk : Xj K PX G (pc + 3) lv (.int (nI (List.getD tx (Int32.toNatClampNeg i) 0)) :: st) S T c0 s0) : Xj K PX G pc lv (.int i :: .ref a :: st) S T c0 s0 := by
  obtain ⟨T1, cap, T2, rfl, hc⟩ := tg_split ht
  obtain ⟨j, hj, -, rfl, ej⟩ := gvp hi
  rw [ej] at kk
  exact x_frame (fun PX' k => x_callVT (As := [.int (nI j)]) _ g (kJ4_charAt hj) ca_J4_charAt_5068e in_J4_charAt_5068e (g.tb se_J4_charAt_5068e rfl) hlk (by omega) (Nat.zero_le _) (Nat.zero_le _) rfl rfl hW hdg rfl k) kk
theorem x_sbZ (g : Gd K own cc d) (ht : tg T a = some tx) (hlk : Cond.methodLink own idx yJ4_setLength_d00df ∈ lw_tbl) (hd : 8 ≤ d) (hW : (st.map fun v => v.category).sum ≤ 8) (hdg : decode cc pc = .ok (.invokevirtual idx, 3)) (kk : Xj K PX G (pc + 3) lv st S (ts T a []) c0 s0) : Xj K PX G pc lv (.int 0 :: .ref a :: st) S T c0 s0 := by
  obtain ⟨T1, cap, T2, rfl, hc⟩ := tg_split ht
  refine x_uT (fun hu => ?_)
  rw [ts_split hu] at kk
  exact x_frame (fun PX' k => x_callVT (As := [.int 0]) _ g kJ4_setLength ca_J4_setLength_d00df in_J4_setLength_d00df (g.tb se_J4_setLength_d00df rfl) hlk (by omega) (Nat.zero_le _) (Nat.zero_le _) rfl rfl hW hdg rfl k) kk
theorem x_sbZp (g : Gd K own cc d) (ht : tg T a = some tx) (hlk : Cond.methodLink own idx yJ4_setLength_d00df ∈ lw_tbl) (hd : 8 ≤ d) (hW : (st.map fun v => v.category).sum ≤ 8) (hdg : decode cc pc = .ok (.invokevirtual idx, 3)) (kk : Xj K PX G (pc + 3) lv st S (ts T a []) (gpc (ts T a [])) (gps (ts T a []))) : Xj K PX G pc lv (.int 0 :: .ref a :: st) S T (gpc T) (gps T) := by
  obtain ⟨T1, cap, T2, rfl, hc⟩ := tg_split ht
  refine x_uT (fun hu => ?_)
  have hz : sb_cap ([] : List Nat).length cap = cap := if_pos (Nat.zero_le _)
  have e1 : gpc (ts (T1 ++ (a, cap, tx) :: T2) a []) = gpc (T1 ++ (a, cap, tx) :: T2) := by rw [ts_split hu, gpc_split, gpc_split, hz]
  have e2 : gps (ts (T1 ++ (a, cap, tx) :: T2) a []) = gps (T1 ++ (a, cap, tx) :: T2) := by rw [ts_split hu, gps_split, gps_split, hz]
  rw [e1, e2] at kk
  exact x_sbZ g ht hlk hd hW hdg kk
theorem gcap_of {T1 T2 : gT} {cap : Nat} (h : gcap T a) (hc : tc T a = some cap) : cap = 16 ∨ cap = 34 ∨ cap = 70 := by
  unfold gcap at h
  rw [hc] at h
  rcases h with h | h | h
  · exact Or.inl (Option.some.inj h)
  · exact Or.inr (Or.inl (Option.some.inj h))
  · exact Or.inr (Or.inr (Option.some.inj h))
theorem x_sbA (g : Gd K own cc d) (ht : tg T a = some tx) (hv : 0 ≤ v ∧ v ≤ 255 ∧ gcap T a) (hl : List.length (tx ++ [Int32.toNatClampNeg v]) ≤ 70) (hlk : Cond.methodLink own idx yJ4_append_cf468 ∈ lw_tbl) (hd : 8 ≤ d) (hW : (st.map fun v => v.category).sum ≤ 8) (hdg : decode cc pc = .ok (.invokevirtual idx, 3)) (kk : Xj K PX G (pc + 3) lv (.ref a :: st) S (ts T a (tx ++ [Int32.toNatClampNeg v])) (gpc (ts T a (tx ++ [Int32.toNatClampNeg v]))) (gps (ts T a (tx ++ [Int32.toNatClampNeg v])))) : Xj K PX G pc lv (.int v :: .ref a :: st) S T (gpc T) (gps T) := by
  obtain ⟨T1, cap, T2, rfl, hc⟩ := tg_split ht
  have hcap := gcap_of (T1 := T1) (T2 := T2) hv.2.2 hc
  obtain ⟨c, hcc, rfl⟩ := nI_of (x := v) (fun q => absurd hv.1 (by rw [Int32.le_iff_toInt_le]; rw [Int32.lt_iff_toInt_lt] at q; omega))
  have hc255 : c < 256 := by
    have := hv.2.1
    rw [Int32.le_iff_toInt_le, nI_toInt hcc, show (255 : Int32).toInt = 255 from by decide] at this
    omega
  rw [nI_clamp hcc] at kk hl
  refine x_uT (fun hu => x_iT (fun i1 i2 i3 => ?_))
  rw [ts_split hu, gpc_split, gps_split] at kk
  rw [List.length_append] at hl kk
  have hl : tx.length + 1 ≤ 70 := hl
  obtain ⟨b1, b2, b3⟩ := gbud (q := tx.length + 1) hcap hl (by omega)
  rw [gpc_split, gps_split]
  have kk : Xj K PX G (pc + 3) lv (.ref a :: st) S (T1 ++ (a, sb_cap (tx.length + 1) cap, tx ++ [c]) :: T2) (gpc T1 + (gpot (sb_cap (tx.length + 1) cap) + gpc T2)) (gps T1 + (gpos (sb_cap (tx.length + 1) cap) + gps T2)) := kk
  exact x_frame (fun PX' k => x_callVT (As := [.int (nI c)]) _ g (kJ4_appendC hc255 (by omega) b1) ca_J4_append_cf468 in_J4_append_cf468 (g.tb se_J4_append_cf468 rfl) hlk (by omega) (by omega) (by omega) rfl rfl hW hdg rfl (x_less (c1 := gpc T1 + (gpot (sb_cap (tx.length + 1) cap) + gpc T2)) (s1 := gps T1 + (gpos (sb_cap (tx.length + 1) cap) + gps T2)) (by omega) (by omega) k)) kk
theorem x_sbI (g : Gd K own cc d) (ht : tg T a = some tx) (hv : 0 ≤ v ∧ gcap T a) (hl : List.length (tx ++ gdec (Int32.toNatClampNeg v)) ≤ 70) (hlk : Cond.methodLink own idx yJ4_append_bf812 ∈ lw_tbl) (hd : 8 ≤ d) (hW : (st.map fun v => v.category).sum ≤ 8) (hdg : decode cc pc = .ok (.invokevirtual idx, 3)) (kk : Xj K PX G (pc + 3) lv (.ref a :: st) S (ts T a (tx ++ gdec (Int32.toNatClampNeg v))) (gpc (ts T a (tx ++ gdec (Int32.toNatClampNeg v)))) (gps (ts T a (tx ++ gdec (Int32.toNatClampNeg v))))) : Xj K PX G pc lv (.int v :: .ref a :: st) S T (gpc T) (gps T) := by
  obtain ⟨T1, cap, T2, rfl, hc⟩ := tg_split ht
  have hcap := gcap_of (T1 := T1) (T2 := T2) hv.2 hc
  obtain ⟨c, hcc, rfl⟩ := nI_of (x := v) (fun q => absurd hv.1 (by rw [Int32.le_iff_toInt_le]; rw [Int32.lt_iff_toInt_lt] at q; omega))
  have hd9 := (sb_dg_in c).2
  rw [nI_clamp hcc] at kk hl
  refine x_uT (fun hu => x_iT (fun i1 i2 i3 => ?_))
  rw [ts_split hu, gpc_split, gps_split] at kk
  rw [List.length_append, gdec_len] at hl kk
  obtain ⟨b1, b2, b3⟩ := gbud (q := tx.length + sb_dg c) hcap hl (by omega)
  rw [gpc_split, gps_split]
  exact x_frame (fun PX' k => x_callVT (As := [.int (nI c)]) _ g (kJ4_appendI hcc (by omega) b1) ca_J4_append_bf812 in_J4_append_bf812 (g.tb se_J4_append_bf812 rfl) hlk (by omega) (by omega) (by omega) rfl rfl hW hdg rfl (x_less (c1 := gpc T1 + (gpot (sb_cap (tx.length + sb_dg c) cap) + gpc T2)) (s1 := gps T1 + (gpos (sb_cap (tx.length + sb_dg c) cap) + gps T2)) (by omega) (by omega) k)) kk
end TX
-- what doesn't throw
def gNT {α : Type} (x : Option ((String ⊕ α) × gS × gT)) : Prop := ∀ E S T, x = some (.inl E, S, T) → False
theorem NT_gd {α : Type} {P : Prop} {k : Option ((String ⊕ α) × gS × gT)} (h : gNT k) : gNT (gd P k) := fun E S T q => h E S T (gd_e q).2
theorem NT_gb {α β : Type} {x : Option β} {k : β → Option ((String ⊕ α) × gS × gT)} (h : ∀ a, gNT (k a)) : gNT (gb x k) := fun E S T q => by
  obtain ⟨a, -, q⟩ := gb_e q
  exact h a E S T q
theorem NT_gb2 {α β γ : Type} {x : Option (β × γ)} {k : β → γ → Option ((String ⊕ α) × gS × gT)} (h : ∀ a b, gNT (k a b)) : gNT (gb2 x k) := fun E S T q => by
  obtain ⟨a, b, -, q⟩ := gb2_e q
  exact h a b E S T q
theorem NT_glt {α β : Type} {x : β} {k : β → Option ((String ⊕ α) × gS × gT)} (h : gNT (k x)) : gNT (glt x k) := h
theorem NT_ite {α : Type} {c : Prop} [Decidable c] {a b : Option ((String ⊕ α) × gS × gT)} (h1 : gNT a) (h2 : gNT b) : gNT (ite c a b) := by
  by_cases h : c
  · rw [if_pos h]; exact h1
  · rw [if_neg h]; exact h2
theorem NT_ret {α : Type} {r : α} {S : gS} {T : gT} : gNT (some (.inr r, S, T)) := fun E S T q => by cases q
theorem NT_none {α : Type} : gNT (none : Option ((String ⊕ α) × gS × gT)) := fun E S T q => by cases q
