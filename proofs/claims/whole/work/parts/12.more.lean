/-! rows that decompiled bodies use beside: entry, switches, Math, references out of rows -/
theorem Ct.ofB {ad : Nat → Nat} {y : MethodName} {cc : ByteArray} {nL d mc ms : Nat} {ret : Option FieldType} {As : List Value} {G G' : gG} {S S' : gS} {T T' : gT} {v : Option Value} (hy : plainName y.cls = true) (hlen : As.length ≤ nL) (hcat : As.all (fun v => v.category == 1) = true)
    (body : ∀ K : gKx, Gd K y.cls cc d → gEnd K ret v G' S' T' → (ky K).2 = ad ∧ kN K = nL → Xj K [] G 0 (As.map some ++ List.replicate (nL - As.length) none) [] S T mc ms) : Ct ad y (Cond.code y cc nL ret :: gTb) d mc ms As G S T v G' S' T' :=
  Ct.of hy hlen (fun v hv => by simpa using List.all_eq_true.mp hcat v hv) body
theorem x_rf {K : gKx} {PX : va_W} {G : gG} {pc b : Nat} {lv : List (Option Value)} {st : List Value} {S : gS} {T : gT} {c0 s0 : Nat} (k : Xj K PX G pc lv (.ref b :: st) S T c0 s0) : Xj K PX G pc lv (va_rf (some b) :: st) S T c0 s0 := k
theorem tab_ne {x c : Int32} {z : Int} (h : ¬ x = c) (hz : c.toInt = z) : ¬ x.toInt = z := fun q => h (Int32.toInt_inj.mp (q.trans hz.symm))
theorem x_tabI {K : gKx} {PX : va_W} {G : gG} {pc : Nat} {lv : List (Option Value)} {st : List Value} {S : gS} {T : gT} {c0 s0 d : Nat} {own : String} {cc : ByteArray} {dflt lo hi : Int} {offs : Array Int} {len : Nat} {x : Int32} {off : Int} (c : Int32) (tgt : Nat) (g : Gd K own cc d) (hdg : decode cc pc = .ok (.tableswitch dflt lo hi offs, len)) (hx : x = c) (h1 : ¬ c.toInt < lo) (h2 : ¬ hi < c.toInt) (ho : offs[(c.toInt - lo).toNat]? = some off) (ht : (pc : Int) + off = (tgt : Int)) (k : Xj K PX G tgt lv st S T c0 s0) : Xj K PX G pc lv (.int x :: st) S T c0 s0 := by
  subst hx
  exact fun H locs cells slots ls Z h => lv_tableIn g.1.1 g.1.2.1 hdg h1 h2 ho ht (k H locs cells slots ls Z h)
theorem x_tabD {K : gKx} {PX : va_W} {G : gG} {pc : Nat} {lv : List (Option Value)} {st : List Value} {S : gS} {T : gT} {c0 s0 d : Nat} {own : String} {cc : ByteArray} {dflt lo hi : Int} {offs : Array Int} {len : Nat} {x : Int32} (tgt : Nat) (g : Gd K own cc d) (hdg : decode cc pc = .ok (.tableswitch dflt lo hi offs, len)) (ht : (pc : Int) + dflt = (tgt : Int)) (live : List Int) (hn : ∀ z ∈ live, ¬ x.toInt = z) (hdead : ((List.range (hi - lo + 1).toNat).all fun k => live.contains (lo + (k : Int)) || (offs[k]? == some dflt)) = true) (k : Xj K PX G tgt lv st S T c0 s0) : Xj K PX G pc lv (.int x :: st) S T c0 s0 := by
  intro H locs cells slots ls Z h
  by_cases h1 : x.toInt < lo
  · exact lv_tableOut g.1.1 g.1.2.1 hdg (Or.inl h1) ht (k H locs cells slots ls Z h)
  · by_cases h2 : hi < x.toInt
    · exact lv_tableOut g.1.1 g.1.2.1 hdg (Or.inr h2) ht (k H locs cells slots ls Z h)
    · have h3 := List.all_eq_true.mp hdead (x.toInt - lo).toNat (List.mem_range.mpr (by omega))
      rw [show lo + ((x.toInt - lo).toNat : Int) = x.toInt by omega, Bool.or_eq_true] at h3
      rcases h3 with q | q
      · exact absurd rfl (hn _ (by simpa using q))
      · exact lv_tableIn g.1.1 g.1.2.1 hdg h1 h2 (by simpa using q) ht (k H locs cells slots ls Z h)
theorem x_lkI {K : gKx} {PX : va_W} {G : gG} {pc : Nat} {lv : List (Option Value)} {st : List Value} {S : gS} {T : gT} {c0 s0 d : Nat} {own : String} {cc : ByteArray} {dflt : Int} {ps : Array (Int × Int)} {len : Nat} {x : Int32} {off : Int} (c : Int32) (tgt : Nat) (g : Gd K own cc d) (hdg : decode cc pc = .ok (.lookupswitch dflt ps, len)) (hx : x = c) (hp : (ps.toList.zip (ps.toList.drop 1)).all (fun (a, next) => a.1 < next.1) = true) (ho : Op.lookupswitch.offset ps.toList dflt c.toInt = off) (ht : (pc : Int) + off = (tgt : Int)) (k : Xj K PX G tgt lv st S T c0 s0) : Xj K PX G pc lv (.int x :: st) S T c0 s0 := by
  subst hx
  exact fun H locs cells slots ls Z h => lv_lookup g.1.1 g.1.2.1 hdg hp ho ht (k H locs cells slots ls Z h)
theorem lk_out (dflt v : Int) : ∀ ps : List (Int × Int), (∀ p ∈ ps, ¬ v = p.1) → Op.lookupswitch.offset ps dflt v = dflt := by
  intro ps
  induction ps with
  | nil => intro _; rfl
  | cons p ps ih =>
    intro h
    have h1 := h p List.mem_cons_self
    have h2 := ih (fun q hq => h q (List.mem_cons_of_mem _ hq))
    obtain ⟨a, b⟩ := p
    unfold Op.lookupswitch.offset
    rw [if_neg (fun q => h1 q.symm), h2]
theorem x_lkD {K : gKx} {PX : va_W} {G : gG} {pc : Nat} {lv : List (Option Value)} {st : List Value} {S : gS} {T : gT} {c0 s0 d : Nat} {own : String} {cc : ByteArray} {dflt : Int} {ps : Array (Int × Int)} {len : Nat} {x : Int32} (tgt : Nat) (g : Gd K own cc d) (hdg : decode cc pc = .ok (.lookupswitch dflt ps, len)) (ht : (pc : Int) + dflt = (tgt : Int)) (live : List Int) (hn : ∀ z ∈ live, ¬ x.toInt = z) (hp : (ps.toList.zip (ps.toList.drop 1)).all (fun (a, next) => a.1 < next.1) = true) (hl : (ps.toList.all fun p => live.contains p.1) = true) (k : Xj K PX G tgt lv st S T c0 s0) : Xj K PX G pc lv (.int x :: st) S T c0 s0 := by
  intro H locs cells slots ls Z h
  refine lv_lookup g.1.1 g.1.2.1 hdg hp (lk_out dflt x.toInt _ (fun p hp => ?_)) ht (k H locs cells slots ls Z h)
  have := List.all_eq_true.mp hl p hp
  exact hn _ (by simpa using this)
theorem x_mmax {K : gKx} {PX : va_W} {G : gG} {pc idx : Nat} {lv : List (Option Value)} {st : List Value} {S : gS} {T : gT} {c0 s0 d : Nat} {own : String} {cc : ByteArray} {x y : Int32} (g : Gd K own cc d) (hlk : Cond.methodLink own idx Lib.Math.max.name ∈ lw_tbl) (hd : 1 ≤ d) (hW : (st.map fun v => v.category).sum ≤ 8) (hdg : decode cc pc = .ok (.invokestatic idx, 3)) (k : Xj K PX G (pc + 3) lv (.int (if x < y then y else x) :: st) S T c0 s0) : Xj K PX G pc lv (.int y :: .int x :: st) S T c0 s0 := by
  intro H locs cells slots ls Z h
  have hr := g.2.2.2.2.2.2
  have hb := h.2.2.2.2.2
  exact va_mmax g.1.1 g.1.2.1 (g.1.2.2.1.trans h.2.2.2.2.1.1.symm) g.1.2.2.2.1 (g.tb hlk rfl) (g.tb (w_tb 960 (by decide +kernel)) rfl) (g.tb (w_tb 19 (by decide +kernel)) rfl) (g.tb (w_tb 961 (by decide +kernel)) rfl) (by rw [hr]; exact hd) (by rw [hr]; show _ ≤ 64 * d; omega) (by rw [hr]; show cells ≤ kC K; omega) (by rw [hr]; show slots ≤ kS K; omega) hdg (k H locs cells slots ls Z h)
theorem x_mmin {K : gKx} {PX : va_W} {G : gG} {pc idx : Nat} {lv : List (Option Value)} {st : List Value} {S : gS} {T : gT} {c0 s0 d : Nat} {own : String} {cc : ByteArray} {x y : Int32} (g : Gd K own cc d) (hlk : Cond.methodLink own idx Lib.Math.min.name ∈ lw_tbl) (hd : 1 ≤ d) (hW : (st.map fun v => v.category).sum ≤ 8) (hdg : decode cc pc = .ok (.invokestatic idx, 3)) (k : Xj K PX G (pc + 3) lv (.int (if y < x then y else x) :: st) S T c0 s0) : Xj K PX G pc lv (.int y :: .int x :: st) S T c0 s0 := by
  intro H locs cells slots ls Z h
  have hr := g.2.2.2.2.2.2
  have hb := h.2.2.2.2.2
  exact va_mmin g.1.1 g.1.2.1 (g.1.2.2.1.trans h.2.2.2.2.1.1.symm) g.1.2.2.2.1 (g.tb hlk rfl) (g.tb (w_tb 344 (by decide +kernel)) rfl) (g.tb (w_tb 19 (by decide +kernel)) rfl) (g.tb (w_tb 345 (by decide +kernel)) rfl) (by rw [hr]; exact hd) (by rw [hr]; show _ ≤ 64 * d; omega) (by rw [hr]; show cells ≤ kC K; omega) (by rw [hr]; show slots ≤ kS K; omega) hdg (k H locs cells slots ls Z h)
theorem lmm_X5_432 : Cond.methodLink RX5 432 Lib.Math.min.name ∈ lw_tbl := w_tb 343 (by decide +kernel)
theorem lmm_X5_409 : Cond.methodLink RX5 409 Lib.Math.max.name ∈ lw_tbl := w_tb 1284 (by decide +kernel)
theorem x_nI {K : gKx} {PX : va_W} {G : gG} {pc : Nat} {lv : List (Option Value)} {st : List Value} {S : gS} {T : gT} {c0 s0 : Nat} {x : Int32} (k : ∀ y : Int32, y = x → Xj K PX G pc lv (.int y :: st) S T c0 s0) : Xj K PX G pc lv (.int x :: st) S T c0 s0 := k x rfl
theorem x_nS {K : gKx} {PX : va_W} {G : gG} {pc : Nat} {lv : List (Option Value)} {st : List Value} {S : gS} {T : gT} {c0 s0 : Nat} (k : ∀ S1 : gS, S1 = S → Xj K PX G pc lv st S1 T c0 s0) : Xj K PX G pc lv st S T c0 s0 := k S rfl
theorem x_dr {K : gKx} {PX : va_W} {G : gG} {pc : Nat} {lv : List (Option Value)} {st : List Value} {S : gS} {T : gT} {c0 s0 : Nat} (i : Nat) (k : Xj K PX G pc (lv.set i none) st S T c0 s0) : Xj K PX G pc lv st S T c0 s0 := fun H locs cells slots ls Z h => k H locs cells slots ls Z ⟨h.1, h.2.1, h.2.2.1, h.2.2.2.1, gl_drop i h.2.2.2.2.1, h.2.2.2.2.2⟩
