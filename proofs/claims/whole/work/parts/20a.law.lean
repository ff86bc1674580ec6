/-! the law: words, decode rows, rows (laid by wip/whole/mklaw.py) -/
theorem gdb_hl (x : UInt64) : gdb (gdh x) (gdl x) = x := by
  unfold gdb gdh gdl
  apply UInt64.toNat_inj.mp
  show ((x >>> 32).toUInt32.toUInt64 <<< 32 ||| x.toUInt32.toUInt64).toNat = x.toNat
  rw [UInt64.toNat_or, UInt64.toNat_shiftLeft, UInt32.toNat_toUInt64, UInt32.toNat_toUInt64, UInt64.toNat_toUInt32, UInt64.toNat_toUInt32, UInt64.toNat_shiftRight]
  have hx := x.toNat_lt
  rw [show (32 : UInt64).toNat % 64 = 32 from rfl, Nat.shiftRight_eq_div_pow]
  have e1 : x.toNat / 2 ^ 32 % 2 ^ 32 = x.toNat / 2 ^ 32 := Nat.mod_eq_of_lt (by omega)
  rw [e1, Nat.mod_eq_of_lt (by rw [Nat.shiftLeft_eq]; omega), ← Nat.shiftLeft_add_eq_or_of_lt (Nat.mod_lt _ (by decide)), Nat.shiftLeft_eq]
  omega
def gsd (S : gS) (a : Nat) (x : UInt64) : gS := srow S a (upd (upd (gr S a) 0 (gdh x)) 1 (gdl x))
def ggd (S : gS) (a : Nat) : UInt64 := gdb (gr S a 0) (gr S a 1)
section LR
variable {K : gKx} {PX : va_W} {G : gG} {pc a : Nat} {lv : List (Option Value)} {st : List Value} {S : gS} {T : gT} {c0 s0 d : Nat} {own : String} {cc : ByteArray}
theorem x_lconst {n : Fin 2} {v : Int64} (g : Gd K own cc d) (hdg : decode cc pc = .ok (.lconst n, 1)) (hv : Int64.ofNat (n : Nat) = v) (k : Xj K PX G (pc + 1) lv (.long v :: st) S T c0 s0) : Xj K PX G pc lv st S T c0 s0 := fun H locs cells slots ls Z h => lv_lconst g.1.1 g.1.2.1 hdg hv (k H locs cells slots ls Z h)
theorem x_lcmp {x y : Int64} (g : Gd K own cc d) (hdg : decode cc pc = .ok (.lcmp, 1)) (k : Xj K PX G (pc + 1) lv (.int (lg_cmp x y) :: st) S T c0 s0) : Xj K PX G pc lv (.long y :: .long x :: st) S T c0 s0 := fun H locs cells slots ls Z h => W.lcmp g.1.1 g.1.2.1 hdg (k H locs cells slots ls Z h)
theorem x_dcmp {x y : UInt64} {op : CmpOp} (g : Gd K own cc d) (hdg : decode cc pc = .ok (.dcmp op, 1)) (k : Xj K PX G (pc + 1) lv (.int (Op.cmpValue (FP.dcmp x y) op) :: st) S T c0 s0) : Xj K PX G pc lv (.double y :: .double x :: st) S T c0 s0 := fun H locs cells slots ls Z h => lv_dcmp g.1.1 g.1.2.1 hdg (k H locs cells slots ls Z h)
theorem x_fcmp {x y : UInt32} {op : CmpOp} (g : Gd K own cc d) (hdg : decode cc pc = .ok (.fcmp op, 1)) (k : Xj K PX G (pc + 1) lv (.int (Op.cmpValue (FP.fcmp x y) op) :: st) S T c0 s0) : Xj K PX G pc lv (.float y :: .float x :: st) S T c0 s0 := fun H locs cells slots ls Z h => lv_fcmp g.1.1 g.1.2.1 hdg (k H locs cells slots ls Z h)
theorem x_lald {i : Int32} (g : Gd K own cc d) (hdg : decode cc pc = .ok (.laload, 1)) (ha : gis G 10 a) (hin : vp_in i (gn G a)) (kk : Xj K PX G (pc + 1) lv (.long (gr S a i.toNatClampNeg).toInt64 :: st) S T c0 s0) : Xj K PX G pc lv (.int i :: .ref a :: st) S T c0 s0 := by
  intro H locs cells slots ls Z h
  obtain ⟨q0, hq⟩ := gFind (cy := ky K) (PX := PX ++ Z) (S := S) ha.1
  rw [gce_l ha.2] at hq
  exact va_lald (D := kD K) g.1.1 g.1.2.1 g.2.1.1 h.2.1 q0 5 hq rfl hin hdg (kk H locs cells slots ls Z h)
theorem x_dald (g : Gd K own cc d) (hdg : decode cc pc = .ok (.daload, 1)) (ha : gis G 11 a) (hin : vp_in (0 : Int32) (gn G a)) (kk : Xj K PX G (pc + 1) lv (.double (ggd S a) :: st) S T c0 s0) : Xj K PX G pc lv (.int 0 :: .ref a :: st) S T c0 s0 := by
  intro H locs cells slots ls Z h
  obtain ⟨q0, hq⟩ := gFind (cy := ky K) (PX := PX ++ Z) (S := S) ha.1
  rw [gce_d ha.2] at hq
  exact va_dald (D := kD K) (i := 0) g.1.1 g.1.2.1 g.2.1.1 h.2.1 q0 6 hq rfl hin hdg (kk H locs cells slots ls Z h)
theorem x_last {i v : Int32} (g : Gd K own cc d) (hdg : decode cc pc = .ok (.lastore, 1)) (ha : gis G 10 a) (hin : vp_in i (gn G a)) (kk : Xj K PX G (pc + 1) lv st (sr S a i.toNatClampNeg v) T c0 s0) : Xj K PX G pc lv (.long v.toInt64 :: .int i :: .ref a :: st) S T c0 s0 := by
  intro H locs cells slots ls Z h
  obtain ⟨q0, hq⟩ := gFind (cy := ky K) (PX := PX ++ Z) (S := S) ha.1
  have hq2 := hq
  rw [gce_l ha.2] at hq
  refine va_last (D := kD K) g.1.1 g.1.2.1 g.2.1.1 h.2.1 h.2.2.1 h.2.2.2.1 q0 5 hq rfl hin hdg (fun H1 locs1 hP hD hS => ?_)
  have e : ((PX ++ Z) ++ gw (ky K) G S).set q0 (a, .inl ((ky K).1 5, gn G a, .inr (.inl (vp_updL (fun i => (gr S a i).toInt64) i.toNatClampNeg v.toInt64)))) = (PX ++ Z) ++ gw (ky K) G (srow S a (upd (gr S a) i.toNatClampNeg v)) := gPut h.2.2.1 ha.1 hq2 (gup_row (cy := ky K) (G := G) (S := S) (upd (gr S a) i.toNatClampNeg v) _ (by
    rw [gce_l ha.2, gr_row]
    congr 5
    funext j
    unfold vp_updL upd
    split <;> rfl))
  rw [e, ← sr_srow] at hP hD
  exact kk H1 locs1 cells slots ls Z ⟨h.1, hP, hD, hS, h.2.2.2.2⟩
theorem x_dast {x : UInt64} (g : Gd K own cc d) (hdg : decode cc pc = .ok (.dastore, 1)) (ha : gis G 11 a) (hin : vp_in (0 : Int32) (gn G a)) (kk : Xj K PX G (pc + 1) lv st (gsd S a x) T c0 s0) : Xj K PX G pc lv (.double x :: .int 0 :: .ref a :: st) S T c0 s0 := by
  intro H locs cells slots ls Z h
  obtain ⟨q0, hq⟩ := gFind (cy := ky K) (PX := PX ++ Z) (S := S) ha.1
  have hq2 := hq
  rw [gce_d ha.2] at hq
  refine va_dast (D := kD K) (i := 0) g.1.1 g.1.2.1 g.2.1.1 h.2.1 h.2.2.1 h.2.2.2.1 q0 6 hq rfl hin hdg (fun H1 locs1 hP hD hS => ?_)
  have e : ((PX ++ Z) ++ gw (ky K) G S).set q0 (a, .inl ((ky K).1 6, gn G a, .inr (.inr (.inr (.inl (vf_upd (fun i => gdb (gr S a (2 * i)) (gr S a (2 * i + 1))) (0 : Int32).toNatClampNeg x)))))) = (PX ++ Z) ++ gw (ky K) G (gsd S a x) := gPut h.2.2.1 ha.1 hq2 (gup_row (cy := ky K) (G := G) (S := S) (upd (upd (gr S a) 0 (gdh x)) 1 (gdl x)) _ (by
    rw [gce_d ha.2, gr_row, sb_cl0]
    congr 7
    funext j
    unfold vf_upd upd
    by_cases hj : j = 0
    · subst hj
      rw [if_pos rfl, if_neg (by omega), if_pos (by omega), if_pos (by omega)]
      exact (gdb_hl x).symm
    · rw [if_neg hj, if_neg (by omega), if_neg (by omega), if_neg (by omega), if_neg (by omega)]))
  rw [e] at hP hD
  exact kk H1 locs1 cells slots ls Z ⟨h.1, hP, hD, hS, h.2.2.2.2⟩
end LR
-- contracts of methods with a table of handlers
def gCaH (y : MethodName) (bytes : ByteArray) (maxL : Nat) (ret : Option FieldType) (hh : List (Nat × Nat × Nat × Nat)) (n : Nat) : Prop := Cond.codeWith y bytes maxL ret hh ∈ lw_tbl ∧ Cond.initialized y.cls ∈ lw_tbl ∧ (y.cls ≠ "java/lang/invoke/MethodHandle" ∧ y.cls ≠ "java/lang/invoke/VarHandle" ∧ (parseMethodDescriptor y.desc).map (fun d => d.parameters.length) = some n) ∧ maxL ≤ 40
theorem gGoodH {y : MethodName} {bytes : ByteArray} {maxL : Nat} {ret : Option FieldType} {hh : List (Nat × Nat × Nat × Nat)} (h : Cond.codeWith y bytes maxL ret hh ∈ lw_tbl) : GoodIn gTb (Cond.codeWith y bytes maxL ret hh :: gTb) := by
  intro w hw
  have h1 : w ∈ gTb := by
    rcases List.mem_cons.mp hw with e | e
    · subst e
      exact List.mem_filter.mpr ⟨h, rfl⟩
    · exact e
  exact ⟨h1, good_of_word (List.mem_filter.mp h1).2⟩
theorem Ct.ofH {ad : Nat → Nat} {y : MethodName} {cc : ByteArray} {nL d mc ms : Nat} {ret : Option FieldType} {hh : List (Nat × Nat × Nat × Nat)} {As : List Value} {G G' : gG} {S S' : gS} {T T' : gT} {v : Option Value} (hy : plainName y.cls = true) (hlen : As.length ≤ nL) (hcat : As.all (fun v => v.category == 1) = true) (hhw : Cond.codeWith y cc nL ret hh ∈ lw_tbl)
    (body : ∀ K : gKx, Gd K y.cls cc d → gEnd K ret v G' S' T' → (ky K).2 = ad ∧ kN K = nL ∧ (kc K).exceptionTable.toList = tableOf hh → Xj K [] G 0 (As.map some ++ List.replicate (nL - As.length) none) [] S T mc ms) : Ct ad y (Cond.codeWith y cc nL ret hh :: gTb) d mc ms As G S T v G' S' T' := by
  have hcat : ∀ v ∈ As, v.category = 1 := fun v hv => by simpa using List.all_eq_true.mp hcat v hv
  intro l D c1 Z sz hl hZ
  refine va_MetW (cc := cc) (maxL := nL) (ret := ret) (hh := hh) hy rfl ?_
  intro p e s m args below meth c s₁ B hml hv
  obtain ⟨rfl, hsz, hP, hD0, hF, hH⟩ := hv
  have hts := atoms_spec (ws := Cond.codeWith y cc nL ret hh :: gTb) B.pre
  have hgt : ∀ w ∈ gTb, w.before As.toArray s = true := fun w hw => hts w (List.mem_cons_of_mem _ hw)
  have htb := vx_table (x := y) B (hts _ List.mem_cons_self)
  subst hsz
  have hD := hD0.self (sz := s.heap.size)
  have hX := body (((p, l, e, grm d mc ms), (s, m, As.toArray, below), (meth, c), (D, (c1, ad)), va_A (Z ++ gw (c1, ad) G S) s.heap.size, MQ below (gQ v (gPost (c1, ad) D G' S' T' (va_A (Z ++ gw (c1, ad) G S) s.heap.size)) (va_A (Z ++ gw (c1, ad) G S) s.heap.size)) As.toArray s mc ms (va_A (Z ++ gw (c1, ad) G S) s.heap.size), nL, mc, ms) : gKx)
    ⟨⟨B.exec, B.bytes, hml, findClass_of_methodNamed B.named, hgt⟩, hF, hH, hl, fun q h => Or.inr h, B.notSynchronized, rfl⟩ ⟨B.returns, rfl⟩ ⟨rfl, rfl, htb⟩
  have hh' : va_D (va_A (Z ++ gw (c1, ad) G S) s.heap.size) (([] ++ Z) ++ gw (c1, ad) G S) := hD
  rw [lg_entry_eq]
  exact hX s.heap [] 0 0 _ Z ⟨hZ, hP, hh', va_S.rf, gl_entry hlen (by rw [lg_len As hcat]; exact hlen) hcat, by simp, by simp⟩
theorem x_cSW {K : gKx} {PX : va_W} {G : gG} {pc idx n : Nat} {lv : List (Option Value)} {st rest As : List Value} {S S' : gS} {T T' : gT} {c0 s0 : Nat} {own : String} {cc : ByteArray} {d d' mc ms maxL : Nat} {ret : Option FieldType} {hh : List (Nat × Nat × Nat × Nat)} {bytes : ByteArray} {y : MethodName} {v : Option Value} (st2 : List Value) (g : Gd K own cc d)
    (hC : Ct (ky K).2 y (Cond.codeWith y bytes maxL ret hh :: gTb) d' mc ms As G S T v G S' T') (hca : gCaH y bytes maxL ret hh n) (hstc : Cond.static y ∈ lw_tbl) (hlk : Cond.methodLink own idx y ∈ lw_tbl)
    (hd : d' + 1 ≤ d) (hc : mc ≤ c0) (hs : ms ≤ s0) (hn : As.length = n) (hst : st = As.reverse ++ rest) (hW : (rest.map fun v => v.category).sum ≤ 8) (hdg : decode cc pc = .ok (.invokestatic idx, 3)) (h2 : v.toList ++ rest = st2)
    (k : Xj K PX G (pc + 3) lv st2 S' T' (c0 - mc) (s0 - ms)) : Xj K PX G pc lv st S T c0 s0 := by
  refine x_run (a := As.toArray) g hc hs h2 (fun H locs cells slots ls Z hat hcap => ?_) k
  have hM := hC (kl K) (kD K) (ky K).1 Z H.size g.2.2.2.1 hat.1
  have hr := gRoom g hd hca.2.2.2 (mc := mc) (ms := ms)
  refine vx_runSW (hh := hh) (cc := cc) (nL := kN K) (Ts := gTb) (own := own) (n := n) g.1 hM ⟨⟨rfl, rfl, hr.1, hr.2, pay_in g.1.2.2.2.2 (gGoodH hca.1), List.mem_cons_self⟩, g.tb hca.1 rfl, g.tb hca.2.1 rfl, ⟨hca.2.2.1.1, hca.2.2.1.2.1⟩, ?_, g.tb hlk rfl, g.tb hstc rfl⟩
    ⟨gF_blind, fun U hU hW => ⟨rfl, gGive g hat U hU hW⟩⟩ rfl hn hat.2.2.2.2.1.1 hst (lv_room hW) hdg hcap
  intro sig h
  have h2 := hca.2.2.1.2.2
  rw [h] at h2
  exact (Option.some.inj h2).symm
-- a call whose throw is caught here
theorem x_catV {K : gKx} {G : gG} {pc b kd ci idx n : Nat} {lv : List (Option Value)} {st rest As : List Value} {S S' : gS} {T T' : gT} {c0 s0 : Nat} {own : String} {cc : ByteArray} {d d' maxL : Nat} {ret : Option FieldType} {bytes : ByteArray} {y : MethodName} {E : String} {fl : List (Nat ⊕ Nat)} {TC : u_T} {NC : Nat} {ty0 : Nat → FieldType} {hh : List (Nat × Nat × Nat × Nat)} (pre : List (Nat × Nat × Nat × Nat)) (x : Nat × Nat × Nat × Nat) (suf : List (Nat × Nat × Nat × Nat)) (g : Gd K own cc d)
    (hC : Cx (ky K).2 y (Cond.code y bytes maxL ret :: gTb) d' (.ref b :: As) G S T E S' T') (hca : gCa y bytes maxL ret n) (hin : Cond.instanceMethod y ∈ lw_tbl) (hse : Cond.selects y.cls y y ∈ lw_tbl) (hlk : Cond.methodLink own idx y ∈ lw_tbl)
    (cl : gCls kd ci fl y.cls TC NC ty0) (hb : gis G kd b) (hd : d' + 1 ≤ d) (hc : 1 ≤ c0) (hs : 6 ≤ s0) (hn : As.length = n) (hst : st = As.reverse ++ .ref b :: rest) (hW : (rest.map fun v => v.category).sum ≤ 8) (hdg : decode cc pc = .ok (.invokevirtual idx, 3))
    (ht : (kc K).exceptionTable.toList = tableOf hh) (hsp : hh = pre ++ x :: suf) (hpass : ∀ z ∈ pre, z.2.2.2 ≠ 0 ∧ ∃ nm : String, Cond.classLink own z.2.2.2 nm ∈ lw_tbl ∧ (E, nm) ∈ gNcs) (hcov : x.1 ≤ pc ∧ pc < x.2.1) (hx0 : x.2.2.2 ≠ 0) (hxl : Cond.classLink own x.2.2.2 E ∈ lw_tbl) (hxc : (E, E) ∈ gCast)
    (k : ∀ q : Nat, Xj K [] G x.2.2.1 lv [.ref q] S' T' (c0 - 1) (s0 - 6)) : Xj K [] G pc lv st S T c0 s0 := by
  intro H locs cells slots ls Z hat
  have hrm : kR K = grm d (kC K) (kS K) := g.2.2.2.2.2.2
  have hcap : cells + 1 ≤ (kR K).cells ∧ slots + 6 ≤ (kR K).slots := by
    have e1 : (kR K).cells = kC K := by rw [hrm]; rfl
    have e2 : (kR K).slots = kS K := by rw [hrm]; rfl
    rw [e1, e2]
    have := hat.2.2.2.2.2
    omega
  have hM := hC (kl K) (kD K) (ky K).1 Z H.size g.2.2.2.1 hat.1
  obtain ⟨q0, hq0⟩ := gFind (cy := ky K) (PX := [] ++ Z) (S := S) hb.1
  rw [gce_obj (by rw [hb.2]; exact cl.1)] at hq0
  have hrec := va_recv g.2.1.1 hat.2.1 cl.2.1 hq0
  have hr := vx_runV (p := kp K) (e := ke K) (R := kR K) (below := kb K) (meth := kM K) (locs := locs) (cells := cells) (slots := slots) (g := F0 (km K) pc ls st) (rest := rest) (cc := cc) (nL := kN K) (Ts := gTb) (own := own) (n := n) (C := y.cls) g.1 hM ⟨callB_of n g.1.2.2.2.2 (gGood hca.1) rfl rfl rfl (g.tb hca.2.1 rfl) (g.tb hlk rfl) hca.2.2.1 (gRoom g hd hca.2.2.2), g.tb hin rfl, g.tb hse rfl⟩
    ⟨gF_blind, hrec, fun U hU hW => ⟨rfl, gGive g hat U hU hW⟩⟩ rfl hn hat.2.2.2.2.1.1 hst (lv_room hW) hdg hcap
  unfold kW
  intro T0 hT X
  rcases hr T0 hT X with ⟨v', st₀, t, T1, L, h0, X', hL, e1, e2, hq, hst⟩ | ⟨q, st₀, t, T1, L, E', ce, h0, X', hL, e1, e2, ⟨hE, hB, hF⟩, hce, hcv, hcl, hst⟩
  · exact absurd hq (fun z => z)
  · subst hE
    obtain ⟨Z', hat'⟩ := gTake (mc := 1) (ms := 6) g hat hc hs h0 hL e1 hB hF
    have hcat := vx_catch (p := kp K) (l := kl K) (e := ke K) (R := kR K) (s := ks K) (m := km K) (args := ka K) (below := kb K) (meth := kM K) (c := kc K) (H := T1.heap) (locs := locs ++ L) (cells := cells + 1) (slots := slots + 6) (Q := kQ K) (ls := ls) (rest := rest) (pc := pc) (own := own) (name := E') (E := E') (ce := ce) (q := q) g.1.2.2.2.1 (tableOf pre) ⟨x.1, x.2.1, x.2.2.1, x.2.2.2⟩ (tableOf suf) (by rw [ht, hsp]; simp [tableOf])
      (fun z hz => by
        obtain ⟨w, hw, rfl⟩ := List.mem_map.mp hz
        obtain ⟨w1, nm, w2, w3⟩ := hpass w hw
        exact Or.inr ⟨w1, nm, g.tb w2 rfl, g.2.1.2.2.2.2.2.2.2 _ w3⟩)
      (by simp [covers, hcov.1, hcov.2]) hx0 (g.tb hxl rfl) (va_Nw.use rfl (g.2.1.2.2.2.1 _ hxc)) (by rw [e1]; exact hce) hcv hcl (k q T1.heap (locs ++ L) (cells + 1) (slots + 6) ls Z' hat')
    obtain ⟨t2, a1, b1⟩ := hcat T1 rfl X'
    exact ⟨t2, hst.trans a1, b1⟩

abbrev hh_L_addUmbrella : List (Nat × Nat × Nat × Nat) := [((0 : Nat), (9 : Nat), (12 : Nat), (13 : Nat)), ((0 : Nat), (9 : Nat), (15 : Nat), (15 : Nat))]
theorem ca_L_addUmbrella : gCaH yL_addUmbrella cL_addUmbrella 4 (some .int) hh_L_addUmbrella 3 := ⟨w_tb 351 (by decide +kernel), w_tb 0 (by decide +kernel), (by decide +kernel), by decide⟩
theorem st_L_addUmbrella : Cond.static yL_addUmbrella ∈ lw_tbl := w_tb 350 (by decide +kernel)
abbrev hh_L_endTerm : List (Nat × Nat × Nat × Nat) := [((0 : Nat), (8 : Nat), (11 : Nat), (15 : Nat))]
theorem ca_L_endTerm : gCaH yL_endTerm cL_endTerm 3 (some .int) hh_L_endTerm 2 := ⟨w_tb 617 (by decide +kernel), w_tb 0 (by decide +kernel), (by decide +kernel), by decide⟩
theorem st_L_endTerm : Cond.static yL_endTerm ∈ lw_tbl := w_tb 616 (by decide +kernel)
abbrev hh_L_errorPosition : List (Nat × Nat × Nat × Nat) := [((0 : Nat), (8 : Nat), (11 : Nat), (58 : Nat))]
theorem ca_L_errorPosition : gCaH yL_errorPosition cL_errorPosition 3 (some .int) hh_L_errorPosition 2 := ⟨w_tb 1305 (by decide +kernel), w_tb 0 (by decide +kernel), (by decide +kernel), by decide⟩
theorem st_L_errorPosition : Cond.static yL_errorPosition ∈ lw_tbl := w_tb 1304 (by decide +kernel)
abbrev hh_L_examine : List (Nat × Nat × Nat × Nat) := [((0 : Nat), (10 : Nat), (13 : Nat), (21 : Nat)), ((0 : Nat), (10 : Nat), (17 : Nat), (13 : Nat))]
theorem ca_L_examine : gCaH yL_examine cL_examine 5 (some .int) hh_L_examine 4 := ⟨w_tb 608 (by decide +kernel), w_tb 0 (by decide +kernel), (by decide +kernel), by decide⟩
theorem st_L_examine : Cond.static yL_examine ∈ lw_tbl := w_tb 607 (by decide +kernel)
abbrev hh_L_exploresNext : List (Nat × Nat × Nat × Nat) := [((0 : Nat), (16 : Nat), (19 : Nat), (21 : Nat))]
theorem ca_L_exploresNext : gCaH yL_exploresNext cL_exploresNext 4 (some .int) hh_L_exploresNext 3 := ⟨w_tb 729 (by decide +kernel), w_tb 0 (by decide +kernel), (by decide +kernel), by decide⟩
theorem st_L_exploresNext : Cond.static yL_exploresNext ∈ lw_tbl := w_tb 728 (by decide +kernel)
abbrev hh_L_failedCommand : List (Nat × Nat × Nat × Nat) := [((0 : Nat), (8 : Nat), (11 : Nat), (58 : Nat))]
theorem ca_L_failedCommand : gCaH yL_failedCommand cL_failedCommand 3 (some .int) hh_L_failedCommand 2 := ⟨w_tb 1313 (by decide +kernel), w_tb 0 (by decide +kernel), (by decide +kernel), by decide⟩
theorem st_L_failedCommand : Cond.static yL_failedCommand ∈ lw_tbl := w_tb 1312 (by decide +kernel)
abbrev hh_L_forgetRain : List (Nat × Nat × Nat × Nat) := [((0 : Nat), (10 : Nat), (13 : Nat), (21 : Nat)), ((0 : Nat), (10 : Nat), (17 : Nat), (13 : Nat))]
theorem ca_L_forgetRain : gCaH yL_forgetRain cL_forgetRain 5 (some .int) hh_L_forgetRain 4 := ⟨w_tb 599 (by decide +kernel), w_tb 0 (by decide +kernel), (by decide +kernel), by decide⟩
theorem st_L_forgetRain : Cond.static yL_forgetRain ∈ lw_tbl := w_tb 598 (by decide +kernel)
abbrev hh_L_hasExam : List (Nat × Nat × Nat × Nat) := [((0 : Nat), (17 : Nat), (20 : Nat), (21 : Nat)), ((0 : Nat), (17 : Nat), (24 : Nat), (13 : Nat))]
theorem ca_L_hasExam : gCaH yL_hasExam cL_hasExam 5 (some .int) hh_L_hasExam 4 := ⟨w_tb 823 (by decide +kernel), w_tb 0 (by decide +kernel), (by decide +kernel), by decide⟩
theorem st_L_hasExam : Cond.static yL_hasExam ∈ lw_tbl := w_tb 822 (by decide +kernel)
abbrev hh_L_isGraduate : List (Nat × Nat × Nat × Nat) := [((0 : Nat), (16 : Nat), (19 : Nat), (21 : Nat))]
theorem ca_L_isGraduate : gCaH yL_isGraduate cL_isGraduate 4 (some .int) hh_L_isGraduate 3 := ⟨w_tb 835 (by decide +kernel), w_tb 0 (by decide +kernel), (by decide +kernel), by decide⟩
theorem st_L_isGraduate : Cond.static yL_isGraduate ∈ lw_tbl := w_tb 834 (by decide +kernel)
abbrev hh_L_knownSituations : List (Nat × Nat × Nat × Nat) := [((0 : Nat), (9 : Nat), (12 : Nat), (21 : Nat))]
theorem ca_L_knownSituations : gCaH yL_knownSituations cL_knownSituations 4 (some .int) hh_L_knownSituations 3 := ⟨w_tb 778 (by decide +kernel), w_tb 0 (by decide +kernel), (by decide +kernel), by decide⟩
theorem st_L_knownSituations : Cond.static yL_knownSituations ∈ lw_tbl := w_tb 777 (by decide +kernel)
abbrev hh_L_meanReward : List (Nat × Nat × Nat × Nat) := [((0 : Nat), (13 : Nat), (16 : Nat), (21 : Nat)), ((0 : Nat), (13 : Nat), (20 : Nat), (13 : Nat)), ((0 : Nat), (13 : Nat), (24 : Nat), (58 : Nat))]
theorem ca_L_meanReward : gCaH yL_meanReward cL_meanReward 7 (some .int) hh_L_meanReward 6 := ⟨w_tb 763 (by decide +kernel), w_tb 0 (by decide +kernel), (by decide +kernel), by decide⟩
theorem st_L_meanReward : Cond.static yL_meanReward ∈ lw_tbl := w_tb 762 (by decide +kernel)
abbrev hh_L_meanSchoolReward : List (Nat × Nat × Nat × Nat) := [((0 : Nat), (7 : Nat), (10 : Nat), (130 : Nat))]
theorem ca_L_meanSchoolReward : gCaH yL_meanSchoolReward cL_meanSchoolReward 3 (some .int) hh_L_meanSchoolReward 2 := ⟨w_tb 882 (by decide +kernel), w_tb 0 (by decide +kernel), (by decide +kernel), by decide⟩
theorem st_L_meanSchoolReward : Cond.static yL_meanSchoolReward ∈ lw_tbl := w_tb 881 (by decide +kernel)
abbrev hh_L_memory : List (Nat × Nat × Nat × Nat) := [((0 : Nat), (9 : Nat), (12 : Nat), (21 : Nat))]
theorem ca_L_memory : gCaH yL_memory cL_memory 4 (some .int) hh_L_memory 3 := ⟨w_tb 626 (by decide +kernel), w_tb 0 (by decide +kernel), (by decide +kernel), by decide⟩
theorem st_L_memory : Cond.static yL_memory ∈ lw_tbl := w_tb 625 (by decide +kernel)
abbrev hh_L_openShare : List (Nat × Nat × Nat × Nat) := [((0 : Nat), (8 : Nat), (11 : Nat), (130 : Nat))]
theorem ca_L_openShare : gCaH yL_openShare cL_openShare 3 (some .int) hh_L_openShare 2 := ⟨w_tb 910 (by decide +kernel), w_tb 0 (by decide +kernel), (by decide +kernel), by decide⟩
theorem st_L_openShare : Cond.static yL_openShare ∈ lw_tbl := w_tb 909 (by decide +kernel)
abbrev hh_L_outputAt : List (Nat × Nat × Nat × Nat) := [((0 : Nat), (9 : Nat), (12 : Nat), (21 : Nat))]
theorem ca_L_outputAt : gCaH yL_outputAt cL_outputAt 4 (some .int) hh_L_outputAt 3 := ⟨w_tb 1208 (by decide +kernel), w_tb 0 (by decide +kernel), (by decide +kernel), by decide⟩
theorem st_L_outputAt : Cond.static yL_outputAt ∈ lw_tbl := w_tb 1207 (by decide +kernel)
abbrev hh_L_period : List (Nat × Nat × Nat × Nat) := [((0 : Nat), (9 : Nat), (12 : Nat), (21 : Nat))]
theorem ca_L_period : gCaH yL_period cL_period 4 (some .int) hh_L_period 3 := ⟨w_tb 633 (by decide +kernel), w_tb 0 (by decide +kernel), (by decide +kernel), by decide⟩
theorem st_L_period : Cond.static yL_period ∈ lw_tbl := w_tb 632 (by decide +kernel)
abbrev hh_L_rememberedTrials : List (Nat × Nat × Nat × Nat) := [((0 : Nat), (9 : Nat), (12 : Nat), (21 : Nat))]
theorem ca_L_rememberedTrials : gCaH yL_rememberedTrials cL_rememberedTrials 4 (some .int) hh_L_rememberedTrials 3 := ⟨w_tb 647 (by decide +kernel), w_tb 0 (by decide +kernel), (by decide +kernel), by decide⟩
theorem st_L_rememberedTrials : Cond.static yL_rememberedTrials ∈ lw_tbl := w_tb 646 (by decide +kernel)
abbrev hh_L_renderHabits : List (Nat × Nat × Nat × Nat) := [((0 : Nat), (9 : Nat), (12 : Nat), (21 : Nat))]
theorem ca_L_renderHabits : gCaH yL_renderHabits cL_renderHabits 4 (some .int) hh_L_renderHabits 3 := ⟨w_tb 917 (by decide +kernel), w_tb 0 (by decide +kernel), (by decide +kernel), by decide⟩
theorem st_L_renderHabits : Cond.static yL_renderHabits ∈ lw_tbl := w_tb 916 (by decide +kernel)
abbrev hh_L_renderUmbrella : List (Nat × Nat × Nat × Nat) := [((0 : Nat), (9 : Nat), (12 : Nat), (21 : Nat))]
theorem ca_L_renderUmbrella : gCaH yL_renderUmbrella cL_renderUmbrella 4 (some .int) hh_L_renderUmbrella 3 := ⟨w_tb 1200 (by decide +kernel), w_tb 0 (by decide +kernel), (by decide +kernel), by decide⟩
theorem st_L_renderUmbrella : Cond.static yL_renderUmbrella ∈ lw_tbl := w_tb 1199 (by decide +kernel)
abbrev hh_L_restore : List (Nat × Nat × Nat × Nat) := [((0 : Nat), (8 : Nat), (11 : Nat), (15 : Nat))]
theorem ca_L_restore : gCaH yL_restore cL_restore 3 (some .int) hh_L_restore 2 := ⟨w_tb 1329 (by decide +kernel), w_tb 0 (by decide +kernel), (by decide +kernel), by decide⟩
theorem st_L_restore : Cond.static yL_restore ∈ lw_tbl := w_tb 1328 (by decide +kernel)
abbrev hh_L_reward : List (Nat × Nat × Nat × Nat) := [((0 : Nat), (12 : Nat), (15 : Nat), (13 : Nat))]
theorem ca_L_reward : gCaH yL_reward cL_reward 6 (some .int) hh_L_reward 5 := ⟨w_tb 700 (by decide +kernel), w_tb 0 (by decide +kernel), (by decide +kernel), by decide⟩
theorem st_L_reward : Cond.static yL_reward ∈ lw_tbl := w_tb 699 (by decide +kernel)
abbrev hh_L_rewardSum : List (Nat × Nat × Nat × Nat) := [((0 : Nat), (14 : Nat), (17 : Nat), (21 : Nat)), ((0 : Nat), (14 : Nat), (21 : Nat), (13 : Nat))]
theorem ca_L_rewardSum : gCaH yL_rewardSum cL_rewardSum 7 (some .int) hh_L_rewardSum 6 := ⟨w_tb 748 (by decide +kernel), w_tb 0 (by decide +kernel), (by decide +kernel), by decide⟩
theorem st_L_rewardSum : Cond.static yL_rewardSum ∈ lw_tbl := w_tb 747 (by decide +kernel)
abbrev hh_L_rewardSumByTrials : List (Nat × Nat × Nat × Nat) := [((0 : Nat), (14 : Nat), (17 : Nat), (21 : Nat)), ((0 : Nat), (14 : Nat), (21 : Nat), (13 : Nat))]
theorem ca_L_rewardSumByTrials : gCaH yL_rewardSumByTrials cL_rewardSumByTrials 7 (some .int) hh_L_rewardSumByTrials 6 := ⟨w_tb 755 (by decide +kernel), w_tb 0 (by decide +kernel), (by decide +kernel), by decide⟩
theorem st_L_rewardSumByTrials : Cond.static yL_rewardSumByTrials ∈ lw_tbl := w_tb 754 (by decide +kernel)
abbrev hh_L_rightHabits : List (Nat × Nat × Nat × Nat) := [((0 : Nat), (9 : Nat), (12 : Nat), (21 : Nat))]
theorem ca_L_rightHabits : gCaH yL_rightHabits cL_rightHabits 4 (some .int) hh_L_rightHabits 3 := ⟨w_tb 770 (by decide +kernel), w_tb 0 (by decide +kernel), (by decide +kernel), by decide⟩
theorem st_L_rightHabits : Cond.static yL_rightHabits ∈ lw_tbl := w_tb 769 (by decide +kernel)
abbrev hh_L_runScript : List (Nat × Nat × Nat × Nat) := [((0 : Nat), (8 : Nat), (11 : Nat), (13 : Nat)), ((0 : Nat), (8 : Nat), (14 : Nat), (15 : Nat))]
theorem ca_L_runScript : gCaH yL_runScript cL_runScript 3 (some .int) hh_L_runScript 2 := ⟨w_tb 1235 (by decide +kernel), w_tb 0 (by decide +kernel), (by decide +kernel), by decide⟩
theorem st_L_runScript : Cond.static yL_runScript ∈ lw_tbl := w_tb 1234 (by decide +kernel)
abbrev hh_L_setGalePenalty : List (Nat × Nat × Nat × Nat) := [((0 : Nat), (9 : Nat), (12 : Nat), (13 : Nat))]
theorem ca_L_setGalePenalty : gCaH yL_setGalePenalty cL_setGalePenalty 4 (some .int) hh_L_setGalePenalty 3 := ⟨w_tb 590 (by decide +kernel), w_tb 0 (by decide +kernel), (by decide +kernel), by decide⟩
theorem st_L_setGalePenalty : Cond.static yL_setGalePenalty ∈ lw_tbl := w_tb 589 (by decide +kernel)
abbrev hh_L_setPeriod : List (Nat × Nat × Nat × Nat) := [((0 : Nat), (10 : Nat), (13 : Nat), (21 : Nat)), ((0 : Nat), (10 : Nat), (17 : Nat), (13 : Nat))]
theorem ca_L_setPeriod : gCaH yL_setPeriod cL_setPeriod 5 (some .int) hh_L_setPeriod 4 := ⟨w_tb 572 (by decide +kernel), w_tb 0 (by decide +kernel), (by decide +kernel), by decide⟩
theorem st_L_setPeriod : Cond.static yL_setPeriod ∈ lw_tbl := w_tb 571 (by decide +kernel)
abbrev hh_L_setWetPenalty : List (Nat × Nat × Nat × Nat) := [((0 : Nat), (9 : Nat), (12 : Nat), (13 : Nat))]
theorem ca_L_setWetPenalty : gCaH yL_setWetPenalty cL_setWetPenalty 4 (some .int) hh_L_setWetPenalty 3 := ⟨w_tb 581 (by decide +kernel), w_tb 0 (by decide +kernel), (by decide +kernel), by decide⟩
theorem st_L_setWetPenalty : Cond.static yL_setWetPenalty ∈ lw_tbl := w_tb 580 (by decide +kernel)
abbrev hh_L_shouldOpen : List (Nat × Nat × Nat × Nat) := [((0 : Nat), (17 : Nat), (20 : Nat), (13 : Nat))]
theorem ca_L_shouldOpen : gCaH yL_shouldOpen cL_shouldOpen 5 (some .int) hh_L_shouldOpen 4 := ⟨w_tb 712 (by decide +kernel), w_tb 0 (by decide +kernel), (by decide +kernel), by decide⟩
theorem st_L_shouldOpen : Cond.static yL_shouldOpen ∈ lw_tbl := w_tb 711 (by decide +kernel)
abbrev hh_L_situationRain : List (Nat × Nat × Nat × Nat) := [((0 : Nat), (10 : Nat), (13 : Nat), (21 : Nat)), ((0 : Nat), (10 : Nat), (17 : Nat), (58 : Nat))]
theorem ca_L_situationRain : gCaH yL_situationRain cL_situationRain 5 (some .int) hh_L_situationRain 4 := ⟨w_tb 793 (by decide +kernel), w_tb 0 (by decide +kernel), (by decide +kernel), by decide⟩
theorem st_L_situationRain : Cond.static yL_situationRain ∈ lw_tbl := w_tb 792 (by decide +kernel)
abbrev hh_L_situationWind : List (Nat × Nat × Nat × Nat) := [((0 : Nat), (10 : Nat), (13 : Nat), (21 : Nat)), ((0 : Nat), (10 : Nat), (17 : Nat), (58 : Nat))]
theorem ca_L_situationWind : gCaH yL_situationWind cL_situationWind 5 (some .int) hh_L_situationWind 4 := ⟨w_tb 813 (by decide +kernel), w_tb 0 (by decide +kernel), (by decide +kernel), by decide⟩
theorem st_L_situationWind : Cond.static yL_situationWind ∈ lw_tbl := w_tb 812 (by decide +kernel)
abbrev hh_L_stars : List (Nat × Nat × Nat × Nat) := [((0 : Nat), (9 : Nat), (12 : Nat), (21 : Nat))]
theorem ca_L_stars : gCaH yL_stars cL_stars 4 (some .int) hh_L_stars 3 := ⟨w_tb 856 (by decide +kernel), w_tb 0 (by decide +kernel), (by decide +kernel), by decide⟩
theorem st_L_stars : Cond.static yL_stars ∈ lw_tbl := w_tb 855 (by decide +kernel)
abbrev hh_L_termReward : List (Nat × Nat × Nat × Nat) := [((0 : Nat), (9 : Nat), (12 : Nat), (21 : Nat))]
theorem ca_L_termReward : gCaH yL_termReward cL_termReward 4 (some .int) hh_L_termReward 3 := ⟨w_tb 849 (by decide +kernel), w_tb 0 (by decide +kernel), (by decide +kernel), by decide⟩
theorem st_L_termReward : Cond.static yL_termReward ∈ lw_tbl := w_tb 848 (by decide +kernel)
abbrev hh_L_timesTried : List (Nat × Nat × Nat × Nat) := [((0 : Nat), (14 : Nat), (17 : Nat), (21 : Nat)), ((0 : Nat), (14 : Nat), (21 : Nat), (13 : Nat))]
theorem ca_L_timesTried : gCaH yL_timesTried cL_timesTried 7 (some .int) hh_L_timesTried 6 := ⟨w_tb 737 (by decide +kernel), w_tb 0 (by decide +kernel), (by decide +kernel), by decide⟩
theorem st_L_timesTried : Cond.static yL_timesTried ∈ lw_tbl := w_tb 736 (by decide +kernel)
abbrev hh_L_totalReward : List (Nat × Nat × Nat × Nat) := [((0 : Nat), (9 : Nat), (12 : Nat), (21 : Nat))]
theorem ca_L_totalReward : gCaH yL_totalReward cL_totalReward 4 (some .int) hh_L_totalReward 3 := ⟨w_tb 842 (by decide +kernel), w_tb 0 (by decide +kernel), (by decide +kernel), by decide⟩
theorem st_L_totalReward : Cond.static yL_totalReward ∈ lw_tbl := w_tb 841 (by decide +kernel)
abbrev hh_L_train : List (Nat × Nat × Nat × Nat) := [((0 : Nat), (14 : Nat), (17 : Nat), (21 : Nat)), ((0 : Nat), (14 : Nat), (21 : Nat), (13 : Nat))]
theorem ca_L_train : gCaH yL_train cL_train 7 (some .int) hh_L_train 6 := ⟨w_tb 542 (by decide +kernel), w_tb 0 (by decide +kernel), (by decide +kernel), by decide⟩
theorem st_L_train : Cond.static yL_train ∈ lw_tbl := w_tb 541 (by decide +kernel)
abbrev hh_L_trialOpened : List (Nat × Nat × Nat × Nat) := [((0 : Nat), (17 : Nat), (20 : Nat), (21 : Nat)), ((0 : Nat), (17 : Nat), (24 : Nat), (58 : Nat))]
theorem ca_L_trialOpened : gCaH yL_trialOpened cL_trialOpened 5 (some .int) hh_L_trialOpened 4 := ⟨w_tb 683 (by decide +kernel), w_tb 0 (by decide +kernel), (by decide +kernel), by decide⟩
theorem st_L_trialOpened : Cond.static yL_trialOpened ∈ lw_tbl := w_tb 682 (by decide +kernel)
abbrev hh_L_trialRain : List (Nat × Nat × Nat × Nat) := [((0 : Nat), (10 : Nat), (13 : Nat), (21 : Nat)), ((0 : Nat), (10 : Nat), (17 : Nat), (58 : Nat))]
theorem ca_L_trialRain : gCaH yL_trialRain cL_trialRain 5 (some .int) hh_L_trialRain 4 := ⟨w_tb 654 (by decide +kernel), w_tb 0 (by decide +kernel), (by decide +kernel), by decide⟩
theorem st_L_trialRain : Cond.static yL_trialRain ∈ lw_tbl := w_tb 653 (by decide +kernel)
abbrev hh_L_trialReward : List (Nat × Nat × Nat × Nat) := [((0 : Nat), (10 : Nat), (13 : Nat), (21 : Nat)), ((0 : Nat), (10 : Nat), (17 : Nat), (58 : Nat))]
theorem ca_L_trialReward : gCaH yL_trialReward cL_trialReward 5 (some .int) hh_L_trialReward 4 := ⟨w_tb 693 (by decide +kernel), w_tb 0 (by decide +kernel), (by decide +kernel), by decide⟩
theorem st_L_trialReward : Cond.static yL_trialReward ∈ lw_tbl := w_tb 692 (by decide +kernel)
abbrev hh_L_trials : List (Nat × Nat × Nat × Nat) := [((0 : Nat), (9 : Nat), (12 : Nat), (21 : Nat))]
theorem ca_L_trials : gCaH yL_trials cL_trials 4 (some .int) hh_L_trials 3 := ⟨w_tb 640 (by decide +kernel), w_tb 0 (by decide +kernel), (by decide +kernel), by decide⟩
theorem st_L_trials : Cond.static yL_trials ∈ lw_tbl := w_tb 639 (by decide +kernel)
abbrev hh_L_type : List (Nat × Nat × Nat × Nat) := [((0 : Nat), (9 : Nat), (12 : Nat), (13 : Nat)), ((0 : Nat), (9 : Nat), (15 : Nat), (15 : Nat))]
theorem ca_L_type : gCaH yL_type cL_type 4 (some .int) hh_L_type 3 := ⟨w_tb 1226 (by decide +kernel), w_tb 0 (by decide +kernel), (by decide +kernel), by decide⟩
theorem st_L_type : Cond.static yL_type ∈ lw_tbl := w_tb 1225 (by decide +kernel)
abbrev hh_L_umbrellaByStars : List (Nat × Nat × Nat × Nat) := [((0 : Nat), (9 : Nat), (12 : Nat), (58 : Nat))]
theorem ca_L_umbrellaByStars : gCaH yL_umbrellaByStars cL_umbrellaByStars 4 (some .int) hh_L_umbrellaByStars 3 := ⟨w_tb 863 (by decide +kernel), w_tb 0 (by decide +kernel), (by decide +kernel), by decide⟩
theorem st_L_umbrellaByStars : Cond.static yL_umbrellaByStars ∈ lw_tbl := w_tb 862 (by decide +kernel)
abbrev hh_L_undo : List (Nat × Nat × Nat × Nat) := [((0 : Nat), (8 : Nat), (11 : Nat), (15 : Nat))]
theorem ca_L_undo : gCaH yL_undo cL_undo 3 (some .int) hh_L_undo 2 := ⟨w_tb 1321 (by decide +kernel), w_tb 0 (by decide +kernel), (by decide +kernel), by decide⟩
theorem st_L_undo : Cond.static yL_undo ∈ lw_tbl := w_tb 1320 (by decide +kernel)
abbrev hh_L_wouldOpen : List (Nat × Nat × Nat × Nat) := [((0 : Nat), (19 : Nat), (22 : Nat), (21 : Nat)), ((0 : Nat), (19 : Nat), (26 : Nat), (13 : Nat))]
theorem ca_L_wouldOpen : gCaH yL_wouldOpen cL_wouldOpen 6 (some .int) hh_L_wouldOpen 5 := ⟨w_tb 720 (by decide +kernel), w_tb 0 (by decide +kernel), (by decide +kernel), by decide⟩
theorem st_L_wouldOpen : Cond.static yL_wouldOpen ∈ lw_tbl := w_tb 719 (by decide +kernel)
theorem cl_L_8 : Cond.classLink RL 8 "UmbrellaSchool" ∈ lw_tbl := w_tb 31 (by decide +kernel)
theorem cl_L_13 : Cond.classLink RL 13 "java/lang/IllegalArgumentException" ∈ lw_tbl := w_tb 352 (by decide +kernel)
theorem cl_L_15 : Cond.classLink RL 15 "java/lang/IllegalStateException" ∈ lw_tbl := w_tb 353 (by decide +kernel)
theorem cl_L_21 : Cond.classLink RL 21 "java/lang/IndexOutOfBoundsException" ∈ lw_tbl := w_tb 543 (by decide +kernel)
theorem cl_L_58 : Cond.classLink RL 58 "java/util/NoSuchElementException" ∈ lw_tbl := w_tb 655 (by decide +kernel)
theorem cl_L_130 : Cond.classLink RL 130 "java/lang/ArithmeticException" ∈ lw_tbl := w_tb 883 (by decide +kernel)
theorem cl_L_166 : Cond.classLink RL 166 "UmbrellaSchoolModel" ∈ lw_tbl := w_tb 1339 (by decide +kernel)
theorem dL_addUmbrella_0 : decode cL_addUmbrella 0 = .ok (.aload_n 2, 1) := by decide +kernel
theorem dL_addUmbrella_1 : decode cL_addUmbrella 1 = .ok (.iconst 0, 1) := by decide +kernel
theorem dL_addUmbrella_2 : decode cL_addUmbrella 2 = .ok (.aload_n 0, 1) := by decide +kernel
theorem dL_addUmbrella_3 : decode cL_addUmbrella 3 = .ok (.iload_n 1, 1) := by decide +kernel
theorem dL_addUmbrella_4 : decode cL_addUmbrella 4 = .ok (.invokevirtual 7, 3) := by decide +kernel
theorem dL_addUmbrella_7 : decode cL_addUmbrella 7 = .ok (.i2l, 1) := by decide +kernel
theorem dL_addUmbrella_8 : decode cL_addUmbrella 8 = .ok (.lastore, 1) := by decide +kernel
theorem dL_addUmbrella_9 : decode cL_addUmbrella 9 = .ok (.goto 9, 3) := by decide +kernel
theorem dL_addUmbrella_12 : decode cL_addUmbrella 12 = .ok (.astore_n 3, 1) := by decide +kernel
theorem dL_addUmbrella_13 : decode cL_addUmbrella 13 = .ok (.iconst 1, 1) := by decide +kernel
theorem dL_addUmbrella_14 : decode cL_addUmbrella 14 = .ok (.ireturn, 1) := by decide +kernel
theorem dL_addUmbrella_15 : decode cL_addUmbrella 15 = .ok (.astore_n 3, 1) := by decide +kernel
theorem dL_addUmbrella_16 : decode cL_addUmbrella 16 = .ok (.iconst 2, 1) := by decide +kernel
theorem dL_addUmbrella_17 : decode cL_addUmbrella 17 = .ok (.ireturn, 1) := by decide +kernel
theorem dL_addUmbrella_18 : decode cL_addUmbrella 18 = .ok (.iconst 0, 1) := by decide +kernel
theorem dL_addUmbrella_19 : decode cL_addUmbrella 19 = .ok (.ireturn, 1) := by decide +kernel
theorem dL_train_0 : decode cL_train 0 = .ok (.aload 5, 2) := by decide +kernel
theorem dL_train_2 : decode cL_train 2 = .ok (.iconst 0, 1) := by decide +kernel
theorem dL_train_3 : decode cL_train 3 = .ok (.aload_n 0, 1) := by decide +kernel
theorem dL_train_4 : decode cL_train 4 = .ok (.iload_n 1, 1) := by decide +kernel
theorem dL_train_5 : decode cL_train 5 = .ok (.iload_n 2, 1) := by decide +kernel
theorem dL_train_6 : decode cL_train 6 = .ok (.iload_n 3, 1) := by decide +kernel
theorem dL_train_7 : decode cL_train 7 = .ok (.iload 4, 2) := by decide +kernel
theorem dL_train_9 : decode cL_train 9 = .ok (.invokevirtual 17, 3) := by decide +kernel
theorem dL_train_12 : decode cL_train 12 = .ok (.i2l, 1) := by decide +kernel
theorem dL_train_13 : decode cL_train 13 = .ok (.lastore, 1) := by decide +kernel
theorem dL_train_14 : decode cL_train 14 = .ok (.goto 11, 3) := by decide +kernel
theorem dL_train_17 : decode cL_train 17 = .ok (.astore 6, 2) := by decide +kernel
theorem dL_train_19 : decode cL_train 19 = .ok (.iconst 1, 1) := by decide +kernel
theorem dL_train_20 : decode cL_train 20 = .ok (.ireturn, 1) := by decide +kernel
theorem dL_train_21 : decode cL_train 21 = .ok (.astore 6, 2) := by decide +kernel
theorem dL_train_23 : decode cL_train 23 = .ok (.iconst 2, 1) := by decide +kernel
theorem dL_train_24 : decode cL_train 24 = .ok (.ireturn, 1) := by decide +kernel
theorem dL_train_25 : decode cL_train 25 = .ok (.iconst 0, 1) := by decide +kernel
theorem dL_train_26 : decode cL_train 26 = .ok (.ireturn, 1) := by decide +kernel
theorem dL_setPeriod_0 : decode cL_setPeriod 0 = .ok (.aload_n 3, 1) := by decide +kernel
theorem dL_setPeriod_1 : decode cL_setPeriod 1 = .ok (.iconst 0, 1) := by decide +kernel
theorem dL_setPeriod_2 : decode cL_setPeriod 2 = .ok (.aload_n 0, 1) := by decide +kernel
theorem dL_setPeriod_3 : decode cL_setPeriod 3 = .ok (.iload_n 1, 1) := by decide +kernel
theorem dL_setPeriod_4 : decode cL_setPeriod 4 = .ok (.iload_n 2, 1) := by decide +kernel
theorem dL_setPeriod_5 : decode cL_setPeriod 5 = .ok (.invokevirtual 23, 3) := by decide +kernel
theorem dL_setPeriod_8 : decode cL_setPeriod 8 = .ok (.i2l, 1) := by decide +kernel
theorem dL_setPeriod_9 : decode cL_setPeriod 9 = .ok (.lastore, 1) := by decide +kernel
theorem dL_setPeriod_10 : decode cL_setPeriod 10 = .ok (.goto 11, 3) := by decide +kernel
theorem dL_setPeriod_13 : decode cL_setPeriod 13 = .ok (.astore 4, 2) := by decide +kernel
theorem dL_setPeriod_15 : decode cL_setPeriod 15 = .ok (.iconst 1, 1) := by decide +kernel
theorem dL_setPeriod_16 : decode cL_setPeriod 16 = .ok (.ireturn, 1) := by decide +kernel
theorem dL_setPeriod_17 : decode cL_setPeriod 17 = .ok (.astore 4, 2) := by decide +kernel
theorem dL_setPeriod_19 : decode cL_setPeriod 19 = .ok (.iconst 2, 1) := by decide +kernel
theorem dL_setPeriod_20 : decode cL_setPeriod 20 = .ok (.ireturn, 1) := by decide +kernel
theorem dL_setPeriod_21 : decode cL_setPeriod 21 = .ok (.iconst 0, 1) := by decide +kernel
theorem dL_setPeriod_22 : decode cL_setPeriod 22 = .ok (.ireturn, 1) := by decide +kernel
theorem dL_setWetPenalty_0 : decode cL_setWetPenalty 0 = .ok (.aload_n 2, 1) := by decide +kernel
theorem dL_setWetPenalty_1 : decode cL_setWetPenalty 1 = .ok (.iconst 0, 1) := by decide +kernel
theorem dL_setWetPenalty_2 : decode cL_setWetPenalty 2 = .ok (.aload_n 0, 1) := by decide +kernel
theorem dL_setWetPenalty_3 : decode cL_setWetPenalty 3 = .ok (.iload_n 1, 1) := by decide +kernel
theorem dL_setWetPenalty_4 : decode cL_setWetPenalty 4 = .ok (.invokevirtual 27, 3) := by decide +kernel
theorem dL_setWetPenalty_7 : decode cL_setWetPenalty 7 = .ok (.i2l, 1) := by decide +kernel
theorem dL_setWetPenalty_8 : decode cL_setWetPenalty 8 = .ok (.lastore, 1) := by decide +kernel
theorem dL_setWetPenalty_9 : decode cL_setWetPenalty 9 = .ok (.goto 6, 3) := by decide +kernel
theorem dL_setWetPenalty_12 : decode cL_setWetPenalty 12 = .ok (.astore_n 3, 1) := by decide +kernel
theorem dL_setWetPenalty_13 : decode cL_setWetPenalty 13 = .ok (.iconst 1, 1) := by decide +kernel
theorem dL_setWetPenalty_14 : decode cL_setWetPenalty 14 = .ok (.ireturn, 1) := by decide +kernel
theorem dL_setWetPenalty_15 : decode cL_setWetPenalty 15 = .ok (.iconst 0, 1) := by decide +kernel
theorem dL_setWetPenalty_16 : decode cL_setWetPenalty 16 = .ok (.ireturn, 1) := by decide +kernel
theorem dL_setGalePenalty_0 : decode cL_setGalePenalty 0 = .ok (.aload_n 2, 1) := by decide +kernel
theorem dL_setGalePenalty_1 : decode cL_setGalePenalty 1 = .ok (.iconst 0, 1) := by decide +kernel
theorem dL_setGalePenalty_2 : decode cL_setGalePenalty 2 = .ok (.aload_n 0, 1) := by decide +kernel
theorem dL_setGalePenalty_3 : decode cL_setGalePenalty 3 = .ok (.iload_n 1, 1) := by decide +kernel
theorem dL_setGalePenalty_4 : decode cL_setGalePenalty 4 = .ok (.invokevirtual 30, 3) := by decide +kernel
theorem dL_setGalePenalty_7 : decode cL_setGalePenalty 7 = .ok (.i2l, 1) := by decide +kernel
theorem dL_setGalePenalty_8 : decode cL_setGalePenalty 8 = .ok (.lastore, 1) := by decide +kernel
theorem dL_setGalePenalty_9 : decode cL_setGalePenalty 9 = .ok (.goto 6, 3) := by decide +kernel
theorem dL_setGalePenalty_12 : decode cL_setGalePenalty 12 = .ok (.astore_n 3, 1) := by decide +kernel
theorem dL_setGalePenalty_13 : decode cL_setGalePenalty 13 = .ok (.iconst 1, 1) := by decide +kernel
theorem dL_setGalePenalty_14 : decode cL_setGalePenalty 14 = .ok (.ireturn, 1) := by decide +kernel
theorem dL_setGalePenalty_15 : decode cL_setGalePenalty 15 = .ok (.iconst 0, 1) := by decide +kernel
theorem dL_setGalePenalty_16 : decode cL_setGalePenalty 16 = .ok (.ireturn, 1) := by decide +kernel
theorem dL_forgetRain_0 : decode cL_forgetRain 0 = .ok (.aload_n 3, 1) := by decide +kernel
theorem dL_forgetRain_1 : decode cL_forgetRain 1 = .ok (.iconst 0, 1) := by decide +kernel
theorem dL_forgetRain_2 : decode cL_forgetRain 2 = .ok (.aload_n 0, 1) := by decide +kernel
theorem dL_forgetRain_3 : decode cL_forgetRain 3 = .ok (.iload_n 1, 1) := by decide +kernel
theorem dL_forgetRain_4 : decode cL_forgetRain 4 = .ok (.iload_n 2, 1) := by decide +kernel
theorem dL_forgetRain_5 : decode cL_forgetRain 5 = .ok (.invokevirtual 33, 3) := by decide +kernel
theorem dL_forgetRain_8 : decode cL_forgetRain 8 = .ok (.i2l, 1) := by decide +kernel
theorem dL_forgetRain_9 : decode cL_forgetRain 9 = .ok (.lastore, 1) := by decide +kernel
theorem dL_forgetRain_10 : decode cL_forgetRain 10 = .ok (.goto 11, 3) := by decide +kernel
theorem dL_forgetRain_13 : decode cL_forgetRain 13 = .ok (.astore 4, 2) := by decide +kernel
theorem dL_forgetRain_15 : decode cL_forgetRain 15 = .ok (.iconst 1, 1) := by decide +kernel
theorem dL_forgetRain_16 : decode cL_forgetRain 16 = .ok (.ireturn, 1) := by decide +kernel
theorem dL_forgetRain_17 : decode cL_forgetRain 17 = .ok (.astore 4, 2) := by decide +kernel
theorem dL_forgetRain_19 : decode cL_forgetRain 19 = .ok (.iconst 2, 1) := by decide +kernel
theorem dL_forgetRain_20 : decode cL_forgetRain 20 = .ok (.ireturn, 1) := by decide +kernel
theorem dL_forgetRain_21 : decode cL_forgetRain 21 = .ok (.iconst 0, 1) := by decide +kernel
theorem dL_forgetRain_22 : decode cL_forgetRain 22 = .ok (.ireturn, 1) := by decide +kernel
theorem dL_examine_0 : decode cL_examine 0 = .ok (.aload_n 3, 1) := by decide +kernel
theorem dL_examine_1 : decode cL_examine 1 = .ok (.iconst 0, 1) := by decide +kernel
theorem dL_examine_2 : decode cL_examine 2 = .ok (.aload_n 0, 1) := by decide +kernel
theorem dL_examine_3 : decode cL_examine 3 = .ok (.iload_n 1, 1) := by decide +kernel
theorem dL_examine_4 : decode cL_examine 4 = .ok (.iload_n 2, 1) := by decide +kernel
theorem dL_examine_5 : decode cL_examine 5 = .ok (.invokevirtual 36, 3) := by decide +kernel
theorem dL_examine_8 : decode cL_examine 8 = .ok (.i2l, 1) := by decide +kernel
theorem dL_examine_9 : decode cL_examine 9 = .ok (.lastore, 1) := by decide +kernel
theorem dL_examine_10 : decode cL_examine 10 = .ok (.goto 11, 3) := by decide +kernel
theorem dL_examine_13 : decode cL_examine 13 = .ok (.astore 4, 2) := by decide +kernel
theorem dL_examine_15 : decode cL_examine 15 = .ok (.iconst 1, 1) := by decide +kernel
theorem dL_examine_16 : decode cL_examine 16 = .ok (.ireturn, 1) := by decide +kernel
theorem dL_examine_17 : decode cL_examine 17 = .ok (.astore 4, 2) := by decide +kernel
theorem dL_examine_19 : decode cL_examine 19 = .ok (.iconst 2, 1) := by decide +kernel
theorem dL_examine_20 : decode cL_examine 20 = .ok (.ireturn, 1) := by decide +kernel
theorem dL_examine_21 : decode cL_examine 21 = .ok (.iconst 0, 1) := by decide +kernel
theorem dL_examine_22 : decode cL_examine 22 = .ok (.ireturn, 1) := by decide +kernel
theorem dL_endTerm_0 : decode cL_endTerm 0 = .ok (.aload_n 1, 1) := by decide +kernel
theorem dL_endTerm_1 : decode cL_endTerm 1 = .ok (.iconst 0, 1) := by decide +kernel
theorem dL_endTerm_2 : decode cL_endTerm 2 = .ok (.aload_n 0, 1) := by decide +kernel
theorem dL_endTerm_3 : decode cL_endTerm 3 = .ok (.invokevirtual 39, 3) := by decide +kernel
theorem dL_endTerm_6 : decode cL_endTerm 6 = .ok (.i2l, 1) := by decide +kernel
theorem dL_endTerm_7 : decode cL_endTerm 7 = .ok (.lastore, 1) := by decide +kernel
theorem dL_endTerm_8 : decode cL_endTerm 8 = .ok (.goto 6, 3) := by decide +kernel
theorem dL_endTerm_11 : decode cL_endTerm 11 = .ok (.astore_n 2, 1) := by decide +kernel
theorem dL_endTerm_12 : decode cL_endTerm 12 = .ok (.iconst 1, 1) := by decide +kernel
theorem dL_endTerm_13 : decode cL_endTerm 13 = .ok (.ireturn, 1) := by decide +kernel
theorem dL_endTerm_14 : decode cL_endTerm 14 = .ok (.iconst 0, 1) := by decide +kernel
theorem dL_endTerm_15 : decode cL_endTerm 15 = .ok (.ireturn, 1) := by decide +kernel
theorem dL_memory_0 : decode cL_memory 0 = .ok (.aload_n 2, 1) := by decide +kernel
theorem dL_memory_1 : decode cL_memory 1 = .ok (.iconst 0, 1) := by decide +kernel
theorem dL_memory_2 : decode cL_memory 2 = .ok (.aload_n 0, 1) := by decide +kernel
theorem dL_memory_3 : decode cL_memory 3 = .ok (.iload_n 1, 1) := by decide +kernel
theorem dL_memory_4 : decode cL_memory 4 = .ok (.invokevirtual 43, 3) := by decide +kernel
theorem dL_memory_7 : decode cL_memory 7 = .ok (.i2l, 1) := by decide +kernel
theorem dL_memory_8 : decode cL_memory 8 = .ok (.lastore, 1) := by decide +kernel
theorem dL_memory_9 : decode cL_memory 9 = .ok (.goto 6, 3) := by decide +kernel
theorem dL_memory_12 : decode cL_memory 12 = .ok (.astore_n 3, 1) := by decide +kernel
theorem dL_memory_13 : decode cL_memory 13 = .ok (.iconst 1, 1) := by decide +kernel
theorem dL_memory_14 : decode cL_memory 14 = .ok (.ireturn, 1) := by decide +kernel
theorem dL_memory_15 : decode cL_memory 15 = .ok (.iconst 0, 1) := by decide +kernel
theorem dL_memory_16 : decode cL_memory 16 = .ok (.ireturn, 1) := by decide +kernel
theorem dL_period_0 : decode cL_period 0 = .ok (.aload_n 2, 1) := by decide +kernel
theorem dL_period_1 : decode cL_period 1 = .ok (.iconst 0, 1) := by decide +kernel
theorem dL_period_2 : decode cL_period 2 = .ok (.aload_n 0, 1) := by decide +kernel
theorem dL_period_3 : decode cL_period 3 = .ok (.iload_n 1, 1) := by decide +kernel
theorem dL_period_4 : decode cL_period 4 = .ok (.invokevirtual 46, 3) := by decide +kernel
theorem dL_period_7 : decode cL_period 7 = .ok (.i2l, 1) := by decide +kernel
theorem dL_period_8 : decode cL_period 8 = .ok (.lastore, 1) := by decide +kernel
theorem dL_period_9 : decode cL_period 9 = .ok (.goto 6, 3) := by decide +kernel
theorem dL_period_12 : decode cL_period 12 = .ok (.astore_n 3, 1) := by decide +kernel
theorem dL_period_13 : decode cL_period 13 = .ok (.iconst 1, 1) := by decide +kernel
theorem dL_period_14 : decode cL_period 14 = .ok (.ireturn, 1) := by decide +kernel
theorem dL_period_15 : decode cL_period 15 = .ok (.iconst 0, 1) := by decide +kernel
theorem dL_period_16 : decode cL_period 16 = .ok (.ireturn, 1) := by decide +kernel
theorem dL_trials_0 : decode cL_trials 0 = .ok (.aload_n 2, 1) := by decide +kernel
theorem dL_trials_1 : decode cL_trials 1 = .ok (.iconst 0, 1) := by decide +kernel
theorem dL_trials_2 : decode cL_trials 2 = .ok (.aload_n 0, 1) := by decide +kernel
theorem dL_trials_3 : decode cL_trials 3 = .ok (.iload_n 1, 1) := by decide +kernel
theorem dL_trials_4 : decode cL_trials 4 = .ok (.invokevirtual 49, 3) := by decide +kernel
theorem dL_trials_7 : decode cL_trials 7 = .ok (.i2l, 1) := by decide +kernel
theorem dL_trials_8 : decode cL_trials 8 = .ok (.lastore, 1) := by decide +kernel
theorem dL_trials_9 : decode cL_trials 9 = .ok (.goto 6, 3) := by decide +kernel
theorem dL_trials_12 : decode cL_trials 12 = .ok (.astore_n 3, 1) := by decide +kernel
theorem dL_trials_13 : decode cL_trials 13 = .ok (.iconst 1, 1) := by decide +kernel
theorem dL_trials_14 : decode cL_trials 14 = .ok (.ireturn, 1) := by decide +kernel
theorem dL_trials_15 : decode cL_trials 15 = .ok (.iconst 0, 1) := by decide +kernel
theorem dL_trials_16 : decode cL_trials 16 = .ok (.ireturn, 1) := by decide +kernel
theorem dL_rememberedTrials_0 : decode cL_rememberedTrials 0 = .ok (.aload_n 2, 1) := by decide +kernel
theorem dL_rememberedTrials_1 : decode cL_rememberedTrials 1 = .ok (.iconst 0, 1) := by decide +kernel
theorem dL_rememberedTrials_2 : decode cL_rememberedTrials 2 = .ok (.aload_n 0, 1) := by decide +kernel
theorem dL_rememberedTrials_3 : decode cL_rememberedTrials 3 = .ok (.iload_n 1, 1) := by decide +kernel
theorem dL_rememberedTrials_4 : decode cL_rememberedTrials 4 = .ok (.invokevirtual 52, 3) := by decide +kernel
theorem dL_rememberedTrials_7 : decode cL_rememberedTrials 7 = .ok (.i2l, 1) := by decide +kernel
theorem dL_rememberedTrials_8 : decode cL_rememberedTrials 8 = .ok (.lastore, 1) := by decide +kernel
theorem dL_rememberedTrials_9 : decode cL_rememberedTrials 9 = .ok (.goto 6, 3) := by decide +kernel
theorem dL_rememberedTrials_12 : decode cL_rememberedTrials 12 = .ok (.astore_n 3, 1) := by decide +kernel
theorem dL_rememberedTrials_13 : decode cL_rememberedTrials 13 = .ok (.iconst 1, 1) := by decide +kernel
theorem dL_rememberedTrials_14 : decode cL_rememberedTrials 14 = .ok (.ireturn, 1) := by decide +kernel
theorem dL_rememberedTrials_15 : decode cL_rememberedTrials 15 = .ok (.iconst 0, 1) := by decide +kernel
theorem dL_rememberedTrials_16 : decode cL_rememberedTrials 16 = .ok (.ireturn, 1) := by decide +kernel
theorem dL_trialRain_0 : decode cL_trialRain 0 = .ok (.aload_n 3, 1) := by decide +kernel
theorem dL_trialRain_1 : decode cL_trialRain 1 = .ok (.iconst 0, 1) := by decide +kernel
theorem dL_trialRain_2 : decode cL_trialRain 2 = .ok (.aload_n 0, 1) := by decide +kernel
theorem dL_trialRain_3 : decode cL_trialRain 3 = .ok (.iload_n 1, 1) := by decide +kernel
theorem dL_trialRain_4 : decode cL_trialRain 4 = .ok (.iload_n 2, 1) := by decide +kernel
theorem dL_trialRain_5 : decode cL_trialRain 5 = .ok (.invokevirtual 55, 3) := by decide +kernel
theorem dL_trialRain_8 : decode cL_trialRain 8 = .ok (.i2l, 1) := by decide +kernel
theorem dL_trialRain_9 : decode cL_trialRain 9 = .ok (.lastore, 1) := by decide +kernel
theorem dL_trialRain_10 : decode cL_trialRain 10 = .ok (.goto 11, 3) := by decide +kernel
theorem dL_trialRain_13 : decode cL_trialRain 13 = .ok (.astore 4, 2) := by decide +kernel
theorem dL_trialRain_15 : decode cL_trialRain 15 = .ok (.iconst 1, 1) := by decide +kernel
theorem dL_trialRain_16 : decode cL_trialRain 16 = .ok (.ireturn, 1) := by decide +kernel
theorem dL_trialRain_17 : decode cL_trialRain 17 = .ok (.astore 4, 2) := by decide +kernel
theorem dL_trialRain_19 : decode cL_trialRain 19 = .ok (.iconst 2, 1) := by decide +kernel
theorem dL_trialRain_20 : decode cL_trialRain 20 = .ok (.ireturn, 1) := by decide +kernel
theorem dL_trialRain_21 : decode cL_trialRain 21 = .ok (.iconst 0, 1) := by decide +kernel
theorem dL_trialRain_22 : decode cL_trialRain 22 = .ok (.ireturn, 1) := by decide +kernel
theorem dL_trialOpened_0 : decode cL_trialOpened 0 = .ok (.aload_n 3, 1) := by decide +kernel
theorem dL_trialOpened_1 : decode cL_trialOpened 1 = .ok (.iconst 0, 1) := by decide +kernel
theorem dL_trialOpened_2 : decode cL_trialOpened 2 = .ok (.aload_n 0, 1) := by decide +kernel
theorem dL_trialOpened_3 : decode cL_trialOpened 3 = .ok (.iload_n 1, 1) := by decide +kernel
theorem dL_trialOpened_4 : decode cL_trialOpened 4 = .ok (.iload_n 2, 1) := by decide +kernel
theorem dL_trialOpened_5 : decode cL_trialOpened 5 = .ok (.invokevirtual 60, 3) := by decide +kernel
theorem dL_trialOpened_8 : decode cL_trialOpened 8 = .ok (.ifCond .eq 7, 3) := by decide +kernel
theorem dL_trialOpened_11 : decode cL_trialOpened 11 = .ok (.lconst 1, 1) := by decide +kernel
theorem dL_trialOpened_12 : decode cL_trialOpened 12 = .ok (.goto 4, 3) := by decide +kernel
theorem dL_trialOpened_15 : decode cL_trialOpened 15 = .ok (.lconst 0, 1) := by decide +kernel
theorem dL_trialOpened_16 : decode cL_trialOpened 16 = .ok (.lastore, 1) := by decide +kernel
theorem dL_trialOpened_17 : decode cL_trialOpened 17 = .ok (.goto 11, 3) := by decide +kernel
theorem dL_trialOpened_20 : decode cL_trialOpened 20 = .ok (.astore 4, 2) := by decide +kernel
theorem dL_trialOpened_22 : decode cL_trialOpened 22 = .ok (.iconst 1, 1) := by decide +kernel
theorem dL_trialOpened_23 : decode cL_trialOpened 23 = .ok (.ireturn, 1) := by decide +kernel
theorem dL_trialOpened_24 : decode cL_trialOpened 24 = .ok (.astore 4, 2) := by decide +kernel
theorem dL_trialOpened_26 : decode cL_trialOpened 26 = .ok (.iconst 2, 1) := by decide +kernel
theorem dL_trialOpened_27 : decode cL_trialOpened 27 = .ok (.ireturn, 1) := by decide +kernel
theorem dL_trialOpened_28 : decode cL_trialOpened 28 = .ok (.iconst 0, 1) := by decide +kernel
theorem dL_trialOpened_29 : decode cL_trialOpened 29 = .ok (.ireturn, 1) := by decide +kernel
theorem dL_trialReward_0 : decode cL_trialReward 0 = .ok (.aload_n 3, 1) := by decide +kernel
theorem dL_trialReward_1 : decode cL_trialReward 1 = .ok (.iconst 0, 1) := by decide +kernel
theorem dL_trialReward_2 : decode cL_trialReward 2 = .ok (.aload_n 0, 1) := by decide +kernel
theorem dL_trialReward_3 : decode cL_trialReward 3 = .ok (.iload_n 1, 1) := by decide +kernel
theorem dL_trialReward_4 : decode cL_trialReward 4 = .ok (.iload_n 2, 1) := by decide +kernel
theorem dL_trialReward_5 : decode cL_trialReward 5 = .ok (.invokevirtual 64, 3) := by decide +kernel
theorem dL_trialReward_8 : decode cL_trialReward 8 = .ok (.i2l, 1) := by decide +kernel
theorem dL_trialReward_9 : decode cL_trialReward 9 = .ok (.lastore, 1) := by decide +kernel
theorem dL_trialReward_10 : decode cL_trialReward 10 = .ok (.goto 11, 3) := by decide +kernel
theorem dL_trialReward_13 : decode cL_trialReward 13 = .ok (.astore 4, 2) := by decide +kernel
theorem dL_trialReward_15 : decode cL_trialReward 15 = .ok (.iconst 1, 1) := by decide +kernel
theorem dL_trialReward_16 : decode cL_trialReward 16 = .ok (.ireturn, 1) := by decide +kernel
theorem dL_trialReward_17 : decode cL_trialReward 17 = .ok (.astore 4, 2) := by decide +kernel
theorem dL_trialReward_19 : decode cL_trialReward 19 = .ok (.iconst 2, 1) := by decide +kernel
theorem dL_trialReward_20 : decode cL_trialReward 20 = .ok (.ireturn, 1) := by decide +kernel
theorem dL_trialReward_21 : decode cL_trialReward 21 = .ok (.iconst 0, 1) := by decide +kernel
theorem dL_trialReward_22 : decode cL_trialReward 22 = .ok (.ireturn, 1) := by decide +kernel
theorem dL_reward_0 : decode cL_reward 0 = .ok (.aload 4, 2) := by decide +kernel
theorem dL_reward_2 : decode cL_reward 2 = .ok (.iconst 0, 1) := by decide +kernel
theorem dL_reward_3 : decode cL_reward 3 = .ok (.aload_n 0, 1) := by decide +kernel
theorem dL_reward_4 : decode cL_reward 4 = .ok (.iload_n 1, 1) := by decide +kernel
theorem dL_reward_5 : decode cL_reward 5 = .ok (.iload_n 2, 1) := by decide +kernel
theorem dL_reward_6 : decode cL_reward 6 = .ok (.iload_n 3, 1) := by decide +kernel
theorem dL_reward_7 : decode cL_reward 7 = .ok (.invokevirtual 67, 3) := by decide +kernel
theorem dL_reward_10 : decode cL_reward 10 = .ok (.i2l, 1) := by decide +kernel
theorem dL_reward_11 : decode cL_reward 11 = .ok (.lastore, 1) := by decide +kernel
theorem dL_reward_12 : decode cL_reward 12 = .ok (.goto 7, 3) := by decide +kernel
theorem dL_reward_15 : decode cL_reward 15 = .ok (.astore 5, 2) := by decide +kernel
theorem dL_reward_17 : decode cL_reward 17 = .ok (.iconst 1, 1) := by decide +kernel
theorem dL_reward_18 : decode cL_reward 18 = .ok (.ireturn, 1) := by decide +kernel
theorem dL_reward_19 : decode cL_reward 19 = .ok (.iconst 0, 1) := by decide +kernel
theorem dL_reward_20 : decode cL_reward 20 = .ok (.ireturn, 1) := by decide +kernel
theorem dL_shouldOpen_0 : decode cL_shouldOpen 0 = .ok (.aload_n 3, 1) := by decide +kernel
theorem dL_shouldOpen_1 : decode cL_shouldOpen 1 = .ok (.iconst 0, 1) := by decide +kernel
theorem dL_shouldOpen_2 : decode cL_shouldOpen 2 = .ok (.aload_n 0, 1) := by decide +kernel
theorem dL_shouldOpen_3 : decode cL_shouldOpen 3 = .ok (.iload_n 1, 1) := by decide +kernel
theorem dL_shouldOpen_4 : decode cL_shouldOpen 4 = .ok (.iload_n 2, 1) := by decide +kernel
theorem dL_shouldOpen_5 : decode cL_shouldOpen 5 = .ok (.invokevirtual 71, 3) := by decide +kernel
theorem dL_shouldOpen_8 : decode cL_shouldOpen 8 = .ok (.ifCond .eq 7, 3) := by decide +kernel
theorem dL_shouldOpen_11 : decode cL_shouldOpen 11 = .ok (.lconst 1, 1) := by decide +kernel
theorem dL_shouldOpen_12 : decode cL_shouldOpen 12 = .ok (.goto 4, 3) := by decide +kernel
theorem dL_shouldOpen_15 : decode cL_shouldOpen 15 = .ok (.lconst 0, 1) := by decide +kernel
theorem dL_shouldOpen_16 : decode cL_shouldOpen 16 = .ok (.lastore, 1) := by decide +kernel
theorem dL_shouldOpen_17 : decode cL_shouldOpen 17 = .ok (.goto 7, 3) := by decide +kernel
theorem dL_shouldOpen_20 : decode cL_shouldOpen 20 = .ok (.astore 4, 2) := by decide +kernel
theorem dL_shouldOpen_22 : decode cL_shouldOpen 22 = .ok (.iconst 1, 1) := by decide +kernel
theorem dL_shouldOpen_23 : decode cL_shouldOpen 23 = .ok (.ireturn, 1) := by decide +kernel
theorem dL_shouldOpen_24 : decode cL_shouldOpen 24 = .ok (.iconst 0, 1) := by decide +kernel
theorem dL_shouldOpen_25 : decode cL_shouldOpen 25 = .ok (.ireturn, 1) := by decide +kernel
theorem dL_wouldOpen_0 : decode cL_wouldOpen 0 = .ok (.aload 4, 2) := by decide +kernel
theorem dL_wouldOpen_2 : decode cL_wouldOpen 2 = .ok (.iconst 0, 1) := by decide +kernel
theorem dL_wouldOpen_3 : decode cL_wouldOpen 3 = .ok (.aload_n 0, 1) := by decide +kernel
theorem dL_wouldOpen_4 : decode cL_wouldOpen 4 = .ok (.iload_n 1, 1) := by decide +kernel
theorem dL_wouldOpen_5 : decode cL_wouldOpen 5 = .ok (.iload_n 2, 1) := by decide +kernel
theorem dL_wouldOpen_6 : decode cL_wouldOpen 6 = .ok (.iload_n 3, 1) := by decide +kernel
theorem dL_wouldOpen_7 : decode cL_wouldOpen 7 = .ok (.invokevirtual 74, 3) := by decide +kernel
theorem dL_wouldOpen_10 : decode cL_wouldOpen 10 = .ok (.ifCond .eq 7, 3) := by decide +kernel
theorem dL_wouldOpen_13 : decode cL_wouldOpen 13 = .ok (.lconst 1, 1) := by decide +kernel
theorem dL_wouldOpen_14 : decode cL_wouldOpen 14 = .ok (.goto 4, 3) := by decide +kernel
theorem dL_wouldOpen_17 : decode cL_wouldOpen 17 = .ok (.lconst 0, 1) := by decide +kernel
theorem dL_wouldOpen_18 : decode cL_wouldOpen 18 = .ok (.lastore, 1) := by decide +kernel
theorem dL_wouldOpen_19 : decode cL_wouldOpen 19 = .ok (.goto 11, 3) := by decide +kernel
theorem dL_wouldOpen_22 : decode cL_wouldOpen 22 = .ok (.astore 5, 2) := by decide +kernel
theorem dL_wouldOpen_24 : decode cL_wouldOpen 24 = .ok (.iconst 1, 1) := by decide +kernel
theorem dL_wouldOpen_25 : decode cL_wouldOpen 25 = .ok (.ireturn, 1) := by decide +kernel
theorem dL_wouldOpen_26 : decode cL_wouldOpen 26 = .ok (.astore 5, 2) := by decide +kernel
theorem dL_wouldOpen_28 : decode cL_wouldOpen 28 = .ok (.iconst 2, 1) := by decide +kernel
theorem dL_wouldOpen_29 : decode cL_wouldOpen 29 = .ok (.ireturn, 1) := by decide +kernel
theorem dL_wouldOpen_30 : decode cL_wouldOpen 30 = .ok (.iconst 0, 1) := by decide +kernel
theorem dL_wouldOpen_31 : decode cL_wouldOpen 31 = .ok (.ireturn, 1) := by decide +kernel
theorem dL_exploresNext_0 : decode cL_exploresNext 0 = .ok (.aload_n 2, 1) := by decide +kernel
theorem dL_exploresNext_1 : decode cL_exploresNext 1 = .ok (.iconst 0, 1) := by decide +kernel
theorem dL_exploresNext_2 : decode cL_exploresNext 2 = .ok (.aload_n 0, 1) := by decide +kernel
theorem dL_exploresNext_3 : decode cL_exploresNext 3 = .ok (.iload_n 1, 1) := by decide +kernel
theorem dL_exploresNext_4 : decode cL_exploresNext 4 = .ok (.invokevirtual 78, 3) := by decide +kernel
theorem dL_exploresNext_7 : decode cL_exploresNext 7 = .ok (.ifCond .eq 7, 3) := by decide +kernel
theorem dL_exploresNext_10 : decode cL_exploresNext 10 = .ok (.lconst 1, 1) := by decide +kernel
theorem dL_exploresNext_11 : decode cL_exploresNext 11 = .ok (.goto 4, 3) := by decide +kernel
theorem dL_exploresNext_14 : decode cL_exploresNext 14 = .ok (.lconst 0, 1) := by decide +kernel
theorem dL_exploresNext_15 : decode cL_exploresNext 15 = .ok (.lastore, 1) := by decide +kernel
theorem dL_exploresNext_16 : decode cL_exploresNext 16 = .ok (.goto 6, 3) := by decide +kernel
theorem dL_exploresNext_19 : decode cL_exploresNext 19 = .ok (.astore_n 3, 1) := by decide +kernel
theorem dL_exploresNext_20 : decode cL_exploresNext 20 = .ok (.iconst 1, 1) := by decide +kernel
theorem dL_exploresNext_21 : decode cL_exploresNext 21 = .ok (.ireturn, 1) := by decide +kernel
theorem dL_exploresNext_22 : decode cL_exploresNext 22 = .ok (.iconst 0, 1) := by decide +kernel
theorem dL_exploresNext_23 : decode cL_exploresNext 23 = .ok (.ireturn, 1) := by decide +kernel
theorem dL_timesTried_0 : decode cL_timesTried 0 = .ok (.aload 5, 2) := by decide +kernel
theorem dL_timesTried_2 : decode cL_timesTried 2 = .ok (.iconst 0, 1) := by decide +kernel
theorem dL_timesTried_3 : decode cL_timesTried 3 = .ok (.aload_n 0, 1) := by decide +kernel
theorem dL_timesTried_4 : decode cL_timesTried 4 = .ok (.iload_n 1, 1) := by decide +kernel
theorem dL_timesTried_5 : decode cL_timesTried 5 = .ok (.iload_n 2, 1) := by decide +kernel
theorem dL_timesTried_6 : decode cL_timesTried 6 = .ok (.iload_n 3, 1) := by decide +kernel
theorem dL_timesTried_7 : decode cL_timesTried 7 = .ok (.iload 4, 2) := by decide +kernel
theorem dL_timesTried_9 : decode cL_timesTried 9 = .ok (.invokevirtual 82, 3) := by decide +kernel
theorem dL_timesTried_12 : decode cL_timesTried 12 = .ok (.i2l, 1) := by decide +kernel
theorem dL_timesTried_13 : decode cL_timesTried 13 = .ok (.lastore, 1) := by decide +kernel
theorem dL_timesTried_14 : decode cL_timesTried 14 = .ok (.goto 11, 3) := by decide +kernel
theorem dL_timesTried_17 : decode cL_timesTried 17 = .ok (.astore 6, 2) := by decide +kernel
theorem dL_timesTried_19 : decode cL_timesTried 19 = .ok (.iconst 1, 1) := by decide +kernel
theorem dL_timesTried_20 : decode cL_timesTried 20 = .ok (.ireturn, 1) := by decide +kernel
theorem dL_timesTried_21 : decode cL_timesTried 21 = .ok (.astore 6, 2) := by decide +kernel
theorem dL_timesTried_23 : decode cL_timesTried 23 = .ok (.iconst 2, 1) := by decide +kernel
theorem dL_timesTried_24 : decode cL_timesTried 24 = .ok (.ireturn, 1) := by decide +kernel
theorem dL_timesTried_25 : decode cL_timesTried 25 = .ok (.iconst 0, 1) := by decide +kernel
theorem dL_timesTried_26 : decode cL_timesTried 26 = .ok (.ireturn, 1) := by decide +kernel
theorem dL_rewardSum_0 : decode cL_rewardSum 0 = .ok (.aload 5, 2) := by decide +kernel
theorem dL_rewardSum_2 : decode cL_rewardSum 2 = .ok (.iconst 0, 1) := by decide +kernel
theorem dL_rewardSum_3 : decode cL_rewardSum 3 = .ok (.aload_n 0, 1) := by decide +kernel
theorem dL_rewardSum_4 : decode cL_rewardSum 4 = .ok (.iload_n 1, 1) := by decide +kernel
theorem dL_rewardSum_5 : decode cL_rewardSum 5 = .ok (.iload_n 2, 1) := by decide +kernel
theorem dL_rewardSum_6 : decode cL_rewardSum 6 = .ok (.iload_n 3, 1) := by decide +kernel
theorem dL_rewardSum_7 : decode cL_rewardSum 7 = .ok (.iload 4, 2) := by decide +kernel
theorem dL_rewardSum_9 : decode cL_rewardSum 9 = .ok (.invokevirtual 86, 3) := by decide +kernel
theorem dL_rewardSum_12 : decode cL_rewardSum 12 = .ok (.i2l, 1) := by decide +kernel
theorem dL_rewardSum_13 : decode cL_rewardSum 13 = .ok (.lastore, 1) := by decide +kernel
theorem dL_rewardSum_14 : decode cL_rewardSum 14 = .ok (.goto 11, 3) := by decide +kernel
theorem dL_rewardSum_17 : decode cL_rewardSum 17 = .ok (.astore 6, 2) := by decide +kernel
theorem dL_rewardSum_19 : decode cL_rewardSum 19 = .ok (.iconst 1, 1) := by decide +kernel
theorem dL_rewardSum_20 : decode cL_rewardSum 20 = .ok (.ireturn, 1) := by decide +kernel
theorem dL_rewardSum_21 : decode cL_rewardSum 21 = .ok (.astore 6, 2) := by decide +kernel
theorem dL_rewardSum_23 : decode cL_rewardSum 23 = .ok (.iconst 2, 1) := by decide +kernel
theorem dL_rewardSum_24 : decode cL_rewardSum 24 = .ok (.ireturn, 1) := by decide +kernel
theorem dL_rewardSum_25 : decode cL_rewardSum 25 = .ok (.iconst 0, 1) := by decide +kernel
theorem dL_rewardSum_26 : decode cL_rewardSum 26 = .ok (.ireturn, 1) := by decide +kernel
theorem dL_rewardSumByTrials_0 : decode cL_rewardSumByTrials 0 = .ok (.aload 5, 2) := by decide +kernel
theorem dL_rewardSumByTrials_2 : decode cL_rewardSumByTrials 2 = .ok (.iconst 0, 1) := by decide +kernel
theorem dL_rewardSumByTrials_3 : decode cL_rewardSumByTrials 3 = .ok (.aload_n 0, 1) := by decide +kernel
theorem dL_rewardSumByTrials_4 : decode cL_rewardSumByTrials 4 = .ok (.iload_n 1, 1) := by decide +kernel
theorem dL_rewardSumByTrials_5 : decode cL_rewardSumByTrials 5 = .ok (.iload_n 2, 1) := by decide +kernel
theorem dL_rewardSumByTrials_6 : decode cL_rewardSumByTrials 6 = .ok (.iload_n 3, 1) := by decide +kernel
theorem dL_rewardSumByTrials_7 : decode cL_rewardSumByTrials 7 = .ok (.iload 4, 2) := by decide +kernel
theorem dL_rewardSumByTrials_9 : decode cL_rewardSumByTrials 9 = .ok (.invokevirtual 89, 3) := by decide +kernel
theorem dL_rewardSumByTrials_12 : decode cL_rewardSumByTrials 12 = .ok (.i2l, 1) := by decide +kernel
theorem dL_rewardSumByTrials_13 : decode cL_rewardSumByTrials 13 = .ok (.lastore, 1) := by decide +kernel
theorem dL_rewardSumByTrials_14 : decode cL_rewardSumByTrials 14 = .ok (.goto 11, 3) := by decide +kernel
theorem dL_rewardSumByTrials_17 : decode cL_rewardSumByTrials 17 = .ok (.astore 6, 2) := by decide +kernel
theorem dL_rewardSumByTrials_19 : decode cL_rewardSumByTrials 19 = .ok (.iconst 1, 1) := by decide +kernel
theorem dL_rewardSumByTrials_20 : decode cL_rewardSumByTrials 20 = .ok (.ireturn, 1) := by decide +kernel
theorem dL_rewardSumByTrials_21 : decode cL_rewardSumByTrials 21 = .ok (.astore 6, 2) := by decide +kernel
theorem dL_rewardSumByTrials_23 : decode cL_rewardSumByTrials 23 = .ok (.iconst 2, 1) := by decide +kernel
theorem dL_rewardSumByTrials_24 : decode cL_rewardSumByTrials 24 = .ok (.ireturn, 1) := by decide +kernel
theorem dL_rewardSumByTrials_25 : decode cL_rewardSumByTrials 25 = .ok (.iconst 0, 1) := by decide +kernel
theorem dL_rewardSumByTrials_26 : decode cL_rewardSumByTrials 26 = .ok (.ireturn, 1) := by decide +kernel
theorem dL_meanReward_0 : decode cL_meanReward 0 = .ok (.aload 5, 2) := by decide +kernel
theorem dL_meanReward_2 : decode cL_meanReward 2 = .ok (.iconst 0, 1) := by decide +kernel
theorem dL_meanReward_3 : decode cL_meanReward 3 = .ok (.aload_n 0, 1) := by decide +kernel
theorem dL_meanReward_4 : decode cL_meanReward 4 = .ok (.iload_n 1, 1) := by decide +kernel
theorem dL_meanReward_5 : decode cL_meanReward 5 = .ok (.iload_n 2, 1) := by decide +kernel
theorem dL_meanReward_6 : decode cL_meanReward 6 = .ok (.iload_n 3, 1) := by decide +kernel
theorem dL_meanReward_7 : decode cL_meanReward 7 = .ok (.iload 4, 2) := by decide +kernel
theorem dL_meanReward_9 : decode cL_meanReward 9 = .ok (.invokevirtual 92, 3) := by decide +kernel
theorem dL_meanReward_12 : decode cL_meanReward 12 = .ok (.dastore, 1) := by decide +kernel
theorem dL_meanReward_13 : decode cL_meanReward 13 = .ok (.goto 15, 3) := by decide +kernel
theorem dL_meanReward_16 : decode cL_meanReward 16 = .ok (.astore 6, 2) := by decide +kernel
theorem dL_meanReward_18 : decode cL_meanReward 18 = .ok (.iconst 1, 1) := by decide +kernel
theorem dL_meanReward_19 : decode cL_meanReward 19 = .ok (.ireturn, 1) := by decide +kernel
theorem dL_meanReward_20 : decode cL_meanReward 20 = .ok (.astore 6, 2) := by decide +kernel
theorem dL_meanReward_22 : decode cL_meanReward 22 = .ok (.iconst 2, 1) := by decide +kernel
theorem dL_meanReward_23 : decode cL_meanReward 23 = .ok (.ireturn, 1) := by decide +kernel
theorem dL_meanReward_24 : decode cL_meanReward 24 = .ok (.astore 6, 2) := by decide +kernel
theorem dL_meanReward_26 : decode cL_meanReward 26 = .ok (.iconst 3, 1) := by decide +kernel
theorem dL_meanReward_27 : decode cL_meanReward 27 = .ok (.ireturn, 1) := by decide +kernel
theorem dL_meanReward_28 : decode cL_meanReward 28 = .ok (.iconst 0, 1) := by decide +kernel
theorem dL_meanReward_29 : decode cL_meanReward 29 = .ok (.ireturn, 1) := by decide +kernel
theorem dL_rightHabits_0 : decode cL_rightHabits 0 = .ok (.aload_n 2, 1) := by decide +kernel
theorem dL_rightHabits_1 : decode cL_rightHabits 1 = .ok (.iconst 0, 1) := by decide +kernel
theorem dL_rightHabits_2 : decode cL_rightHabits 2 = .ok (.aload_n 0, 1) := by decide +kernel
theorem dL_rightHabits_3 : decode cL_rightHabits 3 = .ok (.iload_n 1, 1) := by decide +kernel
theorem dL_rightHabits_4 : decode cL_rightHabits 4 = .ok (.invokevirtual 96, 3) := by decide +kernel
theorem dL_rightHabits_7 : decode cL_rightHabits 7 = .ok (.i2l, 1) := by decide +kernel
theorem dL_rightHabits_8 : decode cL_rightHabits 8 = .ok (.lastore, 1) := by decide +kernel
theorem dL_rightHabits_9 : decode cL_rightHabits 9 = .ok (.goto 6, 3) := by decide +kernel
theorem dL_rightHabits_12 : decode cL_rightHabits 12 = .ok (.astore_n 3, 1) := by decide +kernel
theorem dL_rightHabits_13 : decode cL_rightHabits 13 = .ok (.iconst 1, 1) := by decide +kernel
theorem dL_rightHabits_14 : decode cL_rightHabits 14 = .ok (.ireturn, 1) := by decide +kernel
theorem dL_rightHabits_15 : decode cL_rightHabits 15 = .ok (.iconst 0, 1) := by decide +kernel
theorem dL_rightHabits_16 : decode cL_rightHabits 16 = .ok (.ireturn, 1) := by decide +kernel
theorem dL_knownSituations_0 : decode cL_knownSituations 0 = .ok (.aload_n 2, 1) := by decide +kernel
theorem dL_knownSituations_1 : decode cL_knownSituations 1 = .ok (.iconst 0, 1) := by decide +kernel
theorem dL_knownSituations_2 : decode cL_knownSituations 2 = .ok (.aload_n 0, 1) := by decide +kernel
theorem dL_knownSituations_3 : decode cL_knownSituations 3 = .ok (.iload_n 1, 1) := by decide +kernel
theorem dL_knownSituations_4 : decode cL_knownSituations 4 = .ok (.invokevirtual 99, 3) := by decide +kernel
theorem dL_knownSituations_7 : decode cL_knownSituations 7 = .ok (.i2l, 1) := by decide +kernel
theorem dL_knownSituations_8 : decode cL_knownSituations 8 = .ok (.lastore, 1) := by decide +kernel
theorem dL_knownSituations_9 : decode cL_knownSituations 9 = .ok (.goto 6, 3) := by decide +kernel
theorem dL_knownSituations_12 : decode cL_knownSituations 12 = .ok (.astore_n 3, 1) := by decide +kernel
theorem dL_knownSituations_13 : decode cL_knownSituations 13 = .ok (.iconst 1, 1) := by decide +kernel
theorem dL_knownSituations_14 : decode cL_knownSituations 14 = .ok (.ireturn, 1) := by decide +kernel
theorem dL_knownSituations_15 : decode cL_knownSituations 15 = .ok (.iconst 0, 1) := by decide +kernel
theorem dL_knownSituations_16 : decode cL_knownSituations 16 = .ok (.ireturn, 1) := by decide +kernel
theorem dL_situationRain_0 : decode cL_situationRain 0 = .ok (.aload_n 3, 1) := by decide +kernel
theorem dL_situationRain_1 : decode cL_situationRain 1 = .ok (.iconst 0, 1) := by decide +kernel
theorem dL_situationRain_2 : decode cL_situationRain 2 = .ok (.aload_n 0, 1) := by decide +kernel
theorem dL_situationRain_3 : decode cL_situationRain 3 = .ok (.iload_n 1, 1) := by decide +kernel
theorem dL_situationRain_4 : decode cL_situationRain 4 = .ok (.iload_n 2, 1) := by decide +kernel
theorem dL_situationRain_5 : decode cL_situationRain 5 = .ok (.invokevirtual 102, 3) := by decide +kernel
theorem dL_situationRain_8 : decode cL_situationRain 8 = .ok (.i2l, 1) := by decide +kernel
theorem dL_situationRain_9 : decode cL_situationRain 9 = .ok (.lastore, 1) := by decide +kernel
theorem dL_situationRain_10 : decode cL_situationRain 10 = .ok (.goto 11, 3) := by decide +kernel
theorem dL_situationRain_13 : decode cL_situationRain 13 = .ok (.astore 4, 2) := by decide +kernel
theorem dL_situationRain_15 : decode cL_situationRain 15 = .ok (.iconst 1, 1) := by decide +kernel
theorem dL_situationRain_16 : decode cL_situationRain 16 = .ok (.ireturn, 1) := by decide +kernel
theorem dL_situationRain_17 : decode cL_situationRain 17 = .ok (.astore 4, 2) := by decide +kernel
theorem dL_situationRain_19 : decode cL_situationRain 19 = .ok (.iconst 2, 1) := by decide +kernel
theorem dL_situationRain_20 : decode cL_situationRain 20 = .ok (.ireturn, 1) := by decide +kernel
theorem dL_situationRain_21 : decode cL_situationRain 21 = .ok (.iconst 0, 1) := by decide +kernel
theorem dL_situationRain_22 : decode cL_situationRain 22 = .ok (.ireturn, 1) := by decide +kernel
theorem dL_situationWind_0 : decode cL_situationWind 0 = .ok (.aload_n 3, 1) := by decide +kernel
theorem dL_situationWind_1 : decode cL_situationWind 1 = .ok (.iconst 0, 1) := by decide +kernel
theorem dL_situationWind_2 : decode cL_situationWind 2 = .ok (.aload_n 0, 1) := by decide +kernel
theorem dL_situationWind_3 : decode cL_situationWind 3 = .ok (.iload_n 1, 1) := by decide +kernel
theorem dL_situationWind_4 : decode cL_situationWind 4 = .ok (.iload_n 2, 1) := by decide +kernel
theorem dL_situationWind_5 : decode cL_situationWind 5 = .ok (.invokevirtual 105, 3) := by decide +kernel
theorem dL_situationWind_8 : decode cL_situationWind 8 = .ok (.i2l, 1) := by decide +kernel
theorem dL_situationWind_9 : decode cL_situationWind 9 = .ok (.lastore, 1) := by decide +kernel
theorem dL_situationWind_10 : decode cL_situationWind 10 = .ok (.goto 11, 3) := by decide +kernel
theorem dL_situationWind_13 : decode cL_situationWind 13 = .ok (.astore 4, 2) := by decide +kernel
theorem dL_situationWind_15 : decode cL_situationWind 15 = .ok (.iconst 1, 1) := by decide +kernel
theorem dL_situationWind_16 : decode cL_situationWind 16 = .ok (.ireturn, 1) := by decide +kernel
theorem dL_situationWind_17 : decode cL_situationWind 17 = .ok (.astore 4, 2) := by decide +kernel
theorem dL_situationWind_19 : decode cL_situationWind 19 = .ok (.iconst 2, 1) := by decide +kernel
theorem dL_situationWind_20 : decode cL_situationWind 20 = .ok (.ireturn, 1) := by decide +kernel
theorem dL_situationWind_21 : decode cL_situationWind 21 = .ok (.iconst 0, 1) := by decide +kernel
theorem dL_situationWind_22 : decode cL_situationWind 22 = .ok (.ireturn, 1) := by decide +kernel
theorem dL_hasExam_0 : decode cL_hasExam 0 = .ok (.aload_n 3, 1) := by decide +kernel
theorem dL_hasExam_1 : decode cL_hasExam 1 = .ok (.iconst 0, 1) := by decide +kernel
theorem dL_hasExam_2 : decode cL_hasExam 2 = .ok (.aload_n 0, 1) := by decide +kernel
theorem dL_hasExam_3 : decode cL_hasExam 3 = .ok (.iload_n 1, 1) := by decide +kernel
theorem dL_hasExam_4 : decode cL_hasExam 4 = .ok (.iload_n 2, 1) := by decide +kernel
theorem dL_hasExam_5 : decode cL_hasExam 5 = .ok (.invokevirtual 108, 3) := by decide +kernel
theorem dL_hasExam_8 : decode cL_hasExam 8 = .ok (.ifCond .eq 7, 3) := by decide +kernel
theorem dL_hasExam_11 : decode cL_hasExam 11 = .ok (.lconst 1, 1) := by decide +kernel
theorem dL_hasExam_12 : decode cL_hasExam 12 = .ok (.goto 4, 3) := by decide +kernel
theorem dL_hasExam_15 : decode cL_hasExam 15 = .ok (.lconst 0, 1) := by decide +kernel
theorem dL_hasExam_16 : decode cL_hasExam 16 = .ok (.lastore, 1) := by decide +kernel
theorem dL_hasExam_17 : decode cL_hasExam 17 = .ok (.goto 11, 3) := by decide +kernel
theorem dL_hasExam_20 : decode cL_hasExam 20 = .ok (.astore 4, 2) := by decide +kernel
theorem dL_hasExam_22 : decode cL_hasExam 22 = .ok (.iconst 1, 1) := by decide +kernel
theorem dL_hasExam_23 : decode cL_hasExam 23 = .ok (.ireturn, 1) := by decide +kernel
theorem dL_hasExam_24 : decode cL_hasExam 24 = .ok (.astore 4, 2) := by decide +kernel
theorem dL_hasExam_26 : decode cL_hasExam 26 = .ok (.iconst 2, 1) := by decide +kernel
theorem dL_hasExam_27 : decode cL_hasExam 27 = .ok (.ireturn, 1) := by decide +kernel
theorem dL_hasExam_28 : decode cL_hasExam 28 = .ok (.iconst 0, 1) := by decide +kernel
theorem dL_hasExam_29 : decode cL_hasExam 29 = .ok (.ireturn, 1) := by decide +kernel
theorem dL_isGraduate_0 : decode cL_isGraduate 0 = .ok (.aload_n 2, 1) := by decide +kernel
theorem dL_isGraduate_1 : decode cL_isGraduate 1 = .ok (.iconst 0, 1) := by decide +kernel
theorem dL_isGraduate_2 : decode cL_isGraduate 2 = .ok (.aload_n 0, 1) := by decide +kernel
theorem dL_isGraduate_3 : decode cL_isGraduate 3 = .ok (.iload_n 1, 1) := by decide +kernel
theorem dL_isGraduate_4 : decode cL_isGraduate 4 = .ok (.invokevirtual 111, 3) := by decide +kernel
theorem dL_isGraduate_7 : decode cL_isGraduate 7 = .ok (.ifCond .eq 7, 3) := by decide +kernel
theorem dL_isGraduate_10 : decode cL_isGraduate 10 = .ok (.lconst 1, 1) := by decide +kernel
theorem dL_isGraduate_11 : decode cL_isGraduate 11 = .ok (.goto 4, 3) := by decide +kernel
theorem dL_isGraduate_14 : decode cL_isGraduate 14 = .ok (.lconst 0, 1) := by decide +kernel
theorem dL_isGraduate_15 : decode cL_isGraduate 15 = .ok (.lastore, 1) := by decide +kernel
theorem dL_isGraduate_16 : decode cL_isGraduate 16 = .ok (.goto 6, 3) := by decide +kernel
theorem dL_isGraduate_19 : decode cL_isGraduate 19 = .ok (.astore_n 3, 1) := by decide +kernel
theorem dL_isGraduate_20 : decode cL_isGraduate 20 = .ok (.iconst 1, 1) := by decide +kernel
theorem dL_isGraduate_21 : decode cL_isGraduate 21 = .ok (.ireturn, 1) := by decide +kernel
theorem dL_isGraduate_22 : decode cL_isGraduate 22 = .ok (.iconst 0, 1) := by decide +kernel
theorem dL_isGraduate_23 : decode cL_isGraduate 23 = .ok (.ireturn, 1) := by decide +kernel
theorem dL_totalReward_0 : decode cL_totalReward 0 = .ok (.aload_n 2, 1) := by decide +kernel
theorem dL_totalReward_1 : decode cL_totalReward 1 = .ok (.iconst 0, 1) := by decide +kernel
theorem dL_totalReward_2 : decode cL_totalReward 2 = .ok (.aload_n 0, 1) := by decide +kernel
theorem dL_totalReward_3 : decode cL_totalReward 3 = .ok (.iload_n 1, 1) := by decide +kernel
theorem dL_totalReward_4 : decode cL_totalReward 4 = .ok (.invokevirtual 114, 3) := by decide +kernel
theorem dL_totalReward_7 : decode cL_totalReward 7 = .ok (.i2l, 1) := by decide +kernel
theorem dL_totalReward_8 : decode cL_totalReward 8 = .ok (.lastore, 1) := by decide +kernel
theorem dL_totalReward_9 : decode cL_totalReward 9 = .ok (.goto 6, 3) := by decide +kernel
theorem dL_totalReward_12 : decode cL_totalReward 12 = .ok (.astore_n 3, 1) := by decide +kernel
theorem dL_totalReward_13 : decode cL_totalReward 13 = .ok (.iconst 1, 1) := by decide +kernel
theorem dL_totalReward_14 : decode cL_totalReward 14 = .ok (.ireturn, 1) := by decide +kernel
theorem dL_totalReward_15 : decode cL_totalReward 15 = .ok (.iconst 0, 1) := by decide +kernel
theorem dL_totalReward_16 : decode cL_totalReward 16 = .ok (.ireturn, 1) := by decide +kernel
theorem dL_termReward_0 : decode cL_termReward 0 = .ok (.aload_n 2, 1) := by decide +kernel
theorem dL_termReward_1 : decode cL_termReward 1 = .ok (.iconst 0, 1) := by decide +kernel
theorem dL_termReward_2 : decode cL_termReward 2 = .ok (.aload_n 0, 1) := by decide +kernel
theorem dL_termReward_3 : decode cL_termReward 3 = .ok (.iload_n 1, 1) := by decide +kernel
theorem dL_termReward_4 : decode cL_termReward 4 = .ok (.invokevirtual 117, 3) := by decide +kernel
theorem dL_termReward_7 : decode cL_termReward 7 = .ok (.i2l, 1) := by decide +kernel
theorem dL_termReward_8 : decode cL_termReward 8 = .ok (.lastore, 1) := by decide +kernel
theorem dL_termReward_9 : decode cL_termReward 9 = .ok (.goto 6, 3) := by decide +kernel
theorem dL_termReward_12 : decode cL_termReward 12 = .ok (.astore_n 3, 1) := by decide +kernel
theorem dL_termReward_13 : decode cL_termReward 13 = .ok (.iconst 1, 1) := by decide +kernel
theorem dL_termReward_14 : decode cL_termReward 14 = .ok (.ireturn, 1) := by decide +kernel
theorem dL_termReward_15 : decode cL_termReward 15 = .ok (.iconst 0, 1) := by decide +kernel
theorem dL_termReward_16 : decode cL_termReward 16 = .ok (.ireturn, 1) := by decide +kernel
theorem dL_stars_0 : decode cL_stars 0 = .ok (.aload_n 2, 1) := by decide +kernel
theorem dL_stars_1 : decode cL_stars 1 = .ok (.iconst 0, 1) := by decide +kernel
theorem dL_stars_2 : decode cL_stars 2 = .ok (.aload_n 0, 1) := by decide +kernel
theorem dL_stars_3 : decode cL_stars 3 = .ok (.iload_n 1, 1) := by decide +kernel
theorem dL_stars_4 : decode cL_stars 4 = .ok (.invokevirtual 120, 3) := by decide +kernel
theorem dL_stars_7 : decode cL_stars 7 = .ok (.i2l, 1) := by decide +kernel
theorem dL_stars_8 : decode cL_stars 8 = .ok (.lastore, 1) := by decide +kernel
theorem dL_stars_9 : decode cL_stars 9 = .ok (.goto 6, 3) := by decide +kernel
theorem dL_stars_12 : decode cL_stars 12 = .ok (.astore_n 3, 1) := by decide +kernel
theorem dL_stars_13 : decode cL_stars 13 = .ok (.iconst 1, 1) := by decide +kernel
theorem dL_stars_14 : decode cL_stars 14 = .ok (.ireturn, 1) := by decide +kernel
theorem dL_stars_15 : decode cL_stars 15 = .ok (.iconst 0, 1) := by decide +kernel
theorem dL_stars_16 : decode cL_stars 16 = .ok (.ireturn, 1) := by decide +kernel
theorem dL_umbrellaByStars_0 : decode cL_umbrellaByStars 0 = .ok (.aload_n 2, 1) := by decide +kernel
theorem dL_umbrellaByStars_1 : decode cL_umbrellaByStars 1 = .ok (.iconst 0, 1) := by decide +kernel
theorem dL_umbrellaByStars_2 : decode cL_umbrellaByStars 2 = .ok (.aload_n 0, 1) := by decide +kernel
theorem dL_umbrellaByStars_3 : decode cL_umbrellaByStars 3 = .ok (.iload_n 1, 1) := by decide +kernel
theorem dL_umbrellaByStars_4 : decode cL_umbrellaByStars 4 = .ok (.invokevirtual 123, 3) := by decide +kernel
theorem dL_umbrellaByStars_7 : decode cL_umbrellaByStars 7 = .ok (.i2l, 1) := by decide +kernel
theorem dL_umbrellaByStars_8 : decode cL_umbrellaByStars 8 = .ok (.lastore, 1) := by decide +kernel
theorem dL_umbrellaByStars_9 : decode cL_umbrellaByStars 9 = .ok (.goto 6, 3) := by decide +kernel
theorem dL_umbrellaByStars_12 : decode cL_umbrellaByStars 12 = .ok (.astore_n 3, 1) := by decide +kernel
theorem dL_umbrellaByStars_13 : decode cL_umbrellaByStars 13 = .ok (.iconst 1, 1) := by decide +kernel
theorem dL_umbrellaByStars_14 : decode cL_umbrellaByStars 14 = .ok (.ireturn, 1) := by decide +kernel
theorem dL_umbrellaByStars_15 : decode cL_umbrellaByStars 15 = .ok (.iconst 0, 1) := by decide +kernel
theorem dL_umbrellaByStars_16 : decode cL_umbrellaByStars 16 = .ok (.ireturn, 1) := by decide +kernel
theorem dL_meanSchoolReward_0 : decode cL_meanSchoolReward 0 = .ok (.aload_n 1, 1) := by decide +kernel
theorem dL_meanSchoolReward_1 : decode cL_meanSchoolReward 1 = .ok (.iconst 0, 1) := by decide +kernel
theorem dL_meanSchoolReward_2 : decode cL_meanSchoolReward 2 = .ok (.aload_n 0, 1) := by decide +kernel
theorem dL_meanSchoolReward_3 : decode cL_meanSchoolReward 3 = .ok (.invokevirtual 126, 3) := by decide +kernel
theorem dL_meanSchoolReward_6 : decode cL_meanSchoolReward 6 = .ok (.dastore, 1) := by decide +kernel
theorem dL_meanSchoolReward_7 : decode cL_meanSchoolReward 7 = .ok (.goto 6, 3) := by decide +kernel
theorem dL_meanSchoolReward_10 : decode cL_meanSchoolReward 10 = .ok (.astore_n 2, 1) := by decide +kernel
theorem dL_meanSchoolReward_11 : decode cL_meanSchoolReward 11 = .ok (.iconst 1, 1) := by decide +kernel
theorem dL_meanSchoolReward_12 : decode cL_meanSchoolReward 12 = .ok (.ireturn, 1) := by decide +kernel
theorem dL_meanSchoolReward_13 : decode cL_meanSchoolReward 13 = .ok (.iconst 0, 1) := by decide +kernel
theorem dL_meanSchoolReward_14 : decode cL_meanSchoolReward 14 = .ok (.ireturn, 1) := by decide +kernel
theorem dL_openShare_0 : decode cL_openShare 0 = .ok (.aload_n 1, 1) := by decide +kernel
theorem dL_openShare_1 : decode cL_openShare 1 = .ok (.iconst 0, 1) := by decide +kernel
theorem dL_openShare_2 : decode cL_openShare 2 = .ok (.aload_n 0, 1) := by decide +kernel
theorem dL_openShare_3 : decode cL_openShare 3 = .ok (.invokevirtual 132, 3) := by decide +kernel
theorem dL_openShare_6 : decode cL_openShare 6 = .ok (.f2d, 1) := by decide +kernel
theorem dL_openShare_7 : decode cL_openShare 7 = .ok (.dastore, 1) := by decide +kernel
theorem dL_openShare_8 : decode cL_openShare 8 = .ok (.goto 6, 3) := by decide +kernel
theorem dL_openShare_11 : decode cL_openShare 11 = .ok (.astore_n 2, 1) := by decide +kernel
theorem dL_openShare_12 : decode cL_openShare 12 = .ok (.iconst 1, 1) := by decide +kernel
theorem dL_openShare_13 : decode cL_openShare 13 = .ok (.ireturn, 1) := by decide +kernel
theorem dL_openShare_14 : decode cL_openShare 14 = .ok (.iconst 0, 1) := by decide +kernel
theorem dL_openShare_15 : decode cL_openShare 15 = .ok (.ireturn, 1) := by decide +kernel
theorem dL_renderHabits_0 : decode cL_renderHabits 0 = .ok (.aload_n 2, 1) := by decide +kernel
theorem dL_renderHabits_1 : decode cL_renderHabits 1 = .ok (.iconst 0, 1) := by decide +kernel
theorem dL_renderHabits_2 : decode cL_renderHabits 2 = .ok (.aload_n 0, 1) := by decide +kernel
theorem dL_renderHabits_3 : decode cL_renderHabits 3 = .ok (.iload_n 1, 1) := by decide +kernel
theorem dL_renderHabits_4 : decode cL_renderHabits 4 = .ok (.invokevirtual 136, 3) := by decide +kernel
theorem dL_renderHabits_7 : decode cL_renderHabits 7 = .ok (.i2l, 1) := by decide +kernel
theorem dL_renderHabits_8 : decode cL_renderHabits 8 = .ok (.lastore, 1) := by decide +kernel
theorem dL_renderHabits_9 : decode cL_renderHabits 9 = .ok (.goto 6, 3) := by decide +kernel
theorem dL_renderHabits_12 : decode cL_renderHabits 12 = .ok (.astore_n 3, 1) := by decide +kernel
theorem dL_renderHabits_13 : decode cL_renderHabits 13 = .ok (.iconst 1, 1) := by decide +kernel
theorem dL_renderHabits_14 : decode cL_renderHabits 14 = .ok (.ireturn, 1) := by decide +kernel
theorem dL_renderHabits_15 : decode cL_renderHabits 15 = .ok (.iconst 0, 1) := by decide +kernel
theorem dL_renderHabits_16 : decode cL_renderHabits 16 = .ok (.ireturn, 1) := by decide +kernel
theorem dL_renderUmbrella_0 : decode cL_renderUmbrella 0 = .ok (.aload_n 2, 1) := by decide +kernel
theorem dL_renderUmbrella_1 : decode cL_renderUmbrella 1 = .ok (.iconst 0, 1) := by decide +kernel
theorem dL_renderUmbrella_2 : decode cL_renderUmbrella 2 = .ok (.aload_n 0, 1) := by decide +kernel
theorem dL_renderUmbrella_3 : decode cL_renderUmbrella 3 = .ok (.iload_n 1, 1) := by decide +kernel
theorem dL_renderUmbrella_4 : decode cL_renderUmbrella 4 = .ok (.invokevirtual 139, 3) := by decide +kernel
theorem dL_renderUmbrella_7 : decode cL_renderUmbrella 7 = .ok (.i2l, 1) := by decide +kernel
theorem dL_renderUmbrella_8 : decode cL_renderUmbrella 8 = .ok (.lastore, 1) := by decide +kernel
theorem dL_renderUmbrella_9 : decode cL_renderUmbrella 9 = .ok (.goto 6, 3) := by decide +kernel
theorem dL_renderUmbrella_12 : decode cL_renderUmbrella 12 = .ok (.astore_n 3, 1) := by decide +kernel
theorem dL_renderUmbrella_13 : decode cL_renderUmbrella 13 = .ok (.iconst 1, 1) := by decide +kernel
theorem dL_renderUmbrella_14 : decode cL_renderUmbrella 14 = .ok (.ireturn, 1) := by decide +kernel
theorem dL_renderUmbrella_15 : decode cL_renderUmbrella 15 = .ok (.iconst 0, 1) := by decide +kernel
theorem dL_renderUmbrella_16 : decode cL_renderUmbrella 16 = .ok (.ireturn, 1) := by decide +kernel
theorem dL_outputAt_0 : decode cL_outputAt 0 = .ok (.aload_n 2, 1) := by decide +kernel
theorem dL_outputAt_1 : decode cL_outputAt 1 = .ok (.iconst 0, 1) := by decide +kernel
theorem dL_outputAt_2 : decode cL_outputAt 2 = .ok (.aload_n 0, 1) := by decide +kernel
theorem dL_outputAt_3 : decode cL_outputAt 3 = .ok (.iload_n 1, 1) := by decide +kernel
theorem dL_outputAt_4 : decode cL_outputAt 4 = .ok (.invokevirtual 142, 3) := by decide +kernel
theorem dL_outputAt_7 : decode cL_outputAt 7 = .ok (.i2l, 1) := by decide +kernel
theorem dL_outputAt_8 : decode cL_outputAt 8 = .ok (.lastore, 1) := by decide +kernel
theorem dL_outputAt_9 : decode cL_outputAt 9 = .ok (.goto 6, 3) := by decide +kernel
theorem dL_outputAt_12 : decode cL_outputAt 12 = .ok (.astore_n 3, 1) := by decide +kernel
theorem dL_outputAt_13 : decode cL_outputAt 13 = .ok (.iconst 1, 1) := by decide +kernel
theorem dL_outputAt_14 : decode cL_outputAt 14 = .ok (.ireturn, 1) := by decide +kernel
theorem dL_outputAt_15 : decode cL_outputAt 15 = .ok (.iconst 0, 1) := by decide +kernel
theorem dL_outputAt_16 : decode cL_outputAt 16 = .ok (.ireturn, 1) := by decide +kernel
theorem dL_type_0 : decode cL_type 0 = .ok (.aload_n 2, 1) := by decide +kernel
theorem dL_type_1 : decode cL_type 1 = .ok (.iconst 0, 1) := by decide +kernel
theorem dL_type_2 : decode cL_type 2 = .ok (.aload_n 0, 1) := by decide +kernel
theorem dL_type_3 : decode cL_type 3 = .ok (.iload_n 1, 1) := by decide +kernel
theorem dL_type_4 : decode cL_type 4 = .ok (.invokevirtual 146, 3) := by decide +kernel
theorem dL_type_7 : decode cL_type 7 = .ok (.i2l, 1) := by decide +kernel
theorem dL_type_8 : decode cL_type 8 = .ok (.lastore, 1) := by decide +kernel
theorem dL_type_9 : decode cL_type 9 = .ok (.goto 9, 3) := by decide +kernel
theorem dL_type_12 : decode cL_type 12 = .ok (.astore_n 3, 1) := by decide +kernel
theorem dL_type_13 : decode cL_type 13 = .ok (.iconst 1, 1) := by decide +kernel
theorem dL_type_14 : decode cL_type 14 = .ok (.ireturn, 1) := by decide +kernel
theorem dL_type_15 : decode cL_type 15 = .ok (.astore_n 3, 1) := by decide +kernel
theorem dL_type_16 : decode cL_type 16 = .ok (.iconst 2, 1) := by decide +kernel
theorem dL_type_17 : decode cL_type 17 = .ok (.ireturn, 1) := by decide +kernel
theorem dL_type_18 : decode cL_type 18 = .ok (.iconst 0, 1) := by decide +kernel
theorem dL_type_19 : decode cL_type 19 = .ok (.ireturn, 1) := by decide +kernel
theorem dL_runScript_0 : decode cL_runScript 0 = .ok (.aload_n 1, 1) := by decide +kernel
theorem dL_runScript_1 : decode cL_runScript 1 = .ok (.iconst 0, 1) := by decide +kernel
theorem dL_runScript_2 : decode cL_runScript 2 = .ok (.aload_n 0, 1) := by decide +kernel
theorem dL_runScript_3 : decode cL_runScript 3 = .ok (.invokevirtual 150, 3) := by decide +kernel
theorem dL_runScript_6 : decode cL_runScript 6 = .ok (.i2l, 1) := by decide +kernel
theorem dL_runScript_7 : decode cL_runScript 7 = .ok (.lastore, 1) := by decide +kernel
theorem dL_runScript_8 : decode cL_runScript 8 = .ok (.goto 9, 3) := by decide +kernel
theorem dL_runScript_11 : decode cL_runScript 11 = .ok (.astore_n 2, 1) := by decide +kernel
theorem dL_runScript_12 : decode cL_runScript 12 = .ok (.iconst 1, 1) := by decide +kernel
theorem dL_runScript_13 : decode cL_runScript 13 = .ok (.ireturn, 1) := by decide +kernel
theorem dL_runScript_14 : decode cL_runScript 14 = .ok (.astore_n 2, 1) := by decide +kernel
theorem dL_runScript_15 : decode cL_runScript 15 = .ok (.iconst 2, 1) := by decide +kernel
theorem dL_runScript_16 : decode cL_runScript 16 = .ok (.ireturn, 1) := by decide +kernel
theorem dL_runScript_17 : decode cL_runScript 17 = .ok (.iconst 0, 1) := by decide +kernel
theorem dL_runScript_18 : decode cL_runScript 18 = .ok (.ireturn, 1) := by decide +kernel
theorem dL_errorPosition_0 : decode cL_errorPosition 0 = .ok (.aload_n 1, 1) := by decide +kernel
theorem dL_errorPosition_1 : decode cL_errorPosition 1 = .ok (.iconst 0, 1) := by decide +kernel
theorem dL_errorPosition_2 : decode cL_errorPosition 2 = .ok (.aload_n 0, 1) := by decide +kernel
theorem dL_errorPosition_3 : decode cL_errorPosition 3 = .ok (.invokevirtual 153, 3) := by decide +kernel
theorem dL_errorPosition_6 : decode cL_errorPosition 6 = .ok (.i2l, 1) := by decide +kernel
theorem dL_errorPosition_7 : decode cL_errorPosition 7 = .ok (.lastore, 1) := by decide +kernel
theorem dL_errorPosition_8 : decode cL_errorPosition 8 = .ok (.goto 6, 3) := by decide +kernel
theorem dL_errorPosition_11 : decode cL_errorPosition 11 = .ok (.astore_n 2, 1) := by decide +kernel
theorem dL_errorPosition_12 : decode cL_errorPosition 12 = .ok (.iconst 1, 1) := by decide +kernel
theorem dL_errorPosition_13 : decode cL_errorPosition 13 = .ok (.ireturn, 1) := by decide +kernel
theorem dL_errorPosition_14 : decode cL_errorPosition 14 = .ok (.iconst 0, 1) := by decide +kernel
theorem dL_errorPosition_15 : decode cL_errorPosition 15 = .ok (.ireturn, 1) := by decide +kernel
theorem dL_failedCommand_0 : decode cL_failedCommand 0 = .ok (.aload_n 1, 1) := by decide +kernel
theorem dL_failedCommand_1 : decode cL_failedCommand 1 = .ok (.iconst 0, 1) := by decide +kernel
theorem dL_failedCommand_2 : decode cL_failedCommand 2 = .ok (.aload_n 0, 1) := by decide +kernel
theorem dL_failedCommand_3 : decode cL_failedCommand 3 = .ok (.invokevirtual 156, 3) := by decide +kernel
theorem dL_failedCommand_6 : decode cL_failedCommand 6 = .ok (.i2l, 1) := by decide +kernel
theorem dL_failedCommand_7 : decode cL_failedCommand 7 = .ok (.lastore, 1) := by decide +kernel
theorem dL_failedCommand_8 : decode cL_failedCommand 8 = .ok (.goto 6, 3) := by decide +kernel
theorem dL_failedCommand_11 : decode cL_failedCommand 11 = .ok (.astore_n 2, 1) := by decide +kernel
theorem dL_failedCommand_12 : decode cL_failedCommand 12 = .ok (.iconst 1, 1) := by decide +kernel
theorem dL_failedCommand_13 : decode cL_failedCommand 13 = .ok (.ireturn, 1) := by decide +kernel
theorem dL_failedCommand_14 : decode cL_failedCommand 14 = .ok (.iconst 0, 1) := by decide +kernel
theorem dL_failedCommand_15 : decode cL_failedCommand 15 = .ok (.ireturn, 1) := by decide +kernel
theorem dL_undo_0 : decode cL_undo 0 = .ok (.aload_n 1, 1) := by decide +kernel
theorem dL_undo_1 : decode cL_undo 1 = .ok (.iconst 0, 1) := by decide +kernel
theorem dL_undo_2 : decode cL_undo 2 = .ok (.aload_n 0, 1) := by decide +kernel
theorem dL_undo_3 : decode cL_undo 3 = .ok (.invokevirtual 159, 3) := by decide +kernel
theorem dL_undo_6 : decode cL_undo 6 = .ok (.i2l, 1) := by decide +kernel
theorem dL_undo_7 : decode cL_undo 7 = .ok (.lastore, 1) := by decide +kernel
theorem dL_undo_8 : decode cL_undo 8 = .ok (.goto 6, 3) := by decide +kernel
theorem dL_undo_11 : decode cL_undo 11 = .ok (.astore_n 2, 1) := by decide +kernel
theorem dL_undo_12 : decode cL_undo 12 = .ok (.iconst 1, 1) := by decide +kernel
theorem dL_undo_13 : decode cL_undo 13 = .ok (.ireturn, 1) := by decide +kernel
theorem dL_undo_14 : decode cL_undo 14 = .ok (.iconst 0, 1) := by decide +kernel
theorem dL_undo_15 : decode cL_undo 15 = .ok (.ireturn, 1) := by decide +kernel
theorem dL_restore_0 : decode cL_restore 0 = .ok (.aload_n 1, 1) := by decide +kernel
theorem dL_restore_1 : decode cL_restore 1 = .ok (.iconst 0, 1) := by decide +kernel
theorem dL_restore_2 : decode cL_restore 2 = .ok (.aload_n 0, 1) := by decide +kernel
theorem dL_restore_3 : decode cL_restore 3 = .ok (.invokevirtual 162, 3) := by decide +kernel
theorem dL_restore_6 : decode cL_restore 6 = .ok (.i2l, 1) := by decide +kernel
theorem dL_restore_7 : decode cL_restore 7 = .ok (.lastore, 1) := by decide +kernel
theorem dL_restore_8 : decode cL_restore 8 = .ok (.goto 6, 3) := by decide +kernel
theorem dL_restore_11 : decode cL_restore 11 = .ok (.astore_n 2, 1) := by decide +kernel
theorem dL_restore_12 : decode cL_restore 12 = .ok (.iconst 1, 1) := by decide +kernel
theorem dL_restore_13 : decode cL_restore 13 = .ok (.ireturn, 1) := by decide +kernel
theorem dL_restore_14 : decode cL_restore 14 = .ok (.iconst 0, 1) := by decide +kernel
theorem dL_restore_15 : decode cL_restore 15 = .ok (.ireturn, 1) := by decide +kernel
