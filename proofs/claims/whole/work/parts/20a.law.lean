/-! the law: words, decode rows, rows (laid by wip/whole/mklaw.py) -/
theorem gdb_hl (x : UInt64) : gdb (gdh x) (gdl x) = x := by
  unfold gdb gdh gdl
  apply UInt64.toNat_inj.mp
  show ((x >>> 32).toUInt32.toUInt64 <<< 32 ||| x.toUInt32.toUInt64).toNat = x.toNat
  rw [UInt64.toNat_or, UInt64.toNat_shiftLeft, UInt32.toNat_toUInt64, UInt32.toNat_toUInt64, UInt64.toNat_toUInt32, UInt64.toNat_toUInt32, UInt64.toNat_shiftRight]
  have hx := x.toNat_lt
  rw [show (32 : UInt64).toNat % 64 = 32 from rfl, Nat.shiftRight_eq_div_pow]
  have e1 : x.toNat / 2 ^ 32 % 2 ^ 32 = x.toNat / 2 ^ 32 := Nat.mod_eq_of_lt (by omega)
  rw [e1, Nat.mod_eq_of_lt (by rw [Nat.shiftLeft_eq]; omega), ← Nat.shiftLeft_add_eq_or_of_lt (Nat.mod_lt _ (by decide)), Nat.shiftLeft_eq]
  omega
def gsd (S : gS) (a : Nat) (x : UInt64) : gS := srow S a (upd (upd (gr S a) 0 (gdh x)) 1 (gdl x))
def ggd (S : gS) (a : Nat) : UInt64 := gdb (gr S a 0) (gr S a 1)
section LR
variable {K : gKx} {PX : va_W} {G : gG} {pc a : Nat} {lv : List (Option Value)} {st : List Value} {S : gS} {T : gT} {c0 s0 d : Nat} {own : String} {cc : ByteArray}
theorem x_lconst {n : Fin 2} {v : Int64} (g : Gd K own cc d) (hdg : decode cc pc = .ok (.lconst n, 1)) (hv : Int64.ofNat (n : Nat) = v) (k : Xj K PX G (pc + 1) lv (.long v :: st) S T c0 s0) : Xj K PX G pc lv st S T c0 s0 := fun H locs cells slots ls Z h => lv_lconst g.1.1 g.1.2.1 hdg hv (k H locs cells slots ls Z h)
theorem x_lcmp {x y : Int64} (g : Gd K own cc d) (hdg : decode cc pc = .ok (.lcmp, 1)) (k : Xj K PX G (pc + 1) lv (.int (lg_cmp x y) :: st) S T c0 s0) : Xj K PX G pc lv (.long y :: .long x :: st) S T c0 s0 := fun H locs cells slots ls Z h => W.lcmp g.1.1 g.1.2.1 hdg (k H locs cells slots ls Z h)
theorem x_dcmp {x y : UInt64} {op : CmpOp} (g : Gd K own cc d) (hdg : decode cc pc = .ok (.dcmp op, 1)) (k : Xj K PX G (pc + 1) lv (.int (Op.cmpValue (FP.dcmp x y) op) :: st) S T c0 s0) : Xj K PX G pc lv (.double y :: .double x :: st) S T c0 s0 := fun H locs cells slots ls Z h => lv_dcmp g.1.1 g.1.2.1 hdg (k H locs cells slots ls Z h)
theorem x_fcmp {x y : UInt32} {op : CmpOp} (g : Gd K own cc d) (hdg : decode cc pc = .ok (.fcmp op, 1)) (k : Xj K PX G (pc + 1) lv (.int (Op.cmpValue (FP.fcmp x y) op) :: st) S T c0 s0) : Xj K PX G pc lv (.float y :: .float x :: st) S T c0 s0 := fun H locs cells slots ls Z h => lv_fcmp g.1.1 g.1.2.1 hdg (k H locs cells slots ls Z h)
theorem x_lald {i : Int32} (g : Gd K own cc d) (hdg : decode cc pc = .ok (.laload, 1)) (ha : gis G 10 a) (hin : vp_in i (gn G a)) (kk : Xj K PX G (pc + 1) lv (.long (gr S a i.toNatClampNeg).toInt64 :: st) S T c0 s0) : Xj K PX G pc lv (.int i :: .ref a :: st) S T c0 s0 := by
  intro H locs cells slots ls Z h
  obtain ⟨q0, hq⟩ := gFind (cy := ky K) (PX := PX ++ Z) (S := S) ha.1
  rw [gce_l ha.2] at hq
  exact va_lald (D := kD K) g.1.1 g.1.2.1 g.2.1.1 h.2.1 q0 5 hq rfl hin hdg (kk H locs cells slots ls Z h)
theorem x_dald (g : Gd K own cc d) (hdg : decode cc pc = .ok (.daload, 1)) (ha : gis G 11 a) (hin : vp_in (0 : Int32) (gn G a)) (kk : Xj K PX G (pc + 1) lv (.double (ggd S a) :: st) S T c0 s0) : Xj K PX G pc lv (.int 0 :: .ref a :: st) S T c0 s0 := by
  intro H locs cells slots ls Z h
  obtain ⟨q0, hq⟩ := gFind (cy := ky K) (PX := PX ++ Z) (S := S) ha.1
  rw [gce_d ha.2] at hq
  exact va_dald (D := kD K) (i := 0) g.1.1 g.1.2.1 g.2.1.1 h.2.1 q0 6 hq rfl hin hdg (kk H locs cells slots ls Z h)
theorem x_last {i v : Int32} (g : Gd K own cc d) (hdg : decode cc pc = .ok (.lastore, 1)) (ha : gis G 10 a) (hin : vp_in i (gn G a)) (kk : Xj K PX G (pc + 1) lv st (sr S a i.toNatClampNeg v) T c0 s0) : Xj K PX G pc lv (.long v.toInt64 :: .int i :: .ref a :: st) S T c0 s0 := by
  intro H locs cells slots ls Z h
  obtain ⟨q0, hq⟩ := gFind (cy := ky K) (PX := PX ++ Z) (S := S) ha.1
  have hq2 := hq
  rw [gce_l ha.2] at hq
  refine va_last (D := kD K) g.1.1 g.1.2.1 g.2.1.1 h.2.1 h.2.2.1 h.2.2.2.1 q0 5 hq rfl hin hdg (fun H1 locs1 hP hD hS => ?_)
  have e : ((PX ++ Z) ++ gw (ky K) G S).set q0 (a, .inl ((ky K).1 5, gn G a, .inr (.inl (vp_updL (fun i => (gr S a i).toInt64) i.toNatClampNeg v.toInt64)))) = (PX ++ Z) ++ gw (ky K) G (srow S a (upd (gr S a) i.toNatClampNeg v)) := gPut h.2.2.1 ha.1 hq2 (gup_row (cy := ky K) (G := G) (S := S) (upd (gr S a) i.toNatClampNeg v) _ (by
    rw [gce_l ha.2, gr_row]
    congr 5
    funext j
    unfold vp_updL upd
    split <;> rfl))
  rw [e, ← sr_srow] at hP hD
  exact kk H1 locs1 cells slots ls Z ⟨h.1, hP, hD, hS, h.2.2.2.2⟩
theorem x_dast {x : UInt64} (g : Gd K own cc d) (hdg : decode cc pc = .ok (.dastore, 1)) (ha : gis G 11 a) (hin : vp_in (0 : Int32) (gn G a)) (kk : Xj K PX G (pc + 1) lv st (gsd S a x) T c0 s0) : Xj K PX G pc lv (.double x :: .int 0 :: .ref a :: st) S T c0 s0 := by
  intro H locs cells slots ls Z h
  obtain ⟨q0, hq⟩ := gFind (cy := ky K) (PX := PX ++ Z) (S := S) ha.1
  have hq2 := hq
  rw [gce_d ha.2] at hq
  refine va_dast (D := kD K) (i := 0) g.1.1 g.1.2.1 g.2.1.1 h.2.1 h.2.2.1 h.2.2.2.1 q0 6 hq rfl hin hdg (fun H1 locs1 hP hD hS => ?_)
  have e : ((PX ++ Z) ++ gw (ky K) G S).set q0 (a, .inl ((ky K).1 6, gn G a, .inr (.inr (.inr (.inl (vf_upd (fun i => gdb (gr S a (2 * i)) (gr S a (2 * i + 1))) (0 : Int32).toNatClampNeg x)))))) = (PX ++ Z) ++ gw (ky K) G (gsd S a x) := gPut h.2.2.1 ha.1 hq2 (gup_row (cy := ky K) (G := G) (S := S) (upd (upd (gr S a) 0 (gdh x)) 1 (gdl x)) _ (by
    rw [gce_d ha.2, gr_row, sb_cl0]
    congr 7
    funext j
    unfold vf_upd upd
    by_cases hj : j = 0
    · subst hj
      rw [if_pos rfl, if_neg (by omega), if_pos (by omega), if_pos (by omega)]
      exact (gdb_hl x).symm
    · rw [if_neg hj, if_neg (by omega), if_neg (by omega), if_neg (by omega), if_neg (by omega)]))
  rw [e] at hP hD
  exact kk H1 locs1 cells slots ls Z ⟨h.1, hP, hD, hS, h.2.2.2.2⟩
end LR
-- contracts of methods with a table of handlers
def gCaH (y : MethodName) (bytes : ByteArray) (maxL : Nat) (ret : Option FieldType) (hh : List (Nat × Nat × Nat × Nat)) (n : Nat) : Prop := Cond.codeWith y bytes maxL ret hh ∈ lw_tbl ∧ Cond.initialized y.cls ∈ lw_tbl ∧ (y.cls ≠ "java/lang/invoke/MethodHandle" ∧ y.cls ≠ "java/lang/invoke/VarHandle" ∧ (parseMethodDescriptor y.desc).map (fun d => d.parameters.length) = some n) ∧ maxL ≤ 40
theorem gGoodH {y : MethodName} {bytes : ByteArray} {maxL : Nat} {ret : Option FieldType} {hh : List (Nat × Nat × Nat × Nat)} (h : Cond.codeWith y bytes maxL ret hh ∈ lw_tbl) : GoodIn gTb (Cond.codeWith y bytes maxL ret hh :: gTb) := by
  intro w hw
  have h1 : w ∈ gTb := by
    rcases List.mem_cons.mp hw with e | e
    · subst e
      exact List.mem_filter.mpr ⟨h, rfl⟩
    · exact e
  exact ⟨h1, good_of_word (List.mem_filter.mp h1).2⟩
theorem Ct.ofH {ad : Nat → Nat} {y : MethodName} {cc : ByteArray} {nL d mc ms : Nat} {ret : Option FieldType} {hh : List (Nat × Nat × Nat × Nat)} {As : List Value} {G G' : gG} {S S' : gS} {T T' : gT} {v : Option Value} (hy : plainName y.cls = true) (hlen : As.length ≤ nL) (hcat : As.all (fun v => v.category == 1) = true) (hhw : Cond.codeWith y cc nL ret hh ∈ lw_tbl)
    (body : ∀ K : gKx, Gd K y.cls cc d → gEnd K ret v G' S' T' → (ky K).2 = ad ∧ kN K = nL ∧ (kc K).exceptionTable.toList = tableOf hh → Xj K [] G 0 (As.map some ++ List.replicate (nL - As.length) none) [] S T mc ms) : Ct ad y (Cond.codeWith y cc nL ret hh :: gTb) d mc ms As G S T v G' S' T' := by
  have hcat : ∀ v ∈ As, v.category = 1 := fun v hv => by simpa using List.all_eq_true.mp hcat v hv
  intro l D c1 Z sz hl hZ
  refine va_MetW (cc := cc) (maxL := nL) (ret := ret) (hh := hh) hy rfl ?_
  intro p e s m args below meth c s₁ B hml hv
  obtain ⟨rfl, hsz, hP, hD0, hF, hH⟩ := hv
  have hts := atoms_spec (ws := Cond.codeWith y cc nL ret hh :: gTb) B.pre
  have hgt : ∀ w ∈ gTb, w.before As.toArray s = true := fun w hw => hts w (List.mem_cons_of_mem _ hw)
  have htb := vx_table (x := y) B (hts _ List.mem_cons_self)
  subst hsz
  have hD := hD0.self (sz := s.heap.size)
  have hX := body (((p, l, e, grm d mc ms), (s, m, As.toArray, below), (meth, c), (D, (c1, ad)), va_A (Z ++ gw (c1, ad) G S) s.heap.size, MQ below (gQ v (gPost (c1, ad) D G' S' T' (va_A (Z ++ gw (c1, ad) G S) s.heap.size)) (va_A (Z ++ gw (c1, ad) G S) s.heap.size)) As.toArray s mc ms (va_A (Z ++ gw (c1, ad) G S) s.heap.size), nL, mc, ms) : gKx)
    ⟨⟨B.exec, B.bytes, hml, findClass_of_methodNamed B.named, hgt⟩, hF, hH, hl, fun q h => Or.inr h, B.notSynchronized, rfl⟩ ⟨B.returns, rfl⟩ ⟨rfl, rfl, htb⟩
  have hh' : va_D (va_A (Z ++ gw (c1, ad) G S) s.heap.size) (([] ++ Z) ++ gw (c1, ad) G S) := hD
  rw [lg_entry_eq]
  exact hX s.heap [] 0 0 _ Z ⟨hZ, hP, hh', va_S.rf, gl_entry hlen (by rw [lg_len As hcat]; exact hlen) hcat, by simp, by simp⟩
theorem x_cSW {K : gKx} {PX : va_W} {G : gG} {pc idx n : Nat} {lv : List (Option Value)} {st rest As : List Value} {S S' : gS} {T T' : gT} {c0 s0 : Nat} {own : String} {cc : ByteArray} {d d' mc ms maxL : Nat} {ret : Option FieldType} {hh : List (Nat × Nat × Nat × Nat)} {bytes : ByteArray} {y : MethodName} {v : Option Value} (st2 : List Value) (g : Gd K own cc d)
    (hC : Ct (ky K).2 y (Cond.codeWith y bytes maxL ret hh :: gTb) d' mc ms As G S T v G S' T') (hca : gCaH y bytes maxL ret hh n) (hstc : Cond.static y ∈ lw_tbl) (hlk : Cond.methodLink own idx y ∈ lw_tbl)
    (hd : d' + 1 ≤ d) (hc : mc ≤ c0) (hs : ms ≤ s0) (hn : As.length = n) (hst : st = As.reverse ++ rest) (hW : (rest.map fun v => v.category).sum ≤ 8) (hdg : decode cc pc = .ok (.invokestatic idx, 3)) (h2 : v.toList ++ rest = st2)
    (k : Xj K PX G (pc + 3) lv st2 S' T' (c0 - mc) (s0 - ms)) : Xj K PX G pc lv st S T c0 s0 := by
  refine x_run (a := As.toArray) g hc hs h2 (fun H locs cells slots ls Z hat hcap => ?_) k
  have hM := hC (kl K) (kD K) (ky K).1 Z H.size g.2.2.2.1 hat.1
  have hr := gRoom g hd hca.2.2.2 (mc := mc) (ms := ms)
  refine vx_runSW (hh := hh) (cc := cc) (nL := kN K) (Ts := gTb) (own := own) (n := n) g.1 hM ⟨⟨rfl, rfl, hr.1, hr.2, pay_in g.1.2.2.2.2 (gGoodH hca.1), List.mem_cons_self⟩, g.tb hca.1 rfl, g.tb hca.2.1 rfl, ⟨hca.2.2.1.1, hca.2.2.1.2.1⟩, ?_, g.tb hlk rfl, g.tb hstc rfl⟩
    ⟨gF_blind, fun U hU hW => ⟨rfl, gGive g hat U hU hW⟩⟩ rfl hn hat.2.2.2.2.1.1 hst (lv_room hW) hdg hcap
  intro sig h
  have h2 := hca.2.2.1.2.2
  rw [h] at h2
  exact (Option.some.inj h2).symm
-- a call whose throw is caught here
theorem x_catV {K : gKx} {G : gG} {pc b kd ci idx n : Nat} {lv : List (Option Value)} {st rest As : List Value} {S S' : gS} {T T' : gT} {c0 s0 : Nat} {own : String} {cc : ByteArray} {d d' maxL : Nat} {ret : Option FieldType} {bytes : ByteArray} {y : MethodName} {E : String} {fl : List (Nat ⊕ Nat)} {TC : u_T} {NC : Nat} {ty0 : Nat → FieldType} {hh : List (Nat × Nat × Nat × Nat)} (pre : List (Nat × Nat × Nat × Nat)) (x : Nat × Nat × Nat × Nat) (suf : List (Nat × Nat × Nat × Nat)) (g : Gd K own cc d)
    (hC : Cx (ky K).2 y (Cond.code y bytes maxL ret :: gTb) d' (.ref b :: As) G S T E S' T') (hca : gCa y bytes maxL ret n) (hin : Cond.instanceMethod y ∈ lw_tbl) (hse : Cond.selects y.cls y y ∈ lw_tbl) (hlk : Cond.methodLink own idx y ∈ lw_tbl)
    (cl : gCls kd ci fl y.cls TC NC ty0) (hb : gis G kd b) (hd : d' + 1 ≤ d) (hc : 1 ≤ c0) (hs : 6 ≤ s0) (hn : As.length = n) (hst : st = As.reverse ++ .ref b :: rest) (hW : (rest.map fun v => v.category).sum ≤ 8) (hdg : decode cc pc = .ok (.invokevirtual idx, 3))
    (ht : (kc K).exceptionTable.toList = tableOf hh) (hsp : hh = pre ++ x :: suf) (hpass : ∀ z ∈ pre, z.2.2.2 ≠ 0 ∧ ∃ nm : String, Cond.classLink own z.2.2.2 nm ∈ lw_tbl ∧ (E, nm) ∈ gNcs) (hcov : x.1 ≤ pc ∧ pc < x.2.1) (hx0 : x.2.2.2 ≠ 0) (hxl : Cond.classLink own x.2.2.2 E ∈ lw_tbl) (hxc : (E, E) ∈ gCast)
    (k : ∀ q : Nat, Xj K [] G x.2.2.1 lv [.ref q] S' T' (c0 - 1) (s0 - 6)) : Xj K [] G pc lv st S T c0 s0 := by
  intro H locs cells slots ls Z hat
  have hrm : kR K = grm d (kC K) (kS K) := g.2.2.2.2.2.2
  have hcap : cells + 1 ≤ (kR K).cells ∧ slots + 6 ≤ (kR K).slots := by
    have e1 : (kR K).cells = kC K := by rw [hrm]; rfl
    have e2 : (kR K).slots = kS K := by rw [hrm]; rfl
    rw [e1, e2]
    have := hat.2.2.2.2.2
    omega
  have hM := hC (kl K) (kD K) (ky K).1 Z H.size g.2.2.2.1 hat.1
  obtain ⟨q0, hq0⟩ := gFind (cy := ky K) (PX := [] ++ Z) (S := S) hb.1
  rw [gce_obj (by rw [hb.2]; exact cl.1)] at hq0
  have hrec := va_recv g.2.1.1 hat.2.1 cl.2.1 hq0
  have hr := vx_runV (p := kp K) (e := ke K) (R := kR K) (below := kb K) (meth := kM K) (locs := locs) (cells := cells) (slots := slots) (g := F0 (km K) pc ls st) (rest := rest) (cc := cc) (nL := kN K) (Ts := gTb) (own := own) (n := n) (C := y.cls) g.1 hM ⟨callB_of n g.1.2.2.2.2 (gGood hca.1) rfl rfl rfl (g.tb hca.2.1 rfl) (g.tb hlk rfl) hca.2.2.1 (gRoom g hd hca.2.2.2), g.tb hin rfl, g.tb hse rfl⟩
    ⟨gF_blind, hrec, fun U hU hW => ⟨rfl, gGive g hat U hU hW⟩⟩ rfl hn hat.2.2.2.2.1.1 hst (lv_room hW) hdg hcap
  unfold kW
  intro T0 hT X
  rcases hr T0 hT X with ⟨v', st₀, t, T1, L, h0, X', hL, e1, e2, hq, hst⟩ | ⟨q, st₀, t, T1, L, E', ce, h0, X', hL, e1, e2, ⟨hE, hB, hF⟩, hce, hcv, hcl, hst⟩
  · exact absurd hq (fun z => z)
  · subst hE
    obtain ⟨Z', hat'⟩ := gTake (mc := 1) (ms := 6) g hat hc hs h0 hL e1 hB hF
    have hcat := vx_catch (p := kp K) (l := kl K) (e := ke K) (R := kR K) (s := ks K) (m := km K) (args := ka K) (below := kb K) (meth := kM K) (c := kc K) (H := T1.heap) (locs := locs ++ L) (cells := cells + 1) (slots := slots + 6) (Q := kQ K) (ls := ls) (rest := rest) (pc := pc) (own := own) (name := E') (E := E') (ce := ce) (q := q) g.1.2.2.2.1 (tableOf pre) ⟨x.1, x.2.1, x.2.2.1, x.2.2.2⟩ (tableOf suf) (by rw [ht, hsp]; simp [tableOf])
      (fun z hz => by
        obtain ⟨w, hw, rfl⟩ := List.mem_map.mp hz
        obtain ⟨w1, nm, w2, w3⟩ := hpass w hw
        exact Or.inr ⟨w1, nm, g.tb w2 rfl, g.2.1.2.2.2.2.2.2.2 _ w3⟩)
      (by simp [covers, hcov.1, hcov.2]) hx0 (g.tb hxl rfl) (va_Nw.use rfl (g.2.1.2.2.2.1 _ hxc)) (by rw [e1]; exact hce) hcv hcl (k q T1.heap (locs ++ L) (cells + 1) (slots + 6) ls Z' hat')
    obtain ⟨t2, a1, b1⟩ := hcat T1 rfl X'
    exact ⟨t2, hst.trans a1, b1⟩

abbrev hh_L_addUmbrella : List (Nat × Nat × Nat × Nat) := [((0 : Nat), (9 : Nat), (12 : Nat), (13 : Nat)), ((0 : Nat), (9 : Nat), (15 : Nat), (15 : Nat))]
theorem ca_L_addUmbrella : gCaH yL_addUmbrella cL_addUmbrella 4 (some .int) hh_L_addUmbrella 3 := ⟨w_tb 351 (by decide +kernel), w_tb 0 (by decide +kernel), (by decide +kernel), by decide⟩
theorem st_L_addUmbrella : Cond.static yL_addUmbrella ∈ lw_tbl := w_tb 350 (by decide +kernel)
abbrev hh_L_endTerm : List (Nat × Nat × Nat × Nat) := [((0 : Nat), (8 : Nat), (11 : Nat), (15 : Nat))]
theorem ca_L_endTerm : gCaH yL_endTerm cL_endTerm 3 (some .int) hh_L_endTerm 2 := ⟨w_tb 617 (by decide +kernel), w_tb 0 (by decide +kernel), (by decide +kernel), by decide⟩
theorem st_L_endTerm : Cond.static yL_endTerm ∈ lw_tbl := w_tb 616 (by decide +kernel)
abbrev hh_L_errorPosition : List (Nat × Nat × Nat × Nat) := [((0 : Nat), (8 : Nat), (11 : Nat), (58 : Nat))]
theorem ca_L_errorPosition : gCaH yL_errorPosition cL_errorPosition 3 (some .int) hh_L_errorPosition 2 := ⟨w_tb 1305 (by decide +kernel), w_tb 0 (by decide +kernel), (by decide +kernel), by decide⟩
theorem st_L_errorPosition : Cond.static yL_errorPosition ∈ lw_tbl := w_tb 1304 (by decide +kernel)
abbrev hh_L_examine : List (Nat × Nat × Nat × Nat) := [((0 : Nat), (10 : Nat), (13 : Nat), (21 : Nat)), ((0 : Nat), (10 : Nat), (17 : Nat), (13 : Nat))]
theorem ca_L_examine : gCaH yL_examine cL_examine 5 (some .int) hh_L_examine 4 := ⟨w_tb 608 (by decide +kernel), w_tb 0 (by decide +kernel), (by decide +kernel), by decide⟩
theorem st_L_examine : Cond.static yL_examine ∈ lw_tbl := w_tb 607 (by decide +kernel)
abbrev hh_L_exploresNext : List (Nat × Nat × Nat × Nat) := [((0 : Nat), (16 : Nat), (19 : Nat), (21 : Nat))]
theorem ca_L_exploresNext : gCaH yL_exploresNext cL_exploresNext 4 (some .int) hh_L_exploresNext 3 := ⟨w_tb 729 (by decide +kernel), w_tb 0 (by decide +kernel), (by decide +kernel), by decide⟩
theorem st_L_exploresNext : Cond.static yL_exploresNext ∈ lw_tbl := w_tb 728 (by decide +kernel)
abbrev hh_L_failedCommand : List (Nat × Nat × Nat × Nat) := [((0 : Nat), (8 : Nat), (11 : Nat), (58 : Nat))]
theorem ca_L_failedCommand : gCaH yL_failedCommand cL_failedCommand 3 (some .int) hh_L_failedCommand 2 := ⟨w_tb 1313 (by decide +kernel), w_tb 0 (by decide +kernel), (by decide +kernel), by decide⟩
theorem st_L_failedCommand : Cond.static yL_failedCommand ∈ lw_tbl := w_tb 1312 (by decide +kernel)
abbrev hh_L_forgetRain : List (Nat × Nat × Nat × Nat) := [((0 : Nat), (10 : Nat), (13 : Nat), (21 : Nat)), ((0 : Nat), (10 : Nat), (17 : Nat), (13 : Nat))]
theorem ca_L_forgetRain : gCaH yL_forgetRain cL_forgetRain 5 (some .int) hh_L_forgetRain 4 := ⟨w_tb 599 (by decide +kernel), w_tb 0 (by decide +kernel), (by decide +kernel), by decide⟩
theorem st_L_forgetRain : Cond.static yL_forgetRain ∈ lw_tbl := w_tb 598 (by decide +kernel)
abbrev hh_L_hasExam : List (Nat × Nat × Nat × Nat) := [((0 : Nat), (17 : Nat), (20 : Nat), (21 : Nat)), ((0 : Nat), (17 : Nat), (24 : Nat), (13 : Nat))]
theorem ca_L_hasExam : gCaH yL_hasExam cL_hasExam 5 (some .int) hh_L_hasExam 4 := ⟨w_tb 823 (by decide +kernel), w_tb 0 (by decide +kernel), (by decide +kernel), by decide⟩
theorem st_L_hasExam : Cond.static yL_hasExam ∈ lw_tbl := w_tb 822 (by decide +kernel)
abbrev hh_L_isGraduate : List (Nat × Nat × Nat × Nat) := [((0 : Nat), (16 : Nat), (19 : Nat), (21 : Nat))]
theorem ca_L_isGraduate : gCaH yL_isGraduate cL_isGraduate 4 (some .int) hh_L_isGraduate 3 := ⟨w_tb 835 (by decide +kernel), w_tb 0 (by decide +kernel), (by decide +kernel), by decide⟩
theorem st_L_isGraduate : Cond.static yL_isGraduate ∈ lw_tbl := w_tb 834 (by decide +kernel)
abbrev hh_L_knownSituations : List (Nat × Nat × Nat × Nat) := [((0 : Nat), (9 : Nat), (12 : Nat), (21 : Nat))]
theorem ca_L_knownSituations : gCaH yL_knownSituations cL_knownSituations 4 (some .int) hh_L_knownSituations 3 := ⟨w_tb 778 (by decide +kernel), w_tb 0 (by decide +kernel), (by decide +kernel), by decide⟩
theorem st_L_knownSituations : Cond.static yL_knownSituations ∈ lw_tbl := w_tb 777 (by decide +kernel)
abbrev hh_L_meanReward : List (Nat × Nat × Nat × Nat) := [((0 : Nat), (13 : Nat), (16 : Nat), (21 : Nat)), ((0 : Nat), (13 : Nat), (20 : Nat), (13 : Nat)), ((0 : Nat), (13 : Nat), (24 : Nat), (58 : Nat))]
theorem ca_L_meanReward : gCaH yL_meanReward cL_meanReward 7 (some .int) hh_L_meanReward 6 := ⟨w_tb 763 (by decide +kernel), w_tb 0 (by decide +kernel), (by decide +kernel), by decide⟩
theorem st_L_meanReward : Cond.static yL_meanReward ∈ lw_tbl := w_tb 762 (by decide +kernel)
abbrev hh_L_meanSchoolReward : List (Nat × Nat × Nat × Nat) := [((0 : Nat), (7 : Nat), (10 : Nat), (130 : Nat))]
theorem ca_L_meanSchoolReward : gCaH yL_meanSchoolReward cL_meanSchoolReward 3 (some .int) hh_L_meanSchoolReward 2 := ⟨w_tb 882 (by decide +kernel), w_tb 0 (by decide +kernel), (by decide +kernel), by decide⟩
theorem st_L_meanSchoolReward : Cond.static yL_meanSchoolReward ∈ lw_tbl := w_tb 881 (by decide +kernel)
abbrev hh_L_memory : List (Nat × Nat × Nat × Nat) := [((0 : Nat), (9 : Nat), (12 : Nat), (21 : Nat))]
theorem ca_L_memory : gCaH yL_memory cL_memory 4 (some .int) hh_L_memory 3 := ⟨w_tb 626 (by decide +kernel), w_tb 0 (by decide +kernel), (by decide +kernel), by decide⟩
theorem st_L_memory : Cond.static yL_memory ∈ lw_tbl := w_tb 625 (by decide +kernel)
abbrev hh_L_openShare : List (Nat × Nat × Nat × Nat) := [((0 : Nat), (8 : Nat), (11 : Nat), (130 : Nat))]
theorem ca_L_openShare : gCaH yL_openShare cL_openShare 3 (some .int) hh_L_openShare 2 := ⟨w_tb 910 (by decide +kernel), w_tb 0 (by decide +kernel), (by decide +kernel), by decide⟩
theorem st_L_openShare : Cond.static yL_openShare ∈ lw_tbl := w_tb 909 (by decide +kernel)
abbrev hh_L_outputAt : List (Nat × Nat × Nat × Nat) := [((0 : Nat), (9 : Nat), (12 : Nat), (21 : Nat))]
theorem ca_L_outputAt : gCaH yL_outputAt cL_outputAt 4 (some .int) hh_L_outputAt 3 := ⟨w_tb 1208 (by decide +kernel), w_tb 0 (by decide +kernel), (by decide +kernel), by decide⟩
theorem st_L_outputAt : Cond.static yL_outputAt ∈ lw_tbl := w_tb 1207 (by decide +kernel)
abbrev hh_L_period : List (Nat × Nat × Nat × Nat) := [((0 : Nat), (9 : Nat), (12 : Nat), (21 : Nat))]
theorem ca_L_period : gCaH yL_period cL_period 4 (some .int) hh_L_period 3 := ⟨w_tb 633 (by decide +kernel), w_tb 0 (by decide +kernel), (by decide +kernel), by decide⟩
theorem st_L_period : Cond.static yL_period ∈ lw_tbl := w_tb 632 (by decide +kernel)
abbrev hh_L_rememberedTrials : List (Nat × Nat × Nat × Nat) := [((0 : Nat), (9 : Nat), (12 : Nat), (21 : Nat))]
theorem ca_L_rememberedTrials : gCaH yL_rememberedTrials cL_rememberedTrials 4 (some .int) hh_L_rememberedTrials 3 := ⟨w_tb 647 (by decide +kernel), w_tb 0 (by decide +kernel), (by decide +kernel), by decide⟩
theorem st_L_rememberedTrials : Cond.static yL_rememberedTrials ∈ lw_tbl := w_tb 646 (by decide +kernel)
abbrev hh_L_renderHabits : List (Nat × Nat × Nat × Nat) := [((0 : Nat), (9 : Nat), (12 : Nat), (21 : Nat))]
theorem ca_L_renderHabits : gCaH yL_renderHabits cL_renderHabits 4 (some .int) hh_L_renderHabits 3 := ⟨w_tb 917 (by decide +kernel), w_tb 0 (by decide +kernel), (by decide +kernel), by decide⟩
theorem st_L_renderHabits : Cond.static yL_renderHabits ∈ lw_tbl := w_tb 916 (by decide +kernel)
abbrev hh_L_renderUmbrella : List (Nat × Nat × Nat × Nat) := [((0 : Nat), (9 : Nat), (12 : Nat), (21 : Nat))]
theorem ca_L_renderUmbrella : gCaH yL_renderUmbrella cL_renderUmbrella 4 (some .int) hh_L_renderUmbrella 3 := ⟨w_tb 1200 (by decide +kernel), w_tb 0 (by decide +kernel), (by decide +kernel), by decide⟩
theorem st_L_renderUmbrella : Cond.static yL_renderUmbrella ∈ lw_tbl := w_tb 1199 (by decide +kernel)
abbrev hh_L_restore : List (Nat × Nat × Nat × Nat) := [((0 : Nat), (8 : Nat), (11 : Nat), (15 : Nat))]
theorem ca_L_restore : gCaH yL_restore cL_restore 3 (some .int) hh_L_restore 2 := ⟨w_tb 1329 (by decide +kernel), w_tb 0 (by decide +kernel), (by decide +kernel), by decide⟩
theorem st_L_restore : Cond.static yL_restore ∈ lw_tbl := w_tb 1328 (by decide +kernel)
abbrev hh_L_reward : List (Nat × Nat × Nat × Nat) := [((0 : Nat), (12 : Nat), (15 : Nat), (13 : Nat))]
theorem ca_L_reward : gCaH yL_reward cL_reward 6 (some .int) hh_L_reward 5 := ⟨w_tb 700 (by decide +kernel), w_tb 0 (by decide +kernel), (by decide +kernel), by decide⟩
theorem st_L_reward : Cond.static yL_reward ∈ lw_tbl := w_tb 699 (by decide +kernel)
abbrev hh_L_rewardSum : List (Nat × Nat × Nat × Nat) := [((0 : Nat), (14 : Nat), (17 : Nat), (21 : Nat)), ((0 : Nat), (14 : Nat), (21 : Nat), (13 : Nat))]
theorem ca_L_rewardSum : gCaH yL_rewardSum cL_rewardSum 7 (some .int) hh_L_rewardSum 6 := ⟨w_tb 748 (by decide +kernel), w_tb 0 (by decide +kernel), (by decide +kernel), by decide⟩
theorem st_L_rewardSum : Cond.static yL_rewardSum ∈ lw_tbl := w_tb 747 (by decide +kernel)
abbrev hh_L_rewardSumByTrials : List (Nat × Nat × Nat × Nat) := [((0 : Nat), (14 : Nat), (17 : Nat), (21 : Nat)), ((0 : Nat), (14 : Nat), (21 : Nat), (13 : Nat))]
theorem ca_L_rewardSumByTrials : gCaH yL_rewardSumByTrials cL_rewardSumByTrials 7 (some .int) hh_L_rewardSumByTrials 6 := ⟨w_tb 755 (by decide +kernel), w_tb 0 (by decide +kernel), (by decide +kernel), by decide⟩
theorem st_L_rewardSumByTrials : Cond.static yL_rewardSumByTrials ∈ lw_tbl := w_tb 754 (by decide +kernel)
abbrev hh_L_rightHabits : List (Nat × Nat × Nat × Nat) := [((0 : Nat), (9 : Nat), (12 : Nat), (21 : Nat))]
theorem ca_L_rightHabits : gCaH yL_rightHabits cL_rightHabits 4 (some .int) hh_L_rightHabits 3 := ⟨w_tb 770 (by decide +kernel), w_tb 0 (by decide +kernel), (by decide +kernel), by decide⟩
theorem st_L_rightHabits : Cond.static yL_rightHabits ∈ lw_tbl := w_tb 769 (by decide +kernel)
abbrev hh_L_runScript : List (Nat × Nat × Nat × Nat) := [((0 : Nat), (8 : Nat), (11 : Nat), (13 : Nat)), ((0 : Nat), (8 : Nat), (14 : Nat), (15 : Nat))]
theorem ca_L_runScript : gCaH yL_runScript cL_runScript 3 (some .int) hh_L_runScript 2 := ⟨w_tb 1235 (by decide +kernel), w_tb 0 (by decide +kernel), (by decide +kernel), by decide⟩
theorem st_L_runScript : Cond.static yL_runScript ∈ lw_tbl := w_tb 1234 (by decide +kernel)
abbrev hh_L_setGalePenalty : List (Nat × Nat × Nat × Nat) := [((0 : Nat), (9 : Nat), (12 : Nat), (13 : Nat))]
theorem ca_L_setGalePenalty : gCaH yL_setGalePenalty cL_setGalePenalty 4 (some .int) hh_L_setGalePenalty 3 := ⟨w_tb 590 (by decide +kernel), w_tb 0 (by decide +kernel), (by decide +kernel), by decide⟩
theorem st_L_setGalePenalty : Cond.static yL_setGalePenalty ∈ lw_tbl := w_tb 589 (by decide +kernel)
abbrev hh_L_setPeriod : List (Nat × Nat × Nat × Nat) := [((0 : Nat), (10 : Nat), (13 : Nat), (21 : Nat)), ((0 : Nat), (10 : Nat), (17 : Nat), (13 : Nat))]
theorem ca_L_setPeriod : gCaH yL_setPeriod cL_setPeriod 5 (some .int) hh_L_setPeriod 4 := ⟨w_tb 572 (by decide +kernel), w_tb 0 (by decide +kernel), (by decide +kernel), by decide⟩
theorem st_L_setPeriod : Cond.static yL_setPeriod ∈ lw_tbl := w_tb 571 (by decide +kernel)
abbrev hh_L_setWetPenalty : List (Nat × Nat × Nat × Nat) := [((0 : Nat), (9 : Nat), (12 : Nat), (13 : Nat))]
theorem ca_L_setWetPenalty : gCaH yL_setWetPenalty cL_setWetPenalty 4 (some .int) hh_L_setWetPenalty 3 := ⟨w_tb 581 (by decide +kernel), w_tb 0 (by decide +kernel), (by decide +kernel), by decide⟩
theorem st_L_setWetPenalty : Cond.static yL_setWetPenalty ∈ lw_tbl := w_tb 580 (by decide +kernel)
abbrev hh_L_shouldOpen : List (Nat × Nat × Nat × Nat) := [((0 : Nat), (17 : Nat), (20 : Nat), (13 : Nat))]
theorem ca_L_shouldOpen : gCaH yL_shouldOpen cL_shouldOpen 5 (some .int) hh_L_shouldOpen 4 := ⟨w_tb 712 (by decide +kernel), w_tb 0 (by decide +kernel), (by decide +kernel), by decide⟩
theorem st_L_shouldOpen : Cond.static yL_shouldOpen ∈ lw_tbl := w_tb 711 (by decide +kernel)
abbrev hh_L_situationRain : List (Nat × Nat × Nat × Nat) := [((0 : Nat), (10 : Nat), (13 : Nat), (21 : Nat)), ((0 : Nat), (10 : Nat), (17 : Nat), (58 : Nat))]
theorem ca_L_situationRain : gCaH yL_situationRain cL_situationRain 5 (some .int) hh_L_situationRain 4 := ⟨w_tb 793 (by decide +kernel), w_tb 0 (by decide +kernel), (by decide +kernel), by decide⟩
theorem st_L_situationRain : Cond.static yL_situationRain ∈ lw_tbl := w_tb 792 (by decide +kernel)
abbrev hh_L_situationWind : List (Nat × Nat × Nat × Nat) := [((0 : Nat), (10 : Nat), (13 : Nat), (21 : Nat)), ((0 : Nat), (10 : Nat), (17 : Nat), (58 : Nat))]
theorem ca_L_situationWind : gCaH yL_situationWind cL_situationWind 5 (some .int) hh_L_situationWind 4 := ⟨w_tb 813 (by decide +kernel), w_tb 0 (by decide +kernel), (by decide +kernel), by decide⟩
theorem st_L_situationWind : Cond.static yL_situationWind ∈ lw_tbl := w_tb 812 (by decide +kernel)
abbrev hh_L_stars : List (Nat × Nat × Nat × Nat) := [((0 : Nat), (9 : Nat), (12 : Nat), (21 : Nat))]
theorem ca_L_stars : gCaH yL_stars cL_stars 4 (some .int) hh_L_stars 3 := ⟨w_tb 856 (by decide +kernel), w_tb 0 (by decide +kernel), (by decide +kernel), by decide⟩
theorem st_L_stars : Cond.static yL_stars ∈ lw_tbl := w_tb 855 (by decide +kernel)
abbrev hh_L_termReward : List (Nat × Nat × Nat × Nat) := [((0 : Nat), (9 : Nat), (12 : Nat), (21 : Nat))]
theorem ca_L_termReward : gCaH yL_termReward cL_termReward 4 (some .int) hh_L_termReward 3 := ⟨w_tb 849 (by decide +kernel), w_tb 0 (by decide +kernel), (by decide +kernel), by decide⟩
theorem st_L_termReward : Cond.static yL_termReward ∈ lw_tbl := w_tb 848 (by decide +kernel)
abbrev hh_L_timesTried : List (Nat × Nat × Nat × Nat) := [((0 : Nat), (14 : Nat), (17 : Nat), (21 : Nat)), ((0 : Nat), (14 : Nat), (21 : Nat), (13 : Nat))]
theorem ca_L_timesTried : gCaH yL_timesTried cL_timesTried 7 (some .int) hh_L_timesTried 6 := ⟨w_tb 737 (by decide +kernel), w_tb 0 (by decide +kernel), (by decide +kernel), by decide⟩
theorem st_L_timesTried : Cond.static yL_timesTried ∈ lw_tbl := w_tb 736 (by decide +kernel)
abbrev hh_L_totalReward : List (Nat × Nat × Nat × Nat) := [((0 : Nat), (9 : Nat), (12 : Nat), (21 : Nat))]
theorem ca_L_totalReward : gCaH yL_totalReward cL_totalReward 4 (some .int) hh_L_totalReward 3 := ⟨w_tb 842 (by decide +kernel), w_tb 0 (by decide +kernel), (by decide +kernel), by decide⟩
theorem st_L_totalReward : Cond.static yL_totalReward ∈ lw_tbl := w_tb 841 (by decide +kernel)
abbrev hh_L_train : List (Nat × Nat × Nat × Nat) := [((0 : Nat), (14 : Nat), (17 : Nat), (21 : Nat)), ((0 : Nat), (14 : Nat), (21 : Nat), (13 : Nat))]
theorem ca_L_train : gCaH yL_train cL_train 7 (some .int) hh_L_train 6 := ⟨w_tb 542 (by decide +kernel), w_tb 0 (by decide +kernel), (by decide +kernel), by decide⟩
theorem st_L_train : Cond.static yL_train ∈ lw_tbl := w_tb 541 (by decide +kernel)
abbrev hh_L_trialOpened : List (Nat × Nat × Nat × Nat) := [((0 : Nat), (17 : Nat), (20 : Nat), (21 : Nat)), ((0 : Nat), (17 : Nat), (24 : Nat), (58 : Nat))]
theorem ca_L_trialOpened : gCaH yL_trialOpened cL_trialOpened 5 (some .int) hh_L_trialOpened 4 := ⟨w_tb 683 (by decide +kernel), w_tb 0 (by decide +kernel), (by decide +kernel), by decide⟩
theorem st_L_trialOpened : Cond.static yL_trialOpened ∈ lw_tbl := w_tb 682 (by decide +kernel)
abbrev hh_L_trialRain : List (Nat × Nat × Nat × Nat) := [((0 : Nat), (10 : Nat), (13 : Nat), (21 : Nat)), ((0 : Nat), (10 : Nat), (17 : Nat), (58 : Nat))]
theorem ca_L_trialRain : gCaH yL_trialRain cL_trialRain 5 (some .int) hh_L_trialRain 4 := ⟨w_tb 654 (by decide +kernel), w_tb 0 (by decide +kernel), (by decide +kernel), by decide⟩
theorem st_L_trialRain : Cond.static yL_trialRain ∈ lw_tbl := w_tb 653 (by decide +kernel)
abbrev hh_L_trialReward : List (Nat × Nat × Nat × Nat) := [((0 : Nat), (10 : Nat), (13 : Nat), (21 : Nat)), ((0 : Nat), (10 : Nat), (17 : Nat), (58 : Nat))]
theorem ca_L_trialReward : gCaH yL_trialReward cL_trialReward 5 (some .int) hh_L_trialReward 4 := ⟨w_tb 693 (by decide +kernel), w_tb 0 (by decide +kernel), (by decide +kernel), by decide⟩
theorem st_L_trialReward : Cond.static yL_trialReward ∈ lw_tbl := w_tb 692 (by decide +kernel)
abbrev hh_L_trials : List (Nat × Nat × Nat × Nat) := [((0 : Nat), (9 : Nat), (12 : Nat), (21 : Nat))]
theorem ca_L_trials : gCaH yL_trials cL_trials 4 (some .int) hh_L_trials 3 := ⟨w_tb 640 (by decide +kernel), w_tb 0 (by decide +kernel), (by decide +kernel), by decide⟩
theorem st_L_trials : Cond.static yL_trials ∈ lw_tbl := w_tb 639 (by decide +kernel)
abbrev hh_L_type : List (Nat × Nat × Nat × Nat) := [((0 : Nat), (9 : Nat), (12 : Nat), (13 : Nat)), ((0 : Nat), (9 : Nat), (15 : Nat), (15 : Nat))]
theorem ca_L_type : gCaH yL_type cL_type 4 (some .int) hh_L_type 3 := ⟨w_tb 1226 (by decide +kernel), w_tb 0 (by decide +kernel), (by decide +kernel), by decide⟩
theorem st_L_type : Cond.static yL_type ∈ lw_tbl := w_tb 1225 (by decide +kernel)
abbrev hh_L_umbrellaByStars : List (Nat × Nat × Nat × Nat) := [((0 : Nat), (9 : Nat), (12 : Nat), (58 : Nat))]
theorem ca_L_umbrellaByStars : gCaH yL_umbrellaByStars cL_umbrellaByStars 4 (some .int) hh_L_umbrellaByStars 3 := ⟨w_tb 863 (by decide +kernel), w_tb 0 (by decide +kernel), (by decide +kernel), by decide⟩
theorem st_L_umbrellaByStars : Cond.static yL_umbrellaByStars ∈ lw_tbl := w_tb 862 (by decide +kernel)
abbrev hh_L_undo : List (Nat × Nat × Nat × Nat) := [((0 : Nat), (8 : Nat), (11 : Nat), (15 : Nat))]
theorem ca_L_undo : gCaH yL_undo cL_undo 3 (some .int) hh_L_undo 2 := ⟨w_tb 1321 (by decide +kernel), w_tb 0 (by decide +kernel), (by decide +kernel), by decide⟩
theorem st_L_undo : Cond.static yL_undo ∈ lw_tbl := w_tb 1320 (by decide +kernel)
abbrev hh_L_wouldOpen : List (Nat × Nat × Nat × Nat) := [((0 : Nat), (19 : Nat), (22 : Nat), (21 : Nat)), ((0 : Nat), (19 : Nat), (26 : Nat), (13 : Nat))]
theorem ca_L_wouldOpen : gCaH yL_wouldOpen cL_wouldOpen 6 (some .int) hh_L_wouldOpen 5 := ⟨w_tb 720 (by decide +kernel), w_tb 0 (by decide +kernel), (by decide +kernel), by decide⟩
theorem st_L_wouldOpen : Cond.static yL_wouldOpen ∈ lw_tbl := w_tb 719 (by decide +kernel)
theorem cl_L_8 : Cond.classLink RL 8 "UmbrellaSchool" ∈ lw_tbl := w_tb 31 (by decide +kernel)
theorem cl_L_13 : Cond.classLink RL 13 "java/lang/IllegalArgumentException" ∈ lw_tbl := w_tb 352 (by decide +kernel)
theorem cl_L_15 : Cond.classLink RL 15 "java/lang/IllegalStateException" ∈ lw_tbl := w_tb 353 (by decide +kernel)
theorem cl_L_21 : Cond.classLink RL 21 "java/lang/IndexOutOfBoundsException" ∈ lw_tbl := w_tb 543 (by decide +kernel)
theorem cl_L_58 : Cond.classLink RL 58 "java/util/NoSuchElementException" ∈ lw_tbl := w_tb 655 (by decide +kernel)
theorem cl_L_130 : Cond.classLink RL 130 "java/lang/ArithmeticException" ∈ lw_tbl := w_tb 883 (by decide +kernel)
theorem cl_L_166 : Cond.classLink RL 166 "UmbrellaSchoolModel" ∈ lw_tbl := w_tb 1339 (by decide +kernel)
