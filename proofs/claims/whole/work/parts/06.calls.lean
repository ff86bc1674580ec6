/-! calls and returns -/
theorem gGood {y : MethodName} {bytes : ByteArray} {maxL : Nat} {ret : Option FieldType} (h : Cond.code y bytes maxL ret ∈ lw_tbl) : GoodIn gTb (Cond.code y bytes maxL ret :: gTb) := by
  intro w hw
  have h1 : w ∈ gTb := by
    rcases List.mem_cons.mp hw with e | e
    · subst e
      exact List.mem_filter.mpr ⟨h, rfl⟩
    · exact e
  exact ⟨h1, good_of_word (List.mem_filter.mp h1).2⟩
theorem gIn {K : gKx} {PX : va_W} {G : gG} {lv : List (Option Value)} {S : gS} {T : gT} {c0 s0 : Nat} {H : Heap} {locs : List Loc} {cells slots : Nat} {ls : Array Slot} {Z : va_W} {own : String} {cc : ByteArray} {d : Nat} (g : Gd K own cc d) (h : gAt K PX G lv S T c0 s0 H locs cells slots ls Z) :
    ∀ q, va_A (Z ++ gw (ky K) G S) H.size q → kA K q := by
  obtain ⟨hZ, hP, hD, hS, -⟩ := h
  rw [List.append_assoc] at hD
  have h2 := (gD_app hD).2.1
  rintro q (⟨k, e, hk⟩ | hq)
  · exact h2.2 k _ hk
  · exact g.2.2.2.2.1 q (Nat.le_trans hS.1 hq)
/-- the callee's start -/
theorem gGive {K : gKx} {PX : va_W} {G : gG} {lv : List (Option Value)} {S : gS} {T : gT} {c0 s0 : Nat} {H : Heap} {locs : List Loc} {cells slots : Nat} {ls : Array Slot} {Z : va_W} {own : String} {cc : ByteArray} {d : Nat} (g : Gd K own cc d) (h : gAt K PX G lv S T c0 s0 H locs cells slots ls Z) :
    ∀ U : State, U.heap = H → (ks K).WarmedH U.vm → gPre (ky K) (kD K) G S Z H.size U := by
  intro U hU hW
  have hin := gIn g h
  obtain ⟨hZ, hP, hD, hS, -⟩ := h
  rw [List.append_assoc] at hP hD
  have h2 := (gD_app hD).2.1
  refine ⟨by rw [hU], by rw [hU]; exact (gP_app hP).2, h2.weaken (fun _ _ _ _ => trivial), gF.warm hW g.2.1, ?_⟩
  rw [hU]
  exact ((gH.kept g.2.2.1 hS.2.1).narrow hin).moved hW.alike
/-- behind the callee -/
theorem gTake {K : gKx} {PX : va_W} {G G' : gG} {lv : List (Option Value)} {S S' : gS} {T T' : gT} {c0 s0 mc ms : Nat} {H : Heap} {locs L : List Loc} {cells slots : Nat} {ls : Array Slot} {Z : va_W} {own : String} {cc : ByteArray} {d : Nat} {st₀ t T1 : State} (g : Gd K own cc d) (h : gAt K PX G lv S T c0 s0 H locs cells slots ls Z)
    (hc : mc ≤ c0) (hs : ms ≤ s0) (h0 : st₀.heap = H) (hL : ∀ q ∈ L, va_A (Z ++ gw (ky K) G S) H.size q.base) (e1 : T1.heap = t.heap) (hB : gPost (ky K) (kD K) G' S' T' (va_A (Z ++ gw (ky K) G S) H.size) t) (hF : va_F (va_A (Z ++ gw (ky K) G S) H.size) st₀ t) :
    ∃ Z', gAt K PX G' lv S' T' (c0 - mc) (s0 - ms) T1.heap (locs ++ L) (cells + mc) (slots + ms) ls Z' := by
  have hin := gIn g h
  obtain ⟨hZ, hP, hD, hS, hl, hcc, hss⟩ := h
  rw [List.append_assoc] at hP hD
  obtain ⟨hD1, hD2, hD3⟩ := gD_app hD
  obtain ⟨hP1, -⟩ := gP_app hP
  obtain ⟨Z', hZ', hP', hD'⟩ := hB
  obtain ⟨hz, hk⟩ := hF
  rw [h0] at hz hk
  have hnot : ∀ (k : Nat) (q : Nat × va_E), PX[k]? = some q → ¬ va_A (Z ++ gw (ky K) G S) H.size q.1 := by
    rintro k q hk1 (⟨j, e, hj⟩ | hq)
    · exact hD3 q (List.mem_of_getElem? hk1) _ (List.mem_of_getElem? hj) rfl
    · exact absurd (hP1 k q hk1).lt (Nat.not_lt.mpr hq)
  refine ⟨Z', hZ', ?_, ?_, ⟨Nat.le_trans hS.1 (by rw [e1]; exact hz), fun q h1 h2 => by rw [e1, hk q (Nat.lt_of_lt_of_le h1 hS.1) (fun z => h2 (hin q z))]; exact hS.2.1 q h1 h2, fun q hq => by
      rcases List.mem_append.mp hq with h | h
      · exact hS.2.2 q h
      · exact hin _ (hL q h)⟩, hl, by omega, by omega⟩
  · rw [List.append_assoc, e1]
    refine va_P.app ?_ hP'
    exact hP1.kept fun k q hk1 => hk q.1 (hP1 k q hk1).lt (hnot k q hk1)
  · rw [List.append_assoc]
    refine va_D.app hD1 (hD'.weaken fun k q _ z => hin _ z) ?_
    intro i j p q hi hj e
    exact hnot i p hi (by rw [e]; exact hD'.2 j q hj)
theorem x_run {K : gKx} {PX : va_W} {G G' : gG} {pc : Nat} {lv : List (Option Value)} {st rest st2 : List Value} {S S' : gS} {T T' : gT} {c0 s0 : Nat} {own : String} {cc : ByteArray} {d mc ms : Nat} {v : Option Value} {a : Array Value} (g : Gd K own cc d) (hc : mc ≤ c0) (hs : ms ≤ s0) (h2 : v.toList ++ rest = st2)
    (hr : ∀ (H : Heap) (locs : List Loc) (cells slots : Nat) (ls : Array Slot) (Z : va_W), gAt K PX G lv S T c0 s0 H locs cells slots ls Z → cells + mc ≤ (kR K).cells ∧ slots + ms ≤ (kR K).slots →
      va_Run (kp K) (kl K) (ke K) (kR K) (ks K) (km K) (ka K) (kb K) (kM K) (kc K) H locs cells slots mc ms (F0 (km K) pc ls st) rest (gQ v (gPost (ky K) (kD K) G' S' T' (va_A (Z ++ gw (ky K) G S) H.size)) (va_A (Z ++ gw (ky K) G S) H.size) a) (va_A (Z ++ gw (ky K) G S) H.size))
    (k : Xj K PX G' (pc + 3) lv st2 S' T' (c0 - mc) (s0 - ms)) : Xj K PX G pc lv st S T c0 s0 := by
  intro H locs cells slots ls Z hat
  have hrm : kR K = grm d (kC K) (kS K) := g.2.2.2.2.2.2
  have hcap : cells + mc ≤ (kR K).cells ∧ slots + ms ≤ (kR K).slots := by
    have e1 : (kR K).cells = kC K := by rw [hrm]; rfl
    have e2 : (kR K).slots = kS K := by rw [hrm]; rfl
    rw [e1, e2]
    have := hat.2.2.2.2.2
    omega
  intro T0 hT X
  obtain ⟨v', st₀, t, T1, L, h0, X', hL, e1, e2, ⟨⟨hv, hB⟩, hF⟩, hst⟩ := hr H locs cells slots ls Z hat hcap T0 hT X
  cases hv
  obtain ⟨Z', hat'⟩ := gTake g hat hc hs h0 hL e1 hB hF
  subst h2
  obtain ⟨t2, a1, b1⟩ := k T1.heap (locs ++ L) (cells + mc) (slots + ms) ls Z' hat' T1 rfl X'
  exact ⟨t2, hst t2 a1, b1⟩
theorem gRoom {K : gKx} {own : String} {cc : ByteArray} {d d' mc ms maxL : Nat} (g : Gd K own cc d) (hd : d' + 1 ≤ d) (hm : maxL ≤ 40) : (grm d' mc ms).frames + 1 ≤ (kR K).frames ∧ 8 + (maxL + 11) + (grm d' mc ms).locals ≤ (kR K).locals := by
  rw [show kR K = grm d (kC K) (kS K) from g.2.2.2.2.2.2]
  show d' + 1 ≤ d ∧ 8 + (maxL + 11) + 64 * d' ≤ 64 * d
  omega
-- a virtual call within the tables: y's class is the receiver's
theorem x_callV {K : gKx} {PX : va_W} {G G' : gG} {pc b ci idx n : Nat} {lv : List (Option Value)} {st rest st2 As : List Value} {S S' : gS} {T T' : gT} {c0 s0 : Nat} {own : String} {cc : ByteArray} {d d' mc ms maxL : Nat} {ret : Option FieldType} {bytes : ByteArray} {y : MethodName} {v : Option Value} {fl : List (Nat ⊕ Nat)} {TC : u_T} {NC : Nat} (g : Gd K own cc d)
    (hC : Ct (ky K).2 y (Cond.code y bytes maxL ret :: gTb) d' mc ms (.ref b :: As) G S T v G' S' T') (hca : gCa y bytes maxL ret n) (hin : Cond.instanceMethod y ∈ lw_tbl) (hse : Cond.selects y.cls y y ∈ lw_tbl) (hlk : Cond.methodLink own idx y ∈ lw_tbl)
    (hb : gis G (gK G b) b) (hk : gkt (gK G b) = some (ci, fl)) (hcl : vwCl[ci]? = some (y.cls, TC, NC)) (hd : d' + 1 ≤ d) (hc : mc ≤ c0) (hs : ms ≤ s0) (hn : As.length = n) (hst : st = As.reverse ++ .ref b :: rest) (hW : (rest.map fun v => v.category).sum ≤ 8) (hdg : decode cc pc = .ok (.invokevirtual idx, 3)) (h2 : v.toList ++ rest = st2)
    (k : Xj K PX G' (pc + 3) lv st2 S' T' (c0 - mc) (s0 - ms)) : Xj K PX G pc lv st S T c0 s0 := by
  refine x_run (a := (Value.ref b :: As).toArray) g hc hs h2 (fun H locs cells slots ls Z hat hcap => ?_) k
  have hM := hC (kl K) (kD K) (ky K).1 Z H.size g.2.2.2.1 hat.1
  obtain ⟨q0, hq0, hq1⟩ : ∃ q0, ((PX ++ Z) ++ gw (ky K) G S)[q0]? = some (b, gce (ky K) G S b) ∧ True := by
    obtain ⟨q0, h⟩ := va_pl_get (X := PX ++ Z) (f := gce (ky K) G S) hb.1
    exact ⟨q0, h, trivial⟩
  rw [gce_obj hk] at hq0
  have hrec := va_recv g.2.1.1 hat.2.1 hcl hq0
  exact va_runV (cc := cc) (nL := kN K) (Ts := gTb) (own := own) (n := n) (C := y.cls) g.1 hM ⟨callB_of n g.1.2.2.2.2 (gGood hca.1) rfl rfl rfl (g.tb hca.2.1 rfl) (g.tb hlk rfl) hca.2.2.1 (gRoom g hd hca.2.2.2), g.tb hin rfl, g.tb hse rfl⟩
    ⟨gF_blind, hrec, fun U hU hW => ⟨rfl, gGive g hat U hU hW⟩⟩ rfl hn hat.2.2.2.2.1.1 hst (lv_room hW) hdg hcap
theorem x_callS {K : gKx} {PX : va_W} {G G' : gG} {pc idx n : Nat} {lv : List (Option Value)} {st rest st2 As : List Value} {S S' : gS} {T T' : gT} {c0 s0 : Nat} {own : String} {cc : ByteArray} {d d' mc ms maxL : Nat} {ret : Option FieldType} {bytes : ByteArray} {y : MethodName} {v : Option Value} (g : Gd K own cc d)
    (hC : Ct (ky K).2 y (Cond.code y bytes maxL ret :: gTb) d' mc ms As G S T v G' S' T') (hca : gCa y bytes maxL ret n) (hstc : Cond.static y ∈ lw_tbl) (hlk : Cond.methodLink own idx y ∈ lw_tbl)
    (hd : d' + 1 ≤ d) (hc : mc ≤ c0) (hs : ms ≤ s0) (hn : As.length = n) (hst : st = As.reverse ++ rest) (hW : (rest.map fun v => v.category).sum ≤ 8) (hdg : decode cc pc = .ok (.invokestatic idx, 3)) (h2 : v.toList ++ rest = st2)
    (k : Xj K PX G' (pc + 3) lv st2 S' T' (c0 - mc) (s0 - ms)) : Xj K PX G pc lv st S T c0 s0 := by
  refine x_run (a := As.toArray) g hc hs h2 (fun H locs cells slots ls Z hat hcap => ?_) k
  have hM := hC (kl K) (kD K) (ky K).1 Z H.size g.2.2.2.1 hat.1
  exact va_runS (cc := cc) (nL := kN K) (Ts := gTb) (own := own) (n := n) g.1 hM ⟨callB_of n g.1.2.2.2.2 (gGood hca.1) rfl rfl rfl (g.tb hca.2.1 rfl) (g.tb hlk rfl) hca.2.2.1 (gRoom g hd hca.2.2.2), g.tb hstc rfl⟩
    ⟨gF_blind, fun U hU hW => ⟨rfl, gGive g hat U hU hW⟩⟩ rfl hn hat.2.2.2.2.1.1 hst (lv_room hW) hdg hcap
-- a static call of a nest mate's private method
theorem x_callN {K : gKx} {PX : va_W} {G G' : gG} {pc idx n : Nat} {lv : List (Option Value)} {st rest st2 As : List Value} {S S' : gS} {T T' : gT} {c0 s0 : Nat} {own host : String} {cc : ByteArray} {d d' mc ms maxL : Nat} {ret : Option FieldType} {bytes : ByteArray} {y : MethodName} {v : Option Value} (g : Gd K own cc d)
    (hC : Ct (ky K).2 y (Cond.code y bytes maxL ret :: gTb) d' mc ms As G S T v G' S' T') (hca : gCa y bytes maxL ret n) (hstc : Cond.static y ∈ lw_tbl) (hlk : (own, idx, y, host) ∈ gNest)
    (hd : d' + 1 ≤ d) (hc : mc ≤ c0) (hs : ms ≤ s0) (hn : As.length = n) (hst : st = As.reverse ++ rest) (hW : (rest.map fun v => v.category).sum ≤ 8) (hdg : decode cc pc = .ok (.invokestatic idx, 3)) (h2 : v.toList ++ rest = st2)
    (k : Xj K PX G' (pc + 3) lv st2 S' T' (c0 - mc) (s0 - ms)) : Xj K PX G pc lv st S T c0 s0 := by
  refine x_run (a := As.toArray) g hc hs h2 (fun H locs cells slots ls Z hat hcap => ?_) k
  have hM := hC (kl K) (kD K) (ky K).1 Z H.size g.2.2.2.1 hat.1
  exact va_runSN (cc := cc) (nL := kN K) (Ts := gTb) (own := own) (host := host) (n := n) g.1 hM ⟨va_cnB n g.1.2.2.2.2 (gGood hca.1) rfl rfl rfl (g.2.1.2.1 _ hlk) (g.tb hca.2.1 rfl) hca.2.2.1 (gRoom g hd hca.2.2.2), g.tb hstc rfl, trivial⟩
    ⟨gF_blind, fun U hU hW => ⟨rfl, gGive g hat U hU hW⟩⟩ rfl hn hat.2.2.2.2.1.1 hst (lv_room hW) hdg hcap
-- returns
theorem gOut {K : gKx} {G : gG} {lv : List (Option Value)} {S : gS} {T : gT} {c0 s0 : Nat} {H : Heap} {locs : List Loc} {cells slots : Nat} {ls : Array Slot} {Z : va_W} {v : Option Value} (h : gAt K [] G lv S T c0 s0 H locs cells slots ls Z) : ∀ t : State, t.heap = H → (ks K).WarmedH t.vm → gQ v (gPost (ky K) (kD K) G S T (kA K)) (kA K) (ka K) (ks K) (.returned v) t := fun t ht _ =>
  ⟨⟨rfl, Z, h.1, by rw [ht]; exact h.2.1, h.2.2.1⟩, h.2.2.2.1.F ht⟩
theorem x_iret {K : gKx} {G : gG} {pc : Nat} {lv : List (Option Value)} {S : gS} {T : gT} {c0 s0 d : Nat} {own : String} {cc : ByteArray} {x : Int32} (g : Gd K own cc d) (e : gEnd K (some .int) (some (.int x)) G S T) (hdg : decode cc pc = .ok (.ireturn, 1)) : Xj K [] G pc lv [.int x] S T c0 s0 := by
  intro H locs cells slots ls Z hat
  unfold kW
  rw [e.2]
  have hb := hat.2.2.2.2.2
  refine W.widen (k := kC K) (n := kS K) (by omega) (by omega) ?_
  exact W.iret g.1.1 g.1.2.1 e.1 (gOut hat) hat.2.2.2.1.2.2 hdg g.2.2.2.2.2.1
theorem x_zret {K : gKx} {G : gG} {pc : Nat} {lv : List (Option Value)} {S : gS} {T : gT} {c0 s0 d : Nat} {own : String} {cc : ByteArray} {x : Int32} {ty : FieldType} (hn : narrow ty (.int x) = .int x) (g : Gd K own cc d) (e : gEnd K (some ty) (some (.int x)) G S T) (hdg : decode cc pc = .ok (.ireturn, 1)) : Xj K [] G pc lv [.int x] S T c0 s0 := by
  intro H locs cells slots ls Z hat
  unfold kW
  rw [e.2]
  have hb := hat.2.2.2.2.2
  refine W.widen (k := kC K) (n := kS K) (by omega) (by omega) ?_
  exact W.zret g.1.1 g.1.2.1 e.1 hn (gOut hat) hat.2.2.2.1.2.2 hdg g.2.2.2.2.2.1
theorem x_vret {K : gKx} {G : gG} {pc : Nat} {lv : List (Option Value)} {S : gS} {T : gT} {c0 s0 d : Nat} {own : String} {cc : ByteArray} (g : Gd K own cc d) (e : gEnd K none none G S T) (hdg : decode cc pc = .ok (.return_, 1)) : Xj K [] G pc lv [] S T c0 s0 := by
  intro H locs cells slots ls Z hat
  unfold kW
  rw [e.2]
  have hb := hat.2.2.2.2.2
  refine W.widen (k := kC K) (n := kS K) (by omega) (by omega) ?_
  exact W.vret g.1.1 g.1.2.1 e.1 (gOut hat) hat.2.2.2.1.2.2 hdg g.2.2.2.2.2.1
theorem x_aret {K : gKx} {G : gG} {pc : Nat} {lv : List (Option Value)} {S : gS} {T : gT} {c0 s0 d : Nat} {own C : String} {cc : ByteArray} {r : Option Nat} (g : Gd K own cc d) (e : gEnd K (some (.object C)) (some (va_rf r)) G S T) (hdg : decode cc pc = .ok (.areturn, 1)) : Xj K [] G pc lv [va_rf r] S T c0 s0 := by
  intro H locs cells slots ls Z hat
  unfold kW
  rw [e.2]
  have hb := hat.2.2.2.2.2
  refine W.widen (k := kC K) (n := kS K) (by omega) (by omega) ?_
  exact W.aret g.1.1 g.1.2.1 e.1 (Or.inl ⟨C, rfl⟩) (by cases r with | none => exact Or.inl rfl | some a => exact Or.inr ⟨a, rfl⟩) (gOut hat) hat.2.2.2.1.2.2 hdg g.2.2.2.2.2.1
