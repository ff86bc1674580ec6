/-! contracts with an outcome of a kind; new arrays and objects; texts as parts of the pool -/
theorem gP_mem {D : va_G} {cl : List vw_C} {w : va_W} {H : Heap} : va_P D cl w H ↔ ∀ q ∈ w, va_at D cl q H :=
  ⟨fun h q hq => by obtain ⟨k, hk⟩ := List.getElem?_of_mem hq; exact h k q hk, fun h k q hk => h q (List.mem_of_getElem? hk)⟩
theorem gD_mem {A : Nat → Prop} {w : va_W} : va_D A w ↔ (w.map Prod.fst).Nodup ∧ ∀ q ∈ w, A q.1 := by
  constructor
  · intro h
    refine ⟨?_, fun q hq => by obtain ⟨k, hk⟩ := List.getElem?_of_mem hq; exact h.2 k q hk⟩
    refine List.pairwise_iff_getElem.mpr (fun i j hi hj hij e => ?_)
    rw [List.getElem_map, List.getElem_map] at e
    rw [List.length_map] at hi hj
    have := h.1 i j w[i] w[j] (List.getElem?_eq_getElem hi) (List.getElem?_eq_getElem hj) e
    omega
  · rintro ⟨h1, h2⟩
    refine ⟨fun i j p q hi hj e => ?_, fun k q hk => h2 q (List.mem_of_getElem? hk)⟩
    have hp := List.pairwise_iff_getElem.mp (show List.Pairwise (fun a b => a ≠ b) (w.map Prod.fst) from h1)
    obtain ⟨a1, a2⟩ := List.getElem?_eq_some_iff.mp hi
    obtain ⟨b1, b2⟩ := List.getElem?_eq_some_iff.mp hj
    rcases Nat.lt_trichotomy i j with c | c | c
    · exact absurd (by rw [List.getElem_map, List.getElem_map, a2, b2]; exact e) (hp i j (by rw [List.length_map]; exact a1) (by rw [List.length_map]; exact b1) c)
    · exact c
    · exact absurd (by rw [List.getElem_map, List.getElem_map, a2, b2]; exact e.symm) (hp j i (by rw [List.length_map]; exact b1) (by rw [List.length_map]; exact a1) c)
theorem gP_perm {D : va_G} {cl : List vw_C} {w1 w2 : va_W} {H : Heap} (hp : w1.Perm w2) (h : va_P D cl w1 H) : va_P D cl w2 H := gP_mem.mpr (fun q hq => gP_mem.mp h q (hp.mem_iff.mpr hq))
theorem gD_perm {A : Nat → Prop} {w1 w2 : va_W} (hp : w1.Perm w2) (h : va_D A w1) : va_D A w2 := by
  obtain ⟨h1, h2⟩ := gD_mem.mp h
  exact gD_mem.mpr ⟨(hp.map Prod.fst).nodup_iff.mp h1, fun q hq => h2 q (hp.mem_iff.mpr hq)⟩
-- contracts whose outcome is known by a relation
def gQR (R : Option Value → gG → gS → gT → Prop) (cy : gY) (D : va_G) (A : Nat → Prop) : Array Value → State → Outcome → State → Prop := fun a st oc t => ∃ (v : Option Value) (G' : gG) (S' : gS) (T' : gT), R v G' S' T' ∧ gQ v (gPost cy D G' S' T' A) A a st oc t
def CtR (ad : Nat → Nat) (y : MethodName) (ws : List Cond) (d mc ms : Nat) (As : List Value) (G : gG) (S : gS) (T : gT) (R : Option Value → gG → gS → gT → Prop) : Prop :=
  ∀ (l : Launch) (D : va_G) (c1 : Nat → ClassId) (Z : va_W) (sz : Nat), l.stackTraces = false → gZ (c1, ad) Z T →
    Met l y ws (grm d mc ms) (va_Pc As (gPre (c1, ad) D G S Z sz)) (gQR R (c1, ad) D (va_A (Z ++ gw (c1, ad) G S) sz)) mc ms (va_A (Z ++ gw (c1, ad) G S) sz)
def gEndR (K : gKx) (ret : Option FieldType) (R : Option Value → gG → gS → gT → Prop) : Prop :=
  (kM K).sig.returnType = ret ∧ kQ K = MQ (kb K) (gQR R (ky K) (kD K) (kA K)) (ka K) (ks K) (kC K) (kS K) (kA K)
theorem CtR.of {ad : Nat → Nat} {y : MethodName} {cc : ByteArray} {nL d mc ms : Nat} {ret : Option FieldType} {As : List Value} {G : gG} {S : gS} {T : gT} {R : Option Value → gG → gS → gT → Prop} (hy : plainName y.cls = true) (hlen : As.length ≤ nL) (hcat : ∀ v ∈ As, v.category = 1)
    (body : ∀ K : gKx, Gd K y.cls cc d → gEndR K ret R → (ky K).2 = ad ∧ kN K = nL ∧ (kM K).name = y.name → Xj K [] G 0 (As.map some ++ List.replicate (nL - As.length) none) [] S T mc ms) : CtR ad y (Cond.code y cc nL ret :: gTb) d mc ms As G S T R := by
  intro l D c1 Z sz hl hZ
  refine Met.ofW (cc := cc) (maxL := nL) (ret := ret) hy rfl ?_
  intro p e s m args below meth c s₁ B hml hv
  obtain ⟨rfl, hsz, hP, hD0, hF, hH⟩ := hv
  have hts := atoms_spec (ws := Cond.code y cc nL ret :: gTb) B.pre
  subst hsz
  have hD := hD0.self (sz := s.heap.size)
  have hX := body (((p, l, e, grm d mc ms), (s, m, As.toArray, below), (meth, c), (D, (c1, ad)), va_A (Z ++ gw (c1, ad) G S) s.heap.size, MQ below (gQR R (c1, ad) D (va_A (Z ++ gw (c1, ad) G S) s.heap.size)) As.toArray s mc ms (va_A (Z ++ gw (c1, ad) G S) s.heap.size), nL, mc, ms) : gKx)
    ⟨⟨B.exec, B.bytes, hml, findClass_of_methodNamed B.named, fun w hw => hts w (List.mem_cons_of_mem _ hw)⟩, hF, hH, hl, fun q h => Or.inr h, B.notSynchronized, rfl⟩ ⟨B.returns, rfl⟩ ⟨rfl, rfl, (name_of_methodNamed B.named B.method).1⟩
  have hh : va_D (va_A (Z ++ gw (c1, ad) G S) s.heap.size) (([] ++ Z) ++ gw (c1, ad) G S) := hD
  rw [lg_entry_eq]
  exact hX s.heap [] 0 0 _ Z ⟨hZ, hP, hh, va_S.rf, gl_entry hlen (by rw [lg_len As hcat]; exact hlen) hcat, by simp, by simp⟩
-- ends
section ENDR
variable {K : gKx} {G : gG} {pc : Nat} {lv : List (Option Value)} {S : gS} {T : gT} {c0 s0 d : Nat} {own : String} {cc : ByteArray} {R : Option Value → gG → gS → gT → Prop}
theorem gOutR {v : Option Value} {H : Heap} {locs : List Loc} {cells slots : Nat} {ls : Array Slot} {Z : va_W} (hR : R v G S T) (h : gAt K [] G lv S T c0 s0 H locs cells slots ls Z) : ∀ t : State, t.heap = H → (ks K).WarmedH t.vm → gQR R (ky K) (kD K) (kA K) (ka K) (ks K) (.returned v) t :=
  fun t ht hw => ⟨v, G, S, T, hR, gOut h t ht hw⟩
theorem x_iretR {x : Int32} (g : Gd K own cc d) (e : gEndR K (some .int) R) (hdg : decode cc pc = .ok (.ireturn, 1)) (hR : R (some (.int x)) G S T) : Xj K [] G pc lv [.int x] S T c0 s0 := by
  intro H locs cells slots ls Z hat
  unfold kW
  rw [e.2]
  have hb := hat.2.2.2.2.2
  refine W.widen (k := kC K) (n := kS K) (by omega) (by omega) ?_
  exact W.iret g.1.1 g.1.2.1 e.1 (gOutR hR hat) hat.2.2.2.1.2.2 hdg g.2.2.2.2.2.1
theorem x_vretR (g : Gd K own cc d) (e : gEndR K none R) (hdg : decode cc pc = .ok (.return_, 1)) (hR : R none G S T) : Xj K [] G pc lv [] S T c0 s0 := by
  intro H locs cells slots ls Z hat
  unfold kW
  rw [e.2]
  have hb := hat.2.2.2.2.2
  refine W.widen (k := kC K) (n := kS K) (by omega) (by omega) ?_
  exact W.vret g.1.1 g.1.2.1 e.1 (gOutR hR hat) hat.2.2.2.1.2.2 hdg g.2.2.2.2.2.1
theorem x_aretR {ty : FieldType} {b : Nat} (hty : (∃ C, ty = .object C) ∨ ∃ u, ty = .array u) (g : Gd K own cc d) (e : gEndR K (some ty) R) (hdg : decode cc pc = .ok (.areturn, 1)) (hR : R (some (.ref b)) G S T) : Xj K [] G pc lv [.ref b] S T c0 s0 := by
  intro H locs cells slots ls Z hat
  unfold kW
  rw [e.2]
  have hb := hat.2.2.2.2.2
  refine W.widen (k := kC K) (n := kS K) (by omega) (by omega) ?_
  exact W.aret g.1.1 g.1.2.1 e.1 hty (Or.inr ⟨b, rfl⟩) (gOutR hR hat) hat.2.2.2.1.2.2 hdg g.2.2.2.2.2.1
end ENDR
-- calls of such
theorem x_runR {K : gKx} {PX : va_W} {G : gG} {pc : Nat} {lv : List (Option Value)} {st rest : List Value} {S : gS} {T : gT} {c0 s0 : Nat} {own : String} {cc : ByteArray} {d mc ms : Nat} {R : Option Value → gG → gS → gT → Prop} {a : Array Value} (g : Gd K own cc d) (hc : mc ≤ c0) (hs : ms ≤ s0)
    (hr : ∀ (H : Heap) (locs : List Loc) (cells slots : Nat) (ls : Array Slot) (Z : va_W), gAt K PX G lv S T c0 s0 H locs cells slots ls Z → cells + mc ≤ (kR K).cells ∧ slots + ms ≤ (kR K).slots →
      va_Run (kp K) (kl K) (ke K) (kR K) (ks K) (km K) (ka K) (kb K) (kM K) (kc K) H locs cells slots mc ms (F0 (km K) pc ls st) rest (gQR R (ky K) (kD K) (va_A (Z ++ gw (ky K) G S) H.size) a) (va_A (Z ++ gw (ky K) G S) H.size))
    (k : ∀ (v : Option Value) (G' : gG) (S' : gS) (T' : gT), R v G' S' T' → Xj K PX G' (pc + 3) lv (v.toList ++ rest) S' T' (c0 - mc) (s0 - ms)) : Xj K PX G pc lv st S T c0 s0 := by
  intro H locs cells slots ls Z hat
  have hrm : kR K = grm d (kC K) (kS K) := g.2.2.2.2.2.2
  have hcap : cells + mc ≤ (kR K).cells ∧ slots + ms ≤ (kR K).slots := by
    have e1 : (kR K).cells = kC K := by rw [hrm]; rfl
    have e2 : (kR K).slots = kS K := by rw [hrm]; rfl
    rw [e1, e2]
    have := hat.2.2.2.2.2
    omega
  intro T0 hT X
  obtain ⟨v', st₀, t, T1, L, h0, X', hL, e1, e2, ⟨v, G', S', T', hR, ⟨hv, hB⟩, hF⟩, hst⟩ := hr H locs cells slots ls Z hat hcap T0 hT X
  cases hv
  obtain ⟨Z', hat'⟩ := gTake g hat hc hs h0 hL e1 hB hF
  obtain ⟨t2, a1, b1⟩ := k _ G' S' T' hR T1.heap (locs ++ L) (cells + mc) (slots + ms) ls Z' hat' T1 rfl X'
  exact ⟨t2, hst t2 a1, b1⟩
theorem x_callSR {K : gKx} {PX : va_W} {G : gG} {pc idx n : Nat} {lv : List (Option Value)} {st rest As : List Value} {S : gS} {T : gT} {c0 s0 : Nat} {own : String} {cc : ByteArray} {d d' mc ms maxL : Nat} {ret : Option FieldType} {bytes : ByteArray} {y : MethodName} {R : Option Value → gG → gS → gT → Prop} (g : Gd K own cc d)
    (hC : CtR (ky K).2 y (Cond.code y bytes maxL ret :: gTb) d' mc ms As G S T R) (hca : gCa y bytes maxL ret n) (hstc : Cond.static y ∈ lw_tbl) (hlk : Cond.methodLink own idx y ∈ lw_tbl)
    (hd : d' + 1 ≤ d) (hc : mc ≤ c0) (hs : ms ≤ s0) (hn : As.length = n) (hst : st = As.reverse ++ rest) (hW : (rest.map fun v => v.category).sum ≤ 8) (hdg : decode cc pc = .ok (.invokestatic idx, 3))
    (k : ∀ (v : Option Value) (G' : gG) (S' : gS) (T' : gT), R v G' S' T' → Xj K PX G' (pc + 3) lv (v.toList ++ rest) S' T' (c0 - mc) (s0 - ms)) : Xj K PX G pc lv st S T c0 s0 := by
  refine x_runR (a := As.toArray) g hc hs (fun H locs cells slots ls Z hat hcap => ?_) k
  have hM := hC (kl K) (kD K) (ky K).1 Z H.size g.2.2.2.1 hat.1
  exact va_runS (cc := cc) (nL := kN K) (Ts := gTb) (own := own) (n := n) g.1 hM ⟨callB_of n g.1.2.2.2.2 (gGood hca.1) rfl rfl rfl (g.tb hca.2.1 rfl) (g.tb hlk rfl) hca.2.2.1 (gRoom g hd hca.2.2.2), g.tb hstc rfl⟩
    ⟨gF_blind, fun U hU hW => ⟨rfl, gGive g hat U hU hW⟩⟩ rfl hn hat.2.2.2.2.1.1 hst (lv_room hW) hdg hcap
-- constructors called: by the class itself, and within a nest
theorem x_callIR {K : gKx} {PX : va_W} {G : gG} {pc b idx n : Nat} {lv : List (Option Value)} {st rest As : List Value} {S : gS} {T : gT} {c0 s0 : Nat} {own : String} {cc : ByteArray} {d d' mc ms maxL : Nat} {bytes : ByteArray} {y : MethodName} {R : Option Value → gG → gS → gT → Prop} (g : Gd K own cc d)
    (hC : CtR (ky K).2 y (Cond.code y bytes maxL none :: gTb) d' mc ms (.ref b :: As) G S T R) (hca : gCa y bytes maxL none n) (hy1 : y.name = "<init>") (hin : Cond.instanceMethod y ∈ lw_tbl) (hlk : Cond.methodLink own idx y ∈ lw_tbl)
    (hd : d' + 1 ≤ d) (hc : mc ≤ c0) (hs : ms ≤ s0) (hn : As.length = n) (hst : st = As.reverse ++ .ref b :: rest) (hW : (rest.map fun v => v.category).sum ≤ 8) (hdg : decode cc pc = .ok (.invokespecial idx, 3))
    (k : ∀ (v : Option Value) (G' : gG) (S' : gS) (T' : gT), R v G' S' T' → Xj K PX G' (pc + 3) lv (v.toList ++ rest) S' T' (c0 - mc) (s0 - ms)) : Xj K PX G pc lv st S T c0 s0 := by
  refine x_runR (a := (Value.ref b :: As).toArray) g hc hs (fun H locs cells slots ls Z hat hcap => ?_) k
  have hM := hC (kl K) (kD K) (ky K).1 Z H.size g.2.2.2.1 hat.1
  exact va_runI (cc := cc) (nL := kN K) (Ts := gTb) (own := own) (n := n) g.1 hM ⟨callB_of n g.1.2.2.2.2 (gGood hca.1) rfl rfl rfl (g.tb hca.2.1 rfl) (g.tb hlk rfl) hca.2.2.1 (gRoom g hd hca.2.2.2), hy1, g.tb hin rfl⟩
    ⟨gF_blind, fun U hU hW => ⟨rfl, gGive g hat U hU hW⟩⟩ rfl hn hat.2.2.2.2.1.1 hst (lv_room hW) hdg hcap
theorem x_callINR {K : gKx} {PX : va_W} {G : gG} {pc b idx n : Nat} {lv : List (Option Value)} {st rest As : List Value} {S : gS} {T : gT} {c0 s0 : Nat} {own host : String} {cc : ByteArray} {d d' mc ms maxL : Nat} {bytes : ByteArray} {y : MethodName} {R : Option Value → gG → gS → gT → Prop} (g : Gd K own cc d)
    (hC : CtR (ky K).2 y (Cond.code y bytes maxL none :: gTb) d' mc ms (.ref b :: As) G S T R) (hca : gCa y bytes maxL none n) (hy1 : y.name = "<init>") (hin : Cond.instanceMethod y ∈ lw_tbl) (hlk : (own, idx, y, host) ∈ gNest)
    (hd : d' + 1 ≤ d) (hc : mc ≤ c0) (hs : ms ≤ s0) (hn : As.length = n) (hst : st = As.reverse ++ .ref b :: rest) (hW : (rest.map fun v => v.category).sum ≤ 8) (hdg : decode cc pc = .ok (.invokespecial idx, 3))
    (k : ∀ (v : Option Value) (G' : gG) (S' : gS) (T' : gT), R v G' S' T' → Xj K PX G' (pc + 3) lv (v.toList ++ rest) S' T' (c0 - mc) (s0 - ms)) : Xj K PX G pc lv st S T c0 s0 := by
  refine x_runR (a := (Value.ref b :: As).toArray) g hc hs (fun H locs cells slots ls Z hat hcap => ?_) k
  have hM := hC (kl K) (kD K) (ky K).1 Z H.size g.2.2.2.1 hat.1
  exact va_runIN (cc := cc) (nL := kN K) (Ts := gTb) (own := own) (host := host) (n := n) g.1 hM ⟨va_cnB n g.1.2.2.2.2 (gGood hca.1) rfl rfl rfl (g.2.1.2.1 _ hlk) (g.tb hca.2.1 rfl) hca.2.2.1 (gRoom g hd hca.2.2.2), hy1, g.tb hin rfl⟩
    ⟨gF_blind, fun U hU hW => ⟨rfl, gGive g hat U hU hW⟩⟩ rfl hn hat.2.2.2.2.1.1 hst (lv_room hW) hdg hcap
-- Object.<init>
theorem x_oinit {K : gKx} {PX : va_W} {G : gG} {pc a idx : Nat} {lv : List (Option Value)} {st : List Value} {S : gS} {T : gT} {c0 s0 d : Nat} {own : String} {cc : ByteArray} (g : Gd K own cc d) (hdg : decode cc pc = .ok (.invokespecial idx, 3)) (hlk : Cond.methodLink own idx Lib.objectInit ∈ lw_tbl) (hd : 1 ≤ d) (hW : (st.map fun v => v.category).sum ≤ 8)
    (k : Xj K PX G (pc + 3) lv st S T c0 s0) : Xj K PX G pc lv (.ref a :: st) S T c0 s0 := by
  intro H locs cells slots ls Z h
  have hR := g.2.2.2.2.2.2
  refine W.objInit g.1.1 g.1.2.1 g.1.2.2.2.1 (g.tb hlk rfl) (g.tb (w_tb 37 (by decide +kernel)) rfl) (g.tb (w_tb 38 (by decide +kernel)) rfl) rfl (h.2.2.2.2.1.1.trans g.1.2.2.1.symm) rfl hdg (by rw [hR]; exact hd) (by rw [hR]; show 2 * 0 + _ + 12 ≤ 64 * d; omega) (k H locs cells slots ls Z h)
-- new rows and objects
def gadd (G : gG) (b kd n : Nat) : gG := (gL G ++ [b], fun a => if a = b then kd else gK G a, fun a => if a = b then n else gn G a)
def sZ (S : gS) (b : Nat) : gS := (fun f a => if a = b then 0 else S.1 f a, fun f a => if a = b then none else S.2.1 f a, fun a i => if a = b then 0 else S.2.2.1 a i, fun a i => if a = b then none else S.2.2.2 a i)
theorem gK_add {G : gG} {b kd n : Nat} : gK (gadd G b kd n) b = kd := if_pos rfl
theorem gn_add {G : gG} {b kd n : Nat} : gn (gadd G b kd n) b = n := if_pos rfl
theorem gis_add {G : gG} {b kd n : Nat} : gis (gadd G b kd n) kd b := ⟨List.mem_append_right _ List.mem_cons_self, gK_add⟩
theorem gne {G : gG} {b a : Nat} (hb : b ∉ gL G) (h : a ∈ gL G) : a ≠ b := fun e => by subst e; exact hb h
theorem gis_old {G : gG} {b kd n k a : Nat} (hb : b ∉ gL G) (h : gis G k a) : gis (gadd G b kd n) k a := by
  refine ⟨List.mem_append_left _ h.1, ?_⟩
  show (if a = b then kd else gK G a) = k
  rw [if_neg (gne hb h.1)]
  exact h.2
theorem gn_old {G : gG} {b kd n a : Nat} (hb : b ∉ gL G) (h : a ∈ gL G) : gn (gadd G b kd n) a = gn G a := if_neg (gne hb h)
theorem gce_add {cy : gY} {G : gG} {S : gS} {b kd n a : Nat} (h : a ≠ b) : gce cy (gadd G b kd n) (sZ S b) a = gce cy G S a := by
  have e1 : gK (gadd G b kd n) a = gK G a := if_neg h
  have e2 : gn (gadd G b kd n) a = gn G a := if_neg h
  have e3 : gr (sZ S b) a = gr S a := funext fun i => if_neg h
  have e4 : gq (sZ S b) a = gq S a := funext fun i => if_neg h
  have e5 : gfv (sZ S b) a = gfv S a := by
    funext x
    cases x with
    | inl f => exact congrArg Value.int (if_neg h)
    | inr f => exact congrArg va_rf (if_neg h)
  unfold gce gar
  rw [e1, e2, e3, e4, e5]
theorem gw_add {cy : gY} {G : gG} {S : gS} {b kd n : Nat} (h : b ∉ gL G) : gw cy (gadd G b kd n) (sZ S b) = gw cy G S ++ [(b, gce cy (gadd G b kd n) (sZ S b) b)] := by
  unfold gw
  rw [va_pl_push h]
  show va_pl (gL G ++ [b]) _ = _
  refine va_pl_congr (fun a => ?_)
  by_cases e : a = b
  · subst e
    rw [va_up_self]
  · rw [va_up_ne _ _ e, gce_add e]
theorem gName {D : va_G} {tys : List (ClassId × FieldType)} {U : State} {t : Nat} {c c' : ClassId} {ty : FieldType} (h : va_K D vwCl (tys ++ [(c', ty)]) U) (ht : tys[t]? = some (c, ty)) : c' = c := by
  have h1 : va_RA U c' ty := (h.2 tys.length (c', ty) (by simp)).2
  have h2 : va_RA U c ty := (h.2 t (c, ty) (by rw [List.getElem?_append_left (List.getElem?_eq_some_iff.mp ht).1]; exact ht)).2
  have f : ∀ c0 : ClassId, va_RA U c0 ty → U.vm.findClass ("[" ++ ty.toString) = some c0 := by
    intro c0 h
    cases ty with
    | object C =>
      obtain ⟨_, _, _, _, _, h⟩ := h
      exact h
    | _ => exact h
  exact Option.some.inj ((f _ h1).symm.trans (f _ h2))
theorem x_newa {K : gKx} {PX : va_W} {G : gG} {pc t N : Nat} {lv : List (Option Value)} {st : List Value} {S : gS} {T : gT} {c0 s0 d : Nat} {own : String} {cc : ByteArray} {atype : ArrayType} {ty : FieldType} {n : Int32} (kd : Nat) (g : Gd K own cc d) (hdg : decode cc pc = .ok (.newarray atype, 2)) (harr : Cond.arrayClass (newarray.typeOf atype) ∈ lw_tbl) (hty : newarray.typeOf atype = ty) (ht : ∀ cy : gY, (gty cy)[t]? = some (cy.1 t, ty))
    (hg0 : ∀ (cy : gY) (G : gG) (S : gS) (a : Nat), gK G a = kd → gce cy G S a = .inl (cy.1 t, gn G a, .inl (gr S a))) (hdef : defaultValue ty = .int 0) (hn : ¬ n < 0) (hN : n.toNatClampNeg = N) (hby : N * componentBytes ty ≤ 536870912)
    (k : ∀ b : Nat, b ∉ gL G → Xj K PX (gadd G b kd N) (pc + 2) lv (.ref b :: st) (sZ S b) T c0 s0) : Xj K PX G pc lv (.int n :: st) S T (c0 + 1) (s0 + N) := by
  intro H locs cells slots ls Z h
  have hR := g.2.2.2.2.2.2
  have hb := h.2.2.2.2.2
  refine va_newa (D := kD K) (a0 := (N, .inl (fun _ => 0))) g.1.1 g.1.2.1 (g.tb harr rfl) hty g.2.1.1 h.2.1 h.2.2.1 h.2.2.2.1 g.2.2.2.2.1 (fun cA => by rw [hdef]; rfl) hn hN hby (by rw [hR]; show _ ≤ kC K; omega) (by rw [hR]; show _ ≤ kS K; omega) hdg (fun q cA H1 hK hP hD hS => ?_)
  have hcA := gName hK (ht (ky K))
  have hq : q ∉ gL G := va_pl_fresh2 (X := PX ++ Z) (f := gce (ky K) G S) hD
  have ew : ((PX ++ Z) ++ gw (ky K) G S) ++ [(q, .inl (cA, N, .inl (fun _ => 0)))] = (PX ++ Z) ++ gw (ky K) (gadd G q kd N) (sZ S q) := by
    have er : gr (sZ S q) q = fun _ => 0 := funext fun i => if_pos rfl
    rw [gw_add hq, ← List.append_assoc, hg0 _ _ _ _ gK_add, gn_add, er, hcA]
  rw [ew] at hP hD
  exact k q hq H1 locs (cells + 1) (slots + N) ls Z ⟨h.1, hP, hD, hS, h.2.2.2.2.1, by omega, by omega⟩
def gdv (x : Nat ⊕ Nat) : Value := match x with
  | .inl _ => .int 0
  | .inr _ => .null
theorem gfv_sZ (S : gS) (b : Nat) (x : Nat ⊕ Nat) : gfv (sZ S b) b x = gdv x := by
  cases x with
  | inl f => exact congrArg Value.int (if_pos rfl)
  | inr f => exact congrArg va_rf (if_pos rfl)
theorem x_newo {K : gKx} {PX : va_W} {G : gG} {pc kd ci idx : Nat} {lv : List (Option Value)} {st : List Value} {S : gS} {T : gT} {c0 s0 d : Nat} {own C : String} {cc : ByteArray} {fl : List (Nat ⊕ Nat)} {TC : u_T} {NC : Nat} {ty0 : Nat → FieldType} (g : Gd K own cc d) (hdg : decode cc pc = .ok (.new idx, 3)) (cl : gCls kd ci fl C TC NC ty0) (hcl : Cond.classLink own idx C ∈ lw_tbl) (hinst : Cond.instantiable C NC ∈ lw_tbl) (hini : Cond.initialized C ∈ lw_tbl)
    (hdf : ∀ j, j < NC → defaultValue (ty0 j) = vp_V (fl.map gdv) j)
    (k : ∀ b : Nat, b ∉ gL G → Xj K PX (gadd G b kd 0) (pc + 3) lv (.ref b :: st) (sZ S b) T c0 s0) : Xj K PX G pc lv st S T (c0 + 1) (s0 + NC) := by
  intro H locs cells slots ls Z h
  have hR := g.2.2.2.2.2.2
  have hb := h.2.2.2.2.2
  obtain ⟨c1, c2, c3, c4, c5, c6⟩ := cl
  refine va_new (D := kD K) (fs := fl.map gdv) g.1.1 g.1.2.1 g.1.2.2.2.2 c3 ty0 c4 g.1.2.2.2.1 (g.tb hcl rfl) (g.tb hinst rfl) (g.tb hini rfl) g.2.1.1 h.2.1 h.2.2.1 h.2.2.2.1 g.2.2.2.2.1 c2 hdf (by rw [hR]; show _ ≤ kC K; omega) (by rw [hR]; show _ ≤ kS K; omega) hdg (fun q H1 hP hD hS => ?_)
  have hq : q ∉ gL G := va_pl_fresh2 (X := PX ++ Z) (f := gce (ky K) G S) hD
  have ew : ((PX ++ Z) ++ gw (ky K) G S) ++ [(q, .inr (ci, fl.map gdv))] = (PX ++ Z) ++ gw (ky K) (gadd G q kd 0) (sZ S q) := by
    have em : fl.map (gfv (sZ S q) q) = fl.map gdv := List.map_congr_left (fun x _ => gfv_sZ S q x)
    rw [gw_add hq, ← List.append_assoc, gce_obj (by rw [gK_add]; exact c1), em]
  rw [ew] at hP hD
  exact k q hq H1 locs (cells + 1) (slots + NC) ls Z ⟨h.1, hP, hD, hS, h.2.2.2.2.1, by omega, by omega⟩
