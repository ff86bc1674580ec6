/-! methods that throw: a contract of the throw (the world behind it, the exception's class), thrown here or further -/
def Cx (ad : Nat → Nat) (y : MethodName) (ws : List Cond) (d : Nat) (As : List Value) (G : gG) (S : gS) (T : gT) (E : String) (S' : gS) (T' : gT) : Prop :=
  ∀ (l : Launch) (D : va_G) (c1 : Nat → ClassId) (Z : va_W) (sz : Nat), l.stackTraces = false → gZ (c1, ad) Z T →
    vx_Met l y ws (grm d 1 6) (va_Pc As (gPre (c1, ad) D G S Z sz)) (fun _ _ _ _ => False) (fun E' st t => E' = E ∧ gPost (c1, ad) D G S' T' (va_A (Z ++ gw (c1, ad) G S) sz) t ∧ va_F (va_A (Z ++ gw (c1, ad) G S) sz) st t) 1 6 (va_A (Z ++ gw (c1, ad) G S) sz)
def gEndX (K : gKx) (E : String) (G : gG) (S : gS) (T : gT) : Prop :=
  kQ K = vx_MQ (kb K) (fun _ _ _ _ => False) (fun E' st t => E' = E ∧ gPost (ky K) (kD K) G S T (kA K) t ∧ va_F (kA K) st t) (ka K) (ks K) (kC K) (kS K) (kA K) ∧ (∀ x ∈ (kc K).exceptionTable.toList, False) ∧ kC K = 1 ∧ kS K = 6
theorem Cx.ofB {ad : Nat → Nat} {y : MethodName} {cc : ByteArray} {nL d : Nat} {ret : Option FieldType} {As : List Value} {G : gG} {S S' : gS} {T T' : gT} {E : String} (hy : plainName y.cls = true) (hlen : As.length ≤ nL) (hcat : As.all (fun v => v.category == 1) = true)
    (body : ∀ K : gKx, Gd K y.cls cc d → gEndX K E G S' T' → (ky K).2 = ad ∧ kN K = nL → Xj K [] G 0 (As.map some ++ List.replicate (nL - As.length) none) [] S T 1 6) : Cx ad y (Cond.code y cc nL ret :: gTb) d As G S T E S' T' := by
  have hcat : ∀ v ∈ As, v.category = 1 := fun v hv => by simpa using List.all_eq_true.mp hcat v hv
  intro l D c1 Z sz hl hZ
  refine vx_ofW (cc := cc) (maxL := nL) (ret := ret) hy rfl ?_
  intro p e s m args below meth c s₁ B hml hex hv
  obtain ⟨rfl, hsz, hP, hD0, hF, hH⟩ := hv
  have hts := atoms_spec (ws := Cond.code y cc nL ret :: gTb) B.pre
  subst hsz
  have hD := hD0.self (sz := s.heap.size)
  have hX := body (((p, l, e, grm d 1 6), (s, m, As.toArray, below), (meth, c), (D, (c1, ad)), va_A (Z ++ gw (c1, ad) G S) s.heap.size, vx_MQ below (fun _ _ _ _ => False) (fun E' st t => E' = E ∧ gPost (c1, ad) D G S' T' (va_A (Z ++ gw (c1, ad) G S) s.heap.size) t ∧ va_F (va_A (Z ++ gw (c1, ad) G S) s.heap.size) st t) As.toArray s 1 6 (va_A (Z ++ gw (c1, ad) G S) s.heap.size), nL, 1, 6) : gKx)
    ⟨⟨B.exec, B.bytes, hml, findClass_of_methodNamed B.named, fun w hw => hts w (List.mem_cons_of_mem _ hw)⟩, hF, hH, hl, fun q h => Or.inr h, B.notSynchronized, rfl⟩ ⟨rfl, hex, rfl, rfl⟩ ⟨rfl, rfl⟩
  have hh : va_D (va_A (Z ++ gw (c1, ad) G S) s.heap.size) (([] ++ Z) ++ gw (c1, ad) G S) := hD
  rw [lg_entry_eq]
  exact hX s.heap [] 0 0 _ Z ⟨hZ, hP, hh, va_S.rf, gl_entry hlen (by rw [lg_len As hcat]; exact hlen) hcat, by simp, by simp⟩
theorem gOutX {K : gKx} {G : gG} {lv : List (Option Value)} {S : gS} {T : gT} {c0 s0 : Nat} {H : Heap} {locs : List Loc} {cells slots : Nat} {ls : Array Slot} {Z : va_W} (h : gAt K [] G lv S T c0 s0 H locs cells slots ls Z) (t : State) (hz : H.size ≤ t.heap.size) (hk : ∀ q : Nat, q < H.size → t.heap[q]? = H[q]?) : gPost (ky K) (kD K) G S T (kA K) t ∧ va_F (kA K) (ks K) t :=
  ⟨⟨Z, h.1, h.2.1.kept fun k q hq => hk q.1 (h.2.1 k q hq).lt, h.2.2.1⟩, Nat.le_trans h.2.2.2.1.1 hz, fun q h1 h2 => by rw [hk q (Nat.lt_of_lt_of_le h1 h.2.2.2.1.1)]; exact h.2.2.2.1.2.1 q h1 h2⟩
def gXw (w : Cond) : Prop := w ∈ gTb ∨ (∃ c ∈ gCast, w = .castable c.1 c.2) ∨ ∃ y ∈ gDecl, w = .declares y
def gXok (own cls : String) (ic : Nat) (names : List String) : Prop := ∀ w ∈ vx_atS own ic cls names, gXw w
theorem gXuse {K : gKx} {own : String} {cc : ByteArray} {d ik : Nat} {cls : String} {L : List Cond} (g : Gd K own cc d) (hat : ∀ w ∈ L, gXw w) : (∀ w ∈ L, w.before (ka K) (ks K) = true) ∧ ∀ w ∈ Cond.classLink own ik cls :: Cond.initialized cls :: L, vx_ot w = true := by
  refine ⟨fun w hw => ?_, fun w hw => ?_⟩
  · rcases hat w hw with h | ⟨c, hc, rfl⟩ | ⟨y, hy, rfl⟩
    · exact g.1.2.2.2.2 w h
    · exact va_Nw.use rfl (g.2.1.2.2.2.1 c hc)
    · exact va_Nw.use rfl (g.2.1.2.2.2.2.1 y hy)
  · rcases List.mem_cons.mp hw with e | hw
    · subst e; rfl
    · rcases List.mem_cons.mp hw with e | hw
      · subst e; rfl
      · rcases hat w hw with h | ⟨c, hc, rfl⟩ | ⟨y, hy, rfl⟩
        · have := (List.mem_filter.mp h).2
          unfold vx_ot
          rw [this, Bool.or_true]
        · rfl
        · rfl
theorem gXof {L : List Cond} (h : ∀ w ∈ L.filter goodWord, w ∈ tables_1) (h2 : ∀ w ∈ L.filter (fun w => !goodWord w), w ∈ gCast.map (fun c => Cond.castable c.1 c.2) ++ gDecl.map Cond.declares) : ∀ w ∈ L, gXw w := by
  intro w hw
  by_cases g : goodWord w = true
  · exact Or.inl (List.mem_filter.mpr ⟨List.mem_append_right _ (h w (List.mem_filter.mpr ⟨hw, g⟩)), g⟩)
  · rcases List.mem_append.mp (h2 w (List.mem_filter.mpr ⟨hw, by simpa using g⟩)) with q | q
    · obtain ⟨c, hc, e⟩ := List.mem_map.mp q
      exact Or.inr (Or.inl ⟨c, hc, e.symm⟩)
    · obtain ⟨y, hy, e⟩ := List.mem_map.mp q
      exact Or.inr (Or.inr ⟨y, hy, e.symm⟩)
theorem x_throw {K : gKx} {G : gG} {pc ik is ic : Nat} {lv : List (Option Value)} {st : List Value} {S S1 : gS} {T T1 : gT} {d : Nat} {own cls : String} {cc : ByteArray} {names : List String} (text : String) (g : Gd K own cc d) (e : gEndX K cls G S1 T1) (hfit : Bundle.fit cls = true) (hnm : ∀ n ∈ names, Bundle.fit n = true) (hck : Cond.classLink own ik cls ∈ lw_tbl) (hci : Cond.initialized cls ∈ lw_tbl) (hmsg : (own, is, text) ∈ gMsg) (hat : gXok own cls ic names)
    (d0 : decode cc pc = .ok (.new ik, 3)) (d3 : decode cc (pc + 3) = .ok (.dup, 1)) (d4 : decode cc (pc + 4) = .ok (.ldc is, 2)) (d6 : decode cc (pc + 6) = .ok (.invokespecial ic, 3)) (d9 : decode cc (pc + 9) = .ok (.athrow, 1)) (hd : names.length + 3 < d) (hdl : 8 + (13 * (names.length + 1) + 43) ≤ 64 * d) (hW : (st.map fun v => v.category).sum ≤ 8) (hS : S = S1) (hT : T = T1) : Xj K [] G pc lv st S T 1 6 := by
  subst hS hT
  intro H locs cells slots ls Z h
  unfold kW
  rw [e.1]
  have hb := h.2.2.2.2.2
  have hr := g.2.2.2.2.2.2
  obtain ⟨sa, hsa⟩ := g.2.1.2.2.1 _ hmsg
  obtain ⟨ha1, ha2⟩ := gXuse (ik := ik) (cls := cls) g hat
  refine vx_throwS (A := kA K) (names := names) g.1.1 g.1.2.1 g.2.2.2.1 g.1.2.2.2.1 hfit hnm (g.tb hck rfl) (g.tb hci rfl) hsa ha1 ha2 g.2.2.1.1 g.2.2.1.2.1 h.2.2.2.1 (h.2.2.2.2.1.1.trans g.1.2.2.1.symm) d0 d3 d4 d6 d9 (fun x hx => (e.2.1 x hx).elim) (by rw [hr]; exact hd) (by rw [hr]; show _ ≤ 64 * d; omega) (by rw [hr]; show cells + 1 ≤ kC K; omega) (by rw [hr]; show slots + 6 ≤ kS K; omega) g.2.2.2.2.2.1 (fun t _ hz hk => ⟨rfl, gOutX h t hz hk⟩) h.2.2.2.1.2.2 (by omega) (by omega)
theorem x_throwW {K : gKx} {G : gG} {pc ik is ic : Nat} {lv : List (Option Value)} {st : List Value} {S S1 : gS} {T T1 : gT} {d : Nat} {own cls : String} {cc : ByteArray} {names : List String} (text : String) (g : Gd K own cc d) (e : gEndX K cls G S1 T1) (hfit : Bundle.fit cls = true) (hnm : ∀ n ∈ names, Bundle.fit n = true) (hck : Cond.classLink own ik cls ∈ lw_tbl) (hci : Cond.initialized cls ∈ lw_tbl) (hmsg : (own, is, text) ∈ gMsg) (hat : gXok own cls ic names)
    (d0 : decode cc pc = .ok (.new ik, 3)) (d3 : decode cc (pc + 3) = .ok (.dup, 1)) (d4 : decode cc (pc + 4) = .ok (.ldc_w is, 3)) (d7 : decode cc (pc + 7) = .ok (.invokespecial ic, 3)) (d10 : decode cc (pc + 10) = .ok (.athrow, 1)) (hd : names.length + 3 < d) (hdl : 8 + (13 * (names.length + 1) + 43) ≤ 64 * d) (hW : (st.map fun v => v.category).sum ≤ 8) (hS : S = S1) (hT : T = T1) : Xj K [] G pc lv st S T 1 6 := by
  subst hS hT
  intro H locs cells slots ls Z h
  unfold kW
  rw [e.1]
  have hb := h.2.2.2.2.2
  have hr := g.2.2.2.2.2.2
  obtain ⟨sa, hsa⟩ := g.2.1.2.2.1 _ hmsg
  obtain ⟨ha1, ha2⟩ := gXuse (ik := ik) (cls := cls) g hat
  refine vx_throwSW (A := kA K) (names := names) g.1.1 g.1.2.1 g.2.2.2.1 g.1.2.2.2.1 hfit hnm (g.tb hck rfl) (g.tb hci rfl) hsa ha1 ha2 g.2.2.1.1 g.2.2.1.2.1 h.2.2.2.1 (h.2.2.2.2.1.1.trans g.1.2.2.1.symm) d0 d3 d4 d7 d10 (fun x hx => (e.2.1 x hx).elim) (by rw [hr]; exact hd) (by rw [hr]; show _ ≤ 64 * d; omega) (by rw [hr]; show cells + 1 ≤ kC K; omega) (by rw [hr]; show slots + 6 ≤ kS K; omega) g.2.2.2.2.2.1 (fun t _ hz hk => ⟨rfl, gOutX h t hz hk⟩) h.2.2.2.1.2.2 (by omega) (by omega)
theorem x_throwN {K : gKx} {G : gG} {pc ik is ic : Nat} {lv : List (Option Value)} {st : List Value} {S S1 : gS} {T T1 : gT} {d : Nat} {own cls Y0 : String} {cc : ByteArray} {r0 : List String} (text : String) (g : Gd K own cc d) (e : gEndX K cls G S1 T1) (hfit : Bundle.fit cls = true) (hY0 : Bundle.fit Y0 = true) (hr0 : ∀ n ∈ r0, Bundle.fit n = true) (hck : Cond.classLink own ik cls ∈ lw_tbl) (hci : Cond.initialized cls ∈ lw_tbl) (hmsg : (own, is, text) ∈ gMsg) (hat : ∀ w ∈ (gOwnN own ic cls Y0 r0).filter vx_no, gXw w)
    (d0 : decode cc pc = .ok (.new ik, 3)) (d3 : decode cc (pc + 3) = .ok (.dup, 1)) (d4 : decode cc (pc + 4) = .ok (.ldc is, 2)) (d6 : decode cc (pc + 6) = .ok (.invokespecial ic, 3)) (d9 : decode cc (pc + 9) = .ok (.athrow, 1)) (hd : (Y0 :: r0).length + 3 < d) (hdl : 8 + (13 * ((Y0 :: r0).length + 1) + 43) ≤ 64 * d) (hW : (st.map fun v => v.category).sum ≤ 8) (hS : S = S1) (hT : T = T1) : Xj K [] G pc lv st S T 1 6 := by
  subst hS hT
  intro H locs cells slots ls Z h
  unfold kW
  rw [e.1]
  have hb := h.2.2.2.2.2
  have hr := g.2.2.2.2.2.2
  obtain ⟨sa, hsa⟩ := g.2.1.2.2.1 _ hmsg
  obtain ⟨ha1, ha2⟩ := gXuse (ik := ik) (cls := cls) g hat
  refine gx_makeN (A := kA K) (Y0 := Y0) (r0 := r0) g.1.1 g.1.2.1 g.2.2.2.1 g.1.2.2.2.1 hfit hY0 hr0 (g.tb hck rfl) (g.tb hci rfl) hsa ha1 ha2 g.2.2.1.1 g.2.2.1.2.1 h.2.2.2.1 (h.2.2.2.2.1.1.trans g.1.2.2.1.symm) d0 d3 d4 d6 (by rw [hr]; exact hd) (by rw [hr]; show _ ≤ 64 * d; omega) (by rw [hr]; show cells + 1 ≤ kC K; omega) (by rw [hr]; show slots + 6 ≤ kS K; omega) (fun H1 ce hce hcv hcl hz hk hS1 => ?_)
  refine vx_athrow g.1.1 g.1.2.1 d9 ?_
  exact vx_out (fun x hx => (e.2.1 x hx).elim) g.2.2.2.2.2.1 hce hcv hcl (fun t ht _ => ⟨rfl, gOutX h t (by rw [ht]; exact hz) (fun q hq => by rw [ht]; exact hk q hq)⟩) hS1.2.2 (by omega) (by omega)
theorem x_throwNW {K : gKx} {G : gG} {pc ik is ic : Nat} {lv : List (Option Value)} {st : List Value} {S S1 : gS} {T T1 : gT} {d : Nat} {own cls Y0 : String} {cc : ByteArray} {r0 : List String} (text : String) (g : Gd K own cc d) (e : gEndX K cls G S1 T1) (hfit : Bundle.fit cls = true) (hY0 : Bundle.fit Y0 = true) (hr0 : ∀ n ∈ r0, Bundle.fit n = true) (hck : Cond.classLink own ik cls ∈ lw_tbl) (hci : Cond.initialized cls ∈ lw_tbl) (hmsg : (own, is, text) ∈ gMsg) (hat : ∀ w ∈ (gOwnN own ic cls Y0 r0).filter vx_no, gXw w)
    (d0 : decode cc pc = .ok (.new ik, 3)) (d3 : decode cc (pc + 3) = .ok (.dup, 1)) (d4 : decode cc (pc + 4) = .ok (.ldc_w is, 3)) (d6 : decode cc (pc + 7) = .ok (.invokespecial ic, 3)) (d9 : decode cc (pc + 10) = .ok (.athrow, 1)) (hd : (Y0 :: r0).length + 3 < d) (hdl : 8 + (13 * ((Y0 :: r0).length + 1) + 43) ≤ 64 * d) (hW : (st.map fun v => v.category).sum ≤ 8) (hS : S = S1) (hT : T = T1) : Xj K [] G pc lv st S T 1 6 := by
  subst hS hT
  intro H locs cells slots ls Z h
  unfold kW
  rw [e.1]
  have hb := h.2.2.2.2.2
  have hr := g.2.2.2.2.2.2
  obtain ⟨sa, hsa⟩ := g.2.1.2.2.1 _ hmsg
  obtain ⟨ha1, ha2⟩ := gXuse (ik := ik) (cls := cls) g hat
  refine gx_makeNW (A := kA K) (Y0 := Y0) (r0 := r0) g.1.1 g.1.2.1 g.2.2.2.1 g.1.2.2.2.1 hfit hY0 hr0 (g.tb hck rfl) (g.tb hci rfl) hsa ha1 ha2 g.2.2.1.1 g.2.2.1.2.1 h.2.2.2.1 (h.2.2.2.2.1.1.trans g.1.2.2.1.symm) d0 d3 d4 d6 (by rw [hr]; exact hd) (by rw [hr]; show _ ≤ 64 * d; omega) (by rw [hr]; show cells + 1 ≤ kC K; omega) (by rw [hr]; show slots + 6 ≤ kS K; omega) (fun H1 ce hce hcv hcl hz hk hS1 => ?_)
  refine vx_athrow g.1.1 g.1.2.1 d9 ?_
  exact vx_out (fun x hx => (e.2.1 x hx).elim) g.2.2.2.2.2.1 hce hcv hcl (fun t ht _ => ⟨rfl, gOutX h t (by rw [ht]; exact hz) (fun q hq => by rw [ht]; exact hk q hq)⟩) hS1.2.2 (by omega) (by omega)
-- a callee's throw goes on to the caller
theorem x_runT {K : gKx} {G : gG} {pc : Nat} {lv : List (Option Value)} {st rest : List Value} {S S' : gS} {T T' : gT} {own : String} {cc : ByteArray} {d : Nat} {E : String} {Qa : State → Outcome → State → Prop} (g : Gd K own cc d) (e : gEndX K E G S' T') (hQa : ∀ a b c, ¬ Qa a b c)
    (hr : ∀ (H : Heap) (locs : List Loc) (cells slots : Nat) (ls : Array Slot) (Z : va_W), gAt K [] G lv S T 1 6 H locs cells slots ls Z → cells + 1 ≤ (kR K).cells ∧ slots + 6 ≤ (kR K).slots →
      vx_Run (kp K) (kl K) (ke K) (kR K) (ks K) (km K) (ka K) (kb K) (kM K) (kc K) H locs cells slots 1 6 (F0 (km K) pc ls st) rest Qa (fun E' st t => E' = E ∧ gPost (ky K) (kD K) G S' T' (va_A (Z ++ gw (ky K) G S) H.size) t ∧ va_F (va_A (Z ++ gw (ky K) G S) H.size) st t) (va_A (Z ++ gw (ky K) G S) H.size)) : Xj K [] G pc lv st S T 1 6 := by
  intro H locs cells slots ls Z hat
  have hrm : kR K = grm d (kC K) (kS K) := g.2.2.2.2.2.2
  have hcap : cells + 1 ≤ (kR K).cells ∧ slots + 6 ≤ (kR K).slots := by
    have e1 : (kR K).cells = kC K := by rw [hrm]; rfl
    have e2 : (kR K).slots = kS K := by rw [hrm]; rfl
    rw [e1, e2]
    have := hat.2.2.2.2.2
    omega
  unfold kW
  rw [e.1]
  intro T0 hT X
  rcases hr H locs cells slots ls Z hat hcap T0 hT X with ⟨v', st₀, t, T1, L, h0, X', hL, e1, e2, hq, hst⟩ | ⟨q, st₀, t, T1, L, E', ce, h0, X', hL, e1, e2, ⟨hE, hB, hF⟩, hce, hcv, hcl, hst⟩
  · exact absurd hq (hQa _ _ _)
  · subst hE
    obtain ⟨Z', hat'⟩ := gTake (mc := 1) (ms := 6) g hat (Nat.le_refl _) (Nat.le_refl _) h0 hL e1 hB hF
    have hb := hat'.2.2.2.2.2
    have hout := vx_out (p := kp K) (l := kl K) (e := ke K) (R := kR K) (s := ks K) (m := km K) (args := ka K) (below := kb K) (meth := kM K) (c := kc K) (H := T1.heap) (locs := locs ++ L) (cells := cells + 1) (slots := slots + 6) (free := kA K) (ls := ls) (rest := rest) (pc := pc) (mc := kC K) (ms := kS K) (Qc := fun _ _ _ _ => False) (XC := fun E2 st t => E2 = E' ∧ gPost (ky K) (kD K) G S' T' (kA K) t ∧ va_F (kA K) st t) (fun x hx => (e.2.1 x hx).elim) g.2.2.2.2.2.1 (by rw [e1]; exact hce) hcv hcl (fun t' ht' _ => ⟨rfl, gOutX hat' t' (by rw [ht']; exact Nat.le_refl _) (fun q _ => by rw [ht'])⟩) hat'.2.2.2.1.2.2 (by omega) (by omega)
    obtain ⟨t2, a1, b1⟩ := hout T1 rfl X'
    exact ⟨t2, hst.trans a1, b1⟩
theorem x_tV {K : gKx} {G : gG} {pc b kd ci idx n : Nat} {lv : List (Option Value)} {st rest As : List Value} {S S' : gS} {T T' : gT} {own : String} {cc : ByteArray} {d d' maxL : Nat} {ret : Option FieldType} {bytes : ByteArray} {y : MethodName} {E : String} {fl : List (Nat ⊕ Nat)} {TC : u_T} {NC : Nat} {ty0 : Nat → FieldType} (g : Gd K own cc d) (e : gEndX K E G S' T')
    (hC : Cx (ky K).2 y (Cond.code y bytes maxL ret :: gTb) d' (.ref b :: As) G S T E S' T') (hca : gCa y bytes maxL ret n) (hin : Cond.instanceMethod y ∈ lw_tbl) (hse : Cond.selects y.cls y y ∈ lw_tbl) (hlk : Cond.methodLink own idx y ∈ lw_tbl)
    (cl : gCls kd ci fl y.cls TC NC ty0) (hb : gis G kd b) (hd : d' + 1 ≤ d) (hn : As.length = n) (hst : st = As.reverse ++ .ref b :: rest) (hW : (rest.map fun v => v.category).sum ≤ 8) (hdg : decode cc pc = .ok (.invokevirtual idx, 3)) : Xj K [] G pc lv st S T 1 6 := by
  refine x_runT (Qa := fun _ _ _ => False) (rest := rest) g e (fun _ _ _ h => h) (fun H locs cells slots ls Z hat hcap => ?_)
  have hM := hC (kl K) (kD K) (ky K).1 Z H.size g.2.2.2.1 hat.1
  obtain ⟨q0, hq0⟩ := gFind (cy := ky K) (PX := [] ++ Z) (S := S) hb.1
  rw [gce_obj (by rw [hb.2]; exact cl.1)] at hq0
  have hrec := va_recv g.2.1.1 hat.2.1 cl.2.1 hq0
  exact vx_runV (cc := cc) (nL := kN K) (Ts := gTb) (own := own) (n := n) (C := y.cls) g.1 hM ⟨callB_of n g.1.2.2.2.2 (gGood hca.1) rfl rfl rfl (g.tb hca.2.1 rfl) (g.tb hlk rfl) hca.2.2.1 (gRoom g hd hca.2.2.2), g.tb hin rfl, g.tb hse rfl⟩
    ⟨gF_blind, hrec, fun U hU hW => ⟨rfl, gGive g hat U hU hW⟩⟩ rfl hn hat.2.2.2.2.1.1 hst (lv_room hW) hdg hcap
theorem x_tS {K : gKx} {G : gG} {pc idx n : Nat} {lv : List (Option Value)} {st rest As : List Value} {S S' : gS} {T T' : gT} {own : String} {cc : ByteArray} {d d' maxL : Nat} {ret : Option FieldType} {bytes : ByteArray} {y : MethodName} {E : String} (g : Gd K own cc d) (e : gEndX K E G S' T')
    (hC : Cx (ky K).2 y (Cond.code y bytes maxL ret :: gTb) d' As G S T E S' T') (hca : gCa y bytes maxL ret n) (hstc : Cond.static y ∈ lw_tbl) (hlk : Cond.methodLink own idx y ∈ lw_tbl)
    (hd : d' + 1 ≤ d) (hn : As.length = n) (hst : st = As.reverse ++ rest) (hW : (rest.map fun v => v.category).sum ≤ 8) (hdg : decode cc pc = .ok (.invokestatic idx, 3)) : Xj K [] G pc lv st S T 1 6 := by
  refine x_runT (Qa := fun _ _ _ => False) (rest := rest) g e (fun _ _ _ h => h) (fun H locs cells slots ls Z hat hcap => ?_)
  have hM := hC (kl K) (kD K) (ky K).1 Z H.size g.2.2.2.1 hat.1
  exact vx_runS (cc := cc) (nL := kN K) (Ts := gTb) (own := own) (n := n) g.1 hM ⟨callB_of n g.1.2.2.2.2 (gGood hca.1) rfl rfl rfl (g.tb hca.2.1 rfl) (g.tb hlk rfl) hca.2.2.1 (gRoom g hd hca.2.2.2), g.tb hstc rfl⟩
    ⟨gF_blind, fun U hU hW => ⟨rfl, gGive g hat U hU hW⟩⟩ rfl hn hat.2.2.2.2.1.1 hst (lv_room hW) hdg hcap
theorem xat_X5_161 : ∀ w ∈ (gOwnN RX5 161 "java/util/NoSuchElementException" "java/lang/RuntimeException" ["java/lang/Exception"]).filter vx_no, gXw w := gXof (by decide +kernel) (by decide +kernel)
theorem xat_X5_187 : gXok RX5 "java/lang/IllegalArgumentException" 187 ["java/lang/RuntimeException", "java/lang/Exception"] := gXof (by decide +kernel) (by decide +kernel)
theorem xat_X5_230 : gXok RX5 "java/lang/ArithmeticException" 230 ["java/lang/RuntimeException", "java/lang/Exception"] := gXof (by decide +kernel) (by decide +kernel)
theorem xat_X5_255 : gXok RX5 "java/lang/IndexOutOfBoundsException" 255 ["java/lang/RuntimeException", "java/lang/Exception"] := gXof (by decide +kernel) (by decide +kernel)
theorem xat_X5_270 : gXok RX5 "java/lang/IllegalStateException" 270 ["java/lang/RuntimeException", "java/lang/Exception"] := gXof (by decide +kernel) (by decide +kernel)
theorem xat_X1_48 : gXok RX1 "java/lang/IndexOutOfBoundsException" 48 ["java/lang/RuntimeException", "java/lang/Exception"] := gXof (by decide +kernel) (by decide +kernel)
theorem cl_X5_157 : Cond.classLink RX5 157 "java/util/NoSuchElementException" ∈ lw_tbl := w_tb 663 (by decide +kernel)
theorem cl_X5_183 : Cond.classLink RX5 183 "java/lang/IllegalArgumentException" ∈ lw_tbl := w_tb 400 (by decide +kernel)
theorem cl_X5_226 : Cond.classLink RX5 226 "java/lang/ArithmeticException" ∈ lw_tbl := w_tb 905 (by decide +kernel)
theorem cl_X5_251 : Cond.classLink RX5 251 "java/lang/IndexOutOfBoundsException" ∈ lw_tbl := w_tb 397 (by decide +kernel)
theorem cl_X5_266 : Cond.classLink RX5 266 "java/lang/IllegalStateException" ∈ lw_tbl := w_tb 416 (by decide +kernel)
theorem cl_X1_44 : Cond.classLink RX1 44 "java/lang/IndexOutOfBoundsException" ∈ lw_tbl := w_tb 228 (by decide +kernel)
theorem ci_ArithmeticException : Cond.initialized "java/lang/ArithmeticException" ∈ lw_tbl := w_tb 23 (by decide +kernel)
theorem ci_IllegalArgumentException : Cond.initialized "java/lang/IllegalArgumentException" ∈ lw_tbl := w_tb 17 (by decide +kernel)
theorem ci_IllegalStateException : Cond.initialized "java/lang/IllegalStateException" ∈ lw_tbl := w_tb 18 (by decide +kernel)
theorem ci_IndexOutOfBoundsException : Cond.initialized "java/lang/IndexOutOfBoundsException" ∈ lw_tbl := w_tb 16 (by decide +kernel)
theorem ci_NoSuchElementException : Cond.initialized "java/util/NoSuchElementException" ∈ lw_tbl := w_tb 22 (by decide +kernel)
theorem xnm_ok : ∀ n ∈ ["java/lang/RuntimeException", "java/lang/Exception"], Bundle.fit n = true := by decide +kernel
theorem xnm_ok1 : ∀ n ∈ ["java/lang/Exception"], Bundle.fit n = true := by decide +kernel
