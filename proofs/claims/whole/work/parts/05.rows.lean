/-! what never changes: the tables' words, constants, texts; the judgement; contracts; calls -/
def gNest : List (String × Nat × MethodName × String) := [("UmbrellaSchool$Books", 39, ⟨"UmbrellaSchool$Umbrella", "<init>", "()V"⟩, "UmbrellaSchool"), ("UmbrellaSchool$Books", 62, ⟨"UmbrellaSchool", "situationOf", "(II)I"⟩, "UmbrellaSchool"), ("UmbrellaSchool$Books", 77, ⟨"UmbrellaSchool", "caseInSituation", "(IZ)I"⟩, "UmbrellaSchool"), ("UmbrellaSchool$Umbrella", 49, ⟨"UmbrellaSchool", "copyRow", "([I[I)V"⟩, "UmbrellaSchool"), ("UmbrellaSchool$Umbrella", 53, ⟨"UmbrellaSchool", "caseInSituation", "(IZ)I"⟩, "UmbrellaSchool"), ("UmbrellaSchool$Umbrella", 57, ⟨"UmbrellaSchool", "valueAt", "([II)I"⟩, "UmbrellaSchool"), ("UmbrellaSchool$Umbrella", 61, ⟨"UmbrellaSchool", "putAt", "([III)V"⟩, "UmbrellaSchool"), ("UmbrellaSchool$Umbrella", 69, ⟨"UmbrellaSchool", "rainOfCase", "(I)I"⟩, "UmbrellaSchool"), ("UmbrellaSchool$Umbrella", 73, ⟨"UmbrellaSchool", "addAt", "([III)V"⟩, "UmbrellaSchool")]
def gMsg : List (String × Nat × String) := [("UmbrellaSchool", 159, "no such trial is remembered"), ("UmbrellaSchool", 185, "the wind is not between 0 and 3"), ("UmbrellaSchool", 206, "there is no such rank"), ("UmbrellaSchool", 228, "there was no trial"), ("UmbrellaSchool", 253, "there is no such index"), ("UmbrellaSchool", 264, "the character code is not between 32 and 126"), ("UmbrellaSchool", 268, "the script buffer is full"), ("UmbrellaSchool", 274, "the script does not have the required form"), ("UmbrellaSchool", 291, "a command of the script failed"), ("UmbrellaSchool", 296, "every script had the required form"), ("UmbrellaSchool", 298, "no script had a failed command"), ("UmbrellaSchool", 300, "there is nothing to undo"), ("UmbrellaSchool", 306, "there is no snapshot"), ("UmbrellaSchool", 346, "there is no such umbrella"), ("UmbrellaSchool", 348, "an argument is not in its range"), ("UmbrellaSchool", 350, "the number of umbrellas does not allow this"), ("UmbrellaSchool", 423, "rain or wind is not between 0 and 3"), ("UmbrellaSchool$Books", 46, "there is no such umbrella")]
def gCast : List (String × String) := [("java/lang/IndexOutOfBoundsException", "java/lang/IndexOutOfBoundsException"), ("java/lang/IllegalArgumentException", "java/lang/IllegalArgumentException"), ("java/lang/IllegalStateException", "java/lang/IllegalStateException"), ("java/util/NoSuchElementException", "java/util/NoSuchElementException"), ("java/lang/ArithmeticException", "java/lang/ArithmeticException")]
def gDecl : List MethodName := [⟨"java/lang/RuntimeException", "<init>", "(Ljava/lang/String;)V"⟩, ⟨"java/lang/Exception", "<init>", "(Ljava/lang/String;)V"⟩, ⟨"java/lang/Throwable", "<init>", "(Ljava/lang/String;)V"⟩]
def gCmds : List String := ["ADD", "TRAIN", "PERIOD", "WET", "GALE", "FORGET", "EXAM", "TERM"]
def gRefs : List String := ["NOTHING", "UMBRELLA", "ARGUMENT", "STATE"]
def gForms : List (List Int32) := [[97,100,100,32,35,35],[116,114,97,105,110,32,35,32,35,35,120,35],[112,101,114,105,111,100,32,35,32,35],[119,101,116,32,35],[103,97,108,101,32,35],[102,111,114,103,101,116,32,35,32,35],[101,120,97,109,32,35,32,35],[116,101,114,109]]
def gNcs : List (String × String) := [("java/lang/IllegalStateException", "java/lang/IllegalArgumentException"), ("java/lang/IllegalArgumentException", "java/lang/IndexOutOfBoundsException"), ("java/util/NoSuchElementException", "java/lang/IndexOutOfBoundsException"), ("java/util/NoSuchElementException", "java/lang/IllegalArgumentException")]
def gAO : List String := ["UmbrellaSchool$Umbrella", "UmbrellaSchool$Books"]
def gPrv : List MethodName := [yJ5_ensureCapacityInternal_d00df, yJ5_newCapacity_0f7a4]
def gF (D : va_G) (cy : gY) (U : State) : Prop := va_K D vwCl (gty cy) U ∧ (∀ q ∈ gNest, va_Nw (.methodLinkNest q.1 q.2.1 q.2.2.1 q.2.2.2) U) ∧ (∀ q ∈ gMsg, ∃ a, vk_R q.1 q.2.1 q.2.2 a U) ∧ (∀ c ∈ gCast, va_Nw (.castable c.1 c.2) U) ∧ (∀ y ∈ gDecl, va_Nw (.declares y) U) ∧ (∀ y ∈ gPrv, va_Nw (.selects "java/lang/StringBuilder" y y) U) ∧ (∀ C ∈ gAO, va_AO C U) ∧ ∀ q ∈ gNcs, va_Nc q.1 q.2 U
theorem gF.warm {D : va_G} {cy : gY} {s U : State} (hW : s.WarmedH U.vm) (h : gF D cy s) : gF D cy U := ⟨va_K.moved hW.alike h.1, fun q hq => va_Nw.warmM hW (h.2.1 q hq), fun q hq => (h.2.2.1 q hq).imp fun _ z => vk_R.warm hW z, fun c hc => va_Nw.warmC hW (h.2.2.2.1 c hc), fun y hy => va_Nw.warmD hW (h.2.2.2.2.1 y hy), fun y hy => word_at hW (Or.inl rfl) (h.2.2.2.2.2.1 y hy), fun C hC => va_AO.moved hW.alike (h.2.2.2.2.2.2.1 C hC), fun q hq => va_Nc.moved hW.alike (h.2.2.2.2.2.2.2 q hq)⟩
theorem gF.same {D : va_G} {cy : gY} {s U : State} (hv : s.vm = U.vm) (h : gF D cy s) : gF D cy U := ⟨va_K.moved (by rw [hv]; exact Vm.Alike.refl _) h.1, fun q hq => va_Nw.same rfl hv (h.2.1 q hq), fun q hq => (h.2.2.1 q hq).imp fun _ z => vk_R.same hv.symm z, fun c hc => va_Nw.same rfl hv (h.2.2.2.1 c hc), fun y hy => va_Nw.same rfl hv (h.2.2.2.2.1 y hy), fun y hy => va_Nw.same rfl hv (h.2.2.2.2.2.1 y hy), fun C hC => va_AO.moved (by rw [hv]; exact Vm.Alike.refl _) (h.2.2.2.2.2.2.1 C hC), fun q hq => va_Nc.moved (by rw [hv]; exact Vm.Alike.refl _) (h.2.2.2.2.2.2.2 q hq)⟩
/-- the switch map: a command's case; the last command has none -/
def gsw (k : Nat) : Int32 := if k = 7 then 0 else nI (k + 1)
def gH (cy : gY) (A : Nat → Prop) (U : State) (H : Heap) : Prop :=
  vx_Zq Bundle.tN "UNASSIGNED_STACK" Bundle.steD A U H ∧ vx_Zq Bundle.tN "SUPPRESSED_SENTINEL" Bundle.listD A U H ∧
  va_En "UmbrellaSchool$Command" "LUmbrellaSchool$Command;" gCmds [("java/lang/Enum", "ordinal", "I", [0, 1, 2, 3, 4, 5, 6, 7]), ("UmbrellaSchool$Command", "leastLength", "I", [5, 10, 10, 5, 6, 10, 8, 4])] cy.2 A U H ∧
  va_En "UmbrellaSchool$Refusal" "LUmbrellaSchool$Refusal;" gRefs [] (fun k => cy.2 (10 + k)) A U H ∧
  (∀ k, k < 8 → va_OF "UmbrellaSchool$Command" "form" "Ljava/lang/String;" (.ref (cy.2 (20 + k))) (cy.2 k) A U H) ∧
  vk_S 8 (gForms.map List.length) gForms (fun k => cy.2 (20 + k)) (fun k => cy.2 (30 + k)) A U H ∧
  va_Z "UmbrellaSchool" "COMMANDS" "[LUmbrellaSchool$Command;" (.ref (cy.2 40)) A U H ∧
  va_T (.object "UmbrellaSchool$Command") (cy.2 40) 8 (fun j => .ref (cy.2 j)) A U H ∧
  va_Z "UmbrellaSchool$1" "$SwitchMap$UmbrellaSchool$Command" "[I" (.ref (cy.2 41)) A U H ∧
  va_T .int (cy.2 41) 8 (fun j => .int (gsw j)) A U H ∧
  va_Z "java/lang/String" "COMPACT_STRINGS" "Z" (.int 1) A U H ∧
  va_Z "java/lang/Integer" "DigitOnes" "[B" (.ref (cy.2 50)) A U H ∧
  va_T .byte (cy.2 50) 100 (fun j => .int (nI (48 + j % 10))) A U H ∧
  va_Z "java/lang/Integer" "DigitTens" "[B" (.ref (cy.2 51)) A U H ∧
  va_T .byte (cy.2 51) 100 (fun j => .int (nI (48 + j / 10))) A U H ∧
  va_Zq "jdk/internal/util/Preconditions" "SIOOBE_FORMATTER" "Ljava/util/function/BiFunction;" A U H
theorem gH.kept {cy : gY} {A : Nat → Prop} {U : State} {H H1 : Heap} (h : gH cy A U H) (hq : ∀ a : Nat, a < H.size → ¬ A a → H1[a]? = H[a]?) : gH cy A U H1 := by
  obtain ⟨h1, h2, h3, h4, h5, h6, h7, h8, h9, h10, h11, h12, h13, h14, h15, h16⟩ := h
  exact ⟨h1.kept hq, h2.kept hq, h3.kept hq, h4.kept hq, fun k hk => (h5 k hk).kept hq, h6.kept hq, h7.kept hq, h8.kept hq, h9.kept hq, h10.kept hq, h11.kept hq, h12.kept hq, h13.kept hq, h14.kept hq, h15.kept hq, h16.kept hq⟩
theorem gH.narrow {cy : gY} {A B : Nat → Prop} {U : State} {H : Heap} (h : gH cy A U H) (hq : ∀ q, B q → A q) : gH cy B U H := by
  obtain ⟨h1, h2, h3, h4, h5, h6, h7, h8, h9, h10, h11, h12, h13, h14, h15, h16⟩ := h
  exact ⟨h1.narrow hq, h2.narrow hq, h3.narrow hq, h4.narrow hq, fun k hk => (h5 k hk).narrow hq, h6.narrow hq, h7.narrow hq, h8.narrow hq, h9.narrow hq, h10.narrow hq, h11.narrow hq, h12.narrow hq, h13.narrow hq, h14.narrow hq, h15.narrow hq, h16.narrow hq⟩
theorem gH.moved {cy : gY} {A : Nat → Prop} {u U : State} {H : Heap} (hq : u.vm.Alike U.vm) (h : gH cy A u H) : gH cy A U H := by
  obtain ⟨h1, h2, h3, h4, h5, h6, h7, h8, h9, h10, h11, h12, h13, h14, h15, h16⟩ := h
  exact ⟨h1.moved hq, h2.moved hq, h3.moved hq, h4.moved hq, fun k hk => (h5 k hk).moved hq, h6.moved hq, h7.moved hq, h8.moved hq, h9.moved hq, h10.moved hq, h11.moved hq, h12.moved hq, h13.moved hq, h14.moved hq, h15.moved hq, h16.moved hq⟩
-- worlds in two parts
theorem gP_app {D : va_G} {cl : List vw_C} {w1 w2 : va_W} {H : Heap} (h : va_P D cl (w1 ++ w2) H) : va_P D cl w1 H ∧ va_P D cl w2 H := by
  constructor
  · intro k q hk
    obtain ⟨j, hj⟩ := List.getElem?_of_mem (List.mem_append_left w2 (List.mem_of_getElem? hk))
    exact h j q hj
  · intro k q hk
    obtain ⟨j, hj⟩ := List.getElem?_of_mem (List.mem_append_right w1 (List.mem_of_getElem? hk))
    exact h j q hj
theorem gD_app {A : Nat → Prop} {w1 w2 : va_W} (h : va_D A (w1 ++ w2)) : va_D A w1 ∧ va_D A w2 ∧ ∀ p ∈ w1, ∀ q ∈ w2, p.1 ≠ q.1 := by
  have l1 : ∀ (i : Nat) (p : Nat × va_E), w1[i]? = some p → (w1 ++ w2)[i]? = some p := fun i p hi => by
    rw [List.getElem?_append_left (List.getElem?_eq_some_iff.mp hi).1]; exact hi
  have l2 : ∀ (i : Nat) (p : Nat × va_E), w2[i]? = some p → (w1 ++ w2)[w1.length + i]? = some p := fun i p hi => by
    rw [List.getElem?_append_right (by omega), Nat.add_sub_cancel_left]; exact hi
  refine ⟨⟨fun i j p q hi hj e => h.1 i j p q (l1 i p hi) (l1 j q hj) e, fun k q hk => h.2 k q (l1 k q hk)⟩, ⟨fun i j p q hi hj e => ?_, fun k q hk => h.2 _ q (l2 k q hk)⟩, fun p hp q hq e => ?_⟩
  · have := h.1 _ _ p q (l2 i p hi) (l2 j q hj) e
    omega
  · obtain ⟨i, hi⟩ := List.getElem?_of_mem hp
    obtain ⟨j, hj⟩ := List.getElem?_of_mem hq
    have h1 := h.1 _ _ p q (l1 i p hi) (l2 j q hj) e
    have h2 := (List.getElem?_eq_some_iff.mp hi).1
    omega
-- the judgement
abbrev gKx : Type := (Program × Launch × Env × Room) × (State × MethodId × Array Value × List Frame) × (Method × Code) × (va_G × gY) × (Nat → Prop) × (State → Prop) × (Nat × Nat × Nat)
abbrev kp (K : gKx) : Program := K.1.1
abbrev kl (K : gKx) : Launch := K.1.2.1
abbrev ke (K : gKx) : Env := K.1.2.2.1
abbrev kR (K : gKx) : Room := K.1.2.2.2
abbrev ks (K : gKx) : State := K.2.1.1
abbrev km (K : gKx) : MethodId := K.2.1.2.1
abbrev ka (K : gKx) : Array Value := K.2.1.2.2.1
abbrev kb (K : gKx) : List Frame := K.2.1.2.2.2
abbrev kM (K : gKx) : Method := K.2.2.1.1
abbrev kc (K : gKx) : Code := K.2.2.1.2
abbrev kD (K : gKx) : va_G := K.2.2.2.1.1
abbrev ky (K : gKx) : gY := K.2.2.2.1.2
abbrev kA (K : gKx) : Nat → Prop := K.2.2.2.2.1
abbrev kQ (K : gKx) : State → Prop := K.2.2.2.2.2.1
abbrev kN (K : gKx) : Nat := K.2.2.2.2.2.2.1
abbrev kC (K : gKx) : Nat := K.2.2.2.2.2.2.2.1
abbrev kS (K : gKx) : Nat := K.2.2.2.2.2.2.2.2
def kW (K : gKx) (H : Heap) (locs : List Loc) (cells slots : Nat) (g : JFrame) : Prop := W (kp K) (kl K) (ke K) (kR K) (ks K) (km K) (ka K) (kb K) (kM K) (kc K) H locs cells slots (kQ K) g
def gAt (K : gKx) (PX : va_W) (G : gG) (lv : List (Option Value)) (S : gS) (T : gT) (c0 s0 : Nat) (H : Heap) (locs : List Loc) (cells slots : Nat) (ls : Array Slot) (Z : va_W) : Prop :=
  gZ (ky K) Z T ∧ va_P (kD K) vwCl ((PX ++ Z) ++ gw (ky K) G S) H ∧ va_D (kA K) ((PX ++ Z) ++ gw (ky K) G S) ∧ va_S (kA K) (ks K).heap H locs ∧ gl ls (kN K) lv ∧ cells + c0 ≤ kC K ∧ slots + s0 ≤ kS K
def Xj (K : gKx) (PX : va_W) (G : gG) (pc : Nat) (lv : List (Option Value)) (st : List Value) (S : gS) (T : gT) (c0 s0 : Nat) : Prop :=
  ∀ (H : Heap) (locs : List Loc) (cells slots : Nat) (ls : Array Slot) (Z : va_W), gAt K PX G lv S T c0 s0 H locs cells slots ls Z → kW K H locs cells slots (F0 (km K) pc ls st)
def grm (d mc ms : Nat) : Room := { frames := d, cells := mc, slots := ms, locals := 64 * d }
def Gd (K : gKx) (own : String) (cc : ByteArray) (d : Nat) : Prop :=
  ((kp K).tables.exec = Jvm.exec ∧ (kc K).code = cc ∧ (kc K).maxLocals = kN K ∧ (ks K).vm.findClass own = some (km K).cls ∧ (∀ w ∈ gTb, w.before (ka K) (ks K) = true)) ∧ gF (kD K) (ky K) (ks K) ∧ gH (ky K) (kA K) (ks K) (ks K).heap ∧ (kl K).stackTraces = false ∧ (∀ q, (ks K).heap.size ≤ q → kA K q) ∧ (kM K).locks = false ∧ kR K = grm d (kC K) (kS K)
theorem Gd.tb {K : gKx} {own : String} {cc : ByteArray} {d : Nat} (g : Gd K own cc d) {w : Cond} (h : w ∈ lw_tbl) (hg : goodWord w = true) : w.before (ka K) (ks K) = true := g.1.2.2.2.2 w (List.mem_filter.mpr ⟨h, hg⟩)
-- contracts
def gPre (cy : gY) (D : va_G) (G : gG) (S : gS) (Z : va_W) (sz : Nat) (U : State) : Prop := U.heap.size = sz ∧ va_P D vwCl (Z ++ gw cy G S) U.heap ∧ va_D (fun _ => True) (Z ++ gw cy G S) ∧ gF D cy U ∧ gH cy (va_A (Z ++ gw cy G S) sz) U U.heap
def gPost (cy : gY) (D : va_G) (G : gG) (S : gS) (T : gT) (A : Nat → Prop) (t : State) : Prop := ∃ Z', gZ cy Z' T ∧ va_P D vwCl (Z' ++ gw cy G S) t.heap ∧ va_D A (Z' ++ gw cy G S)
def gQ (v : Option Value) (B : State → Prop) (A : Nat → Prop) : Array Value → State → Outcome → State → Prop := fun _ st oc t => (oc = .returned v ∧ B t) ∧ va_F A st t
def Ct (ad : Nat → Nat) (y : MethodName) (ws : List Cond) (d mc ms : Nat) (As : List Value) (G : gG) (S : gS) (T : gT) (v : Option Value) (G' : gG) (S' : gS) (T' : gT) : Prop :=
  ∀ (l : Launch) (D : va_G) (c1 : Nat → ClassId) (Z : va_W) (sz : Nat), l.stackTraces = false → gZ (c1, ad) Z T →
    Met l y ws (grm d mc ms) (va_Pc As (gPre (c1, ad) D G S Z sz)) (gQ v (gPost (c1, ad) D G' S' T' (va_A (Z ++ gw (c1, ad) G S) sz)) (va_A (Z ++ gw (c1, ad) G S) sz)) mc ms (va_A (Z ++ gw (c1, ad) G S) sz)
/-- the end that a contract's body owes -/
def gEnd (K : gKx) (ret : Option FieldType) (v : Option Value) (G : gG) (S : gS) (T : gT) : Prop :=
  (kM K).sig.returnType = ret ∧ kQ K = MQ (kb K) (gQ v (gPost (ky K) (kD K) G S T (kA K)) (kA K)) (ka K) (ks K) (kC K) (kS K) (kA K)
theorem gF_blind {cy : gY} {D : va_G} {G : gG} {S : gS} {Z : va_W} {sz : Nat} {As : List Value} : FrameBlind (va_Pc As (gPre cy D G S Z sz)) := by
  intro a U g mk h
  obtain ⟨h1, h2, h3, h4, h5, h6⟩ := h
  exact ⟨h1, h2, h3, h4, gF.same (U := U.calling g mk a) rfl h5, gH.moved (U := U.calling g mk a) (Vm.Alike.refl U.vm) h6⟩
theorem Ct.of {ad : Nat → Nat} {y : MethodName} {cc : ByteArray} {nL d mc ms : Nat} {ret : Option FieldType} {As : List Value} {G G' : gG} {S S' : gS} {T T' : gT} {v : Option Value} (hy : plainName y.cls = true) (hlen : As.length ≤ nL) (hcat : ∀ v ∈ As, v.category = 1)
    (body : ∀ K : gKx, Gd K y.cls cc d → gEnd K ret v G' S' T' → (ky K).2 = ad ∧ kN K = nL → Xj K [] G 0 (As.map some ++ List.replicate (nL - As.length) none) [] S T mc ms) : Ct ad y (Cond.code y cc nL ret :: gTb) d mc ms As G S T v G' S' T' := by
  intro l D c1 Z sz hl hZ
  refine Met.ofW (cc := cc) (maxL := nL) (ret := ret) hy rfl ?_
  intro p e s m args below meth c s₁ B hml hv
  obtain ⟨rfl, hsz, hP, hD0, hF, hH⟩ := hv
  have hts := atoms_spec (ws := Cond.code y cc nL ret :: gTb) B.pre
  subst hsz
  have hD := hD0.self (sz := s.heap.size)
  have hX := body (((p, l, e, grm d mc ms), (s, m, As.toArray, below), (meth, c), (D, (c1, ad)), va_A (Z ++ gw (c1, ad) G S) s.heap.size, MQ below (gQ v (gPost (c1, ad) D G' S' T' (va_A (Z ++ gw (c1, ad) G S) s.heap.size)) (va_A (Z ++ gw (c1, ad) G S) s.heap.size)) As.toArray s mc ms (va_A (Z ++ gw (c1, ad) G S) s.heap.size), nL, mc, ms) : gKx)
    ⟨⟨B.exec, B.bytes, hml, findClass_of_methodNamed B.named, fun w hw => hts w (List.mem_cons_of_mem _ hw)⟩, hF, hH, hl, fun q h => Or.inr h, B.notSynchronized, rfl⟩ ⟨B.returns, rfl⟩ ⟨rfl, rfl⟩
  have hh : va_D (va_A (Z ++ gw (c1, ad) G S) s.heap.size) (([] ++ Z) ++ gw (c1, ad) G S) := hD
  rw [lg_entry_eq]
  exact hX s.heap [] 0 0 _ Z ⟨hZ, hP, hh, va_S.rf, gl_entry hlen (by rw [lg_len As hcat]; exact hlen) hcat, by simp, by simp⟩
