/-! constructors -/
theorem x_newq {K : gKx} {PX : va_W} {G : gG} {pc t N idx : Nat} {lv : List (Option Value)} {st : List Value} {S : gS} {T : gT} {c0 s0 d : Nat} {own C : String} {cc : ByteArray} {n : Int32} (kd : Nat) (g : Gd K own cc d) (hdg : decode cc pc = .ok (.anewarray idx, 3)) (hcl : Cond.classLink own idx C ∈ lw_tbl) (hao : C ∈ gAO) (ht : ∀ cy : gY, (gty cy)[t]? = some (cy.1 t, .object C))
    (hg0 : ∀ (cy : gY) (G : gG) (S : gS) (a : Nat), gK G a = kd → gce cy G S a = .inl (cy.1 t, gn G a, .inr (.inr (.inr (.inr (gq S a)))))) (hn : ¬ n < 0) (hN : n.toNatClampNeg = N) (hby : N * 4 ≤ 536870912)
    (k : ∀ b : Nat, b ∉ gL G → Xj K PX (gadd G b kd N) (pc + 3) lv (.ref b :: st) (sZ S b) T c0 s0) : Xj K PX G pc lv (.int n :: st) S T (c0 + 1) (s0 + N) := by
  intro H locs cells slots ls Z h
  have hR := g.2.2.2.2.2.2
  have hb := h.2.2.2.2.2
  refine va_newq (D := kD K) g.1.1 g.1.2.1 g.1.2.2.2.1 (g.tb hcl rfl) (g.2.1.2.2.2.2.2.2.1 C hao) g.2.1.1 h.2.1 h.2.2.1 h.2.2.2.1 g.2.2.2.2.1 hn hN hby (by rw [hR]; show _ ≤ kC K; omega) (by rw [hR]; show _ ≤ kS K; omega) hdg (fun q cA H1 hK hP hD hS => ?_)
  have hcA := gName hK (ht (ky K))
  have hq : q ∉ gL G := va_pl_fresh2 (X := PX ++ Z) (f := gce (ky K) G S) hD
  have ew : ((PX ++ Z) ++ gw (ky K) G S) ++ [(q, .inl (cA, N, .inr (.inr (.inr (.inr (fun _ => none))))))] = (PX ++ Z) ++ gw (ky K) (gadd G q kd N) (sZ S q) := by
    have er : gq (sZ S q) q = fun _ => none := funext fun i => if_pos rfl
    rw [gw_add hq, ← List.append_assoc, hg0 _ _ _ _ gK_add, gn_add, er, hcA]
  rw [ew] at hP hD
  exact k q hq H1 locs (cells + 1) (slots + N) ls Z ⟨h.1, hP, hD, hS, h.2.2.2.2.1, by omega, by omega⟩
theorem x_putF {K : gKx} {PX : va_W} {G : gG} {pc : Nat} {lv : List (Option Value)} {st : List Value} {S : gS} {T : gT} {c0 s0 d : Nat} {own : String} {cc : ByteArray} {a kd ci idx : Nat} {fl : List (Nat ⊕ Nat)} {TC : u_T} {NC : Nat} {ty0 : Nat → FieldType} {b : Nat} (g : Gd K own cc d) (hnm : (kM K).name = "<init>") (hdg : decode cc pc = .ok (.putfield idx, 3)) (cl : gCls kd ci fl own TC NC ty0) (k f : Nat) (hf : fl[k]? = some (.inr f)) (hkN : k < NC) (hC : (TC k).1 = own) (hfin : (TC k).2.2.2 = true) (hlk : Cond.fieldLink own idx own (TC k).2.1 (TC k).2.2.1 ∈ lw_tbl) (hn : narrow (ty0 k) (Value.ref b) = Value.ref b) (hfit : fits (ty0 k) (Value.ref b) = true) (ha : gis G kd a) (kk : Xj K PX G (pc + 3) lv st (sP S f a (some b)) T c0 s0) : Xj K PX G pc lv (Value.ref b :: .ref a :: st) S T c0 s0 := by
  intro H locs cells slots ls Z h
  obtain ⟨c1, c2, c3, c4, c5, c6⟩ := cl
  obtain ⟨q0, hq⟩ := gFind (cy := ky K) (PX := PX ++ Z) (S := S) ha.1
  have hq2 := hq
  have e1 : gkt (gK G a) = some (ci, fl) := by rw [ha.2]; exact c1
  rw [gce_obj e1] at hq
  refine va_putF (D := kD K) (ci := ci) (v := Value.ref b) (ty := ty0 k) (C := own) (T := TC) (N := NC) g.1.1 g.1.2.1 g.1.2.2.2.2 c3 ty0 c4 c5 g.1.2.2.2.1 g.2.1.1 h.2.1 h.2.2.1 h.2.2.2.1 q0 hq c2 k hkN (ref := own) (g.tb hlk rfl) (fun _ h9 => by rw [hC] at h9; exact h9) hfin hnm hC (c4 k hkN) hn hfit (by rw [List.length_map, c6]; exact hkN) hdg (fun H1 locs1 hP hD hS => ?_)
  have e : ((PX ++ Z) ++ gw (ky K) G S).set q0 (a, .inr (ci, (fl.map (gfv S a)).set k (Value.ref b))) = (PX ++ Z) ++ gw (ky K) G (sP S f a (some b)) := gPut h.2.2.1 ha.1 hq2 (gup_P (cy := ky K) (S := S) e1 hf (some b))
  rw [e] at hP hD
  exact kk H1 locs1 cells slots ls Z ⟨h.1, hP, hD, hS, h.2.2.2.2⟩
theorem gI_sZ (S : gS) (b f a : Nat) : gI (sZ S b) f a = if a = b then 0 else gI S f a := rfl
theorem gP_sZ (S : gS) (b f a : Nat) : gP (sZ S b) f a = if a = b then none else gP S f a := rfl
theorem gr_sZ (S : gS) (b a i : Nat) : gr (sZ S b) a i = if a = b then 0 else gr S a i := rfl
theorem gq_sZ (S : gS) (b a i : Nat) : gq (sZ S b) a i = if a = b then none else gq S a i := rfl
theorem nadd {G : gG} {b c k n : Nat} (h : b ∉ gL (gadd G c k n)) : b ∉ gL G ∧ b ≠ c := ⟨fun q => h (List.mem_append_left _ q), fun e => h (List.mem_append_right _ (by rw [e]; exact List.mem_cons_self))⟩
/-- G' S' hold all that G S hold, but at X -/
def gEx (G : gG) (S : gS) (G' : gG) (S' : gS) (X : List Nat) : Prop := (∀ a ∈ gL G, a ∈ gL G' ∧ gK G' a = gK G a ∧ gn G' a = gn G a) ∧ ∀ a ∈ gL G, a ∉ X → (∀ f, gI S' f a = gI S f a ∧ gP S' f a = gP S f a) ∧ ∀ i, gr S' a i = gr S a i ∧ gq S' a i = gq S a i
theorem gEx.refl {G : gG} {S : gS} {X : List Nat} : gEx G S G S X := ⟨fun _ h => ⟨h, rfl, rfl⟩, fun _ _ _ => ⟨fun _ => ⟨rfl, rfl⟩, fun _ => ⟨rfl, rfl⟩⟩⟩
theorem gEx.trans {G G1 G2 : gG} {S S1 S2 : gS} {X : List Nat} (h1 : gEx G S G1 S1 X) (h2 : gEx G1 S1 G2 S2 X) : gEx G S G2 S2 X :=
  ⟨fun a h => ⟨(h2.1 a (h1.1 a h).1).1, (h2.1 a (h1.1 a h).1).2.1.trans (h1.1 a h).2.1, (h2.1 a (h1.1 a h).1).2.2.trans (h1.1 a h).2.2⟩, fun a h hX => ⟨fun f => ⟨((h2.2 a (h1.1 a h).1 hX).1 f).1.trans ((h1.2 a h hX).1 f).1, ((h2.2 a (h1.1 a h).1 hX).1 f).2.trans ((h1.2 a h hX).1 f).2⟩, fun i => ⟨((h2.2 a (h1.1 a h).1 hX).2 i).1.trans ((h1.2 a h hX).2 i).1, ((h2.2 a (h1.1 a h).1 hX).2 i).2.trans ((h1.2 a h hX).2 i).2⟩⟩⟩
theorem gEx.new {G : gG} {S : gS} {X : List Nat} {b kd n : Nat} (hb : b ∉ gL G) : gEx G S (gadd G b kd n) (sZ S b) X :=
  ⟨fun a h => ⟨List.mem_append_left _ h, if_neg (gne hb h), if_neg (gne hb h)⟩, fun a h _ => ⟨fun _ => ⟨if_neg (gne hb h), if_neg (gne hb h)⟩, fun _ => ⟨if_neg (gne hb h), if_neg (gne hb h)⟩⟩⟩
theorem gEx.I {G : gG} {S : gS} {X : List Nat} {a f : Nat} {v : Int32} (ha : a ∈ X) : gEx G S G (sI S f a v) X :=
  ⟨fun _ h => ⟨h, rfl, rfl⟩, fun c _ hX => ⟨fun _ => ⟨by rw [gI_sI, if_neg (fun q => hX (by rw [q.2]; exact ha))], rfl⟩, fun _ => ⟨rfl, rfl⟩⟩⟩
theorem gEx.P {G : gG} {S : gS} {X : List Nat} {a f : Nat} {v : Option Nat} (ha : a ∈ X) : gEx G S G (sP S f a v) X :=
  ⟨fun _ h => ⟨h, rfl, rfl⟩, fun c _ hX => ⟨fun _ => ⟨rfl, by rw [gP_sP, if_neg (fun q => hX (by rw [q.2]; exact ha))]⟩, fun _ => ⟨rfl, rfl⟩⟩⟩
theorem gEx.q {G : gG} {S : gS} {X : List Nat} {a i : Nat} {v : Option Nat} (ha : a ∈ X) : gEx G S G (sq S a i v) X :=
  ⟨fun _ h => ⟨h, rfl, rfl⟩, fun c _ hX => ⟨fun _ => ⟨rfl, rfl⟩, fun _ => ⟨rfl, by rw [gq_sq, if_neg (fun q => hX (by rw [q.1]; exact ha))]⟩⟩⟩
theorem gEx.gis {G G' : gG} {S S' : gS} {X : List Nat} {k a : Nat} (h : gEx G S G' S' X) (ha : gis G k a) : gis G' k a := ⟨(h.1 a ha.1).1, (h.1 a ha.1).2.1.trans ha.2⟩
theorem gEx.nin {G G' : gG} {S S' : gS} {X : List Nat} {b : Nat} (h : gEx G S G' S' X) (hb : b ∉ gL G') : b ∉ gL G := fun q => hb (h.1 b q).1
theorem gEx.old {G G1 G2 : gG} {S S1 S2 : gS} {X Y : List Nat} (h1 : gEx G S G1 S1 X) (h2 : gEx G1 S1 G2 S2 Y) (hY : ∀ y ∈ Y, y ∉ gL G ∨ y ∈ X) : gEx G S G2 S2 X := by
  refine ⟨fun a h => ⟨(h2.1 a (h1.1 a h).1).1, (h2.1 a (h1.1 a h).1).2.1.trans (h1.1 a h).2.1, (h2.1 a (h1.1 a h).1).2.2.trans (h1.1 a h).2.2⟩, fun a h hX => ?_⟩
  have hy : a ∉ Y := fun q => (hY a q).elim (fun z => z h) hX
  exact ⟨fun f => ⟨((h2.2 a (h1.1 a h).1 hy).1 f).1.trans ((h1.2 a h hX).1 f).1, ((h2.2 a (h1.1 a h).1 hy).1 f).2.trans ((h1.2 a h hX).1 f).2⟩, fun i => ⟨((h2.2 a (h1.1 a h).1 hy).2 i).1.trans ((h1.2 a h hX).2 i).1, ((h2.2 a (h1.1 a h).1 hy).2 i).2.trans ((h1.2 a h hX).2 i).2⟩⟩
-- umbrellas and books by their addresses
abbrev gUA : Type := Nat × (Nat → Nat)
abbrev gBA : Type := Nat × Nat × (Nat → gUA)
def uFp (x : gUA) : List Nat := [x.1, x.2 0, x.2 1, x.2 2, x.2 3]
def bFp (x : gBA) : List Nat := x.1 :: x.2.1 :: (List.range 6).flatMap (fun i => uFp (x.2.2 i))
def gun (j : Nat) : Nat := if j < 2 then 20 else 32
def uSh (G : gG) (S : gS) (x : gUA) : Prop := gis G 1 x.1 ∧ ∀ j, j < 4 → gP S (1 + j) x.1 = some (x.2 j) ∧ gis G 7 (x.2 j) ∧ gn G (x.2 j) = gun j
def uZe (S : gS) (x : gUA) : Prop := (∀ f, gI S (10 + f) x.1 = 0) ∧ ∀ j, j < 4 → ∀ i, gr S (x.2 j) i = 0
def bSh (G : gG) (S : gS) (x : gBA) : Prop := gis G 0 x.1 ∧ gP S 0 x.1 = some x.2.1 ∧ gis G 9 x.2.1 ∧ gn G x.2.1 = 6 ∧ ∀ i, i < 6 → gq S x.2.1 i = some (x.2.2 i).1 ∧ uSh G S (x.2.2 i)
def bZe (S : gS) (x : gBA) : Prop := gI S 0 x.1 = 0 ∧ gI S 1 x.1 = 2 ∧ gI S 2 x.1 = 3 ∧ gI S 3 x.1 = 0 ∧ gI S 4 x.1 = 0 ∧ gI S 5 x.1 = 0 ∧ gI S 6 x.1 = 0 ∧ ∀ i, i < 6 → uZe S (x.2.2 i)
theorem uSh.ex {G G' : gG} {S S' : gS} {X : List Nat} {x : gUA} (h : uSh G S x) (e : gEx G S G' S' X) (hX : x.1 ∉ X) : uSh G' S' x :=
  ⟨e.gis h.1, fun j hj => ⟨((e.2 x.1 h.1.1 hX).1 (1 + j)).2.trans (h.2 j hj).1, e.gis (h.2 j hj).2.1, ((e.1 _ (h.2 j hj).2.1.1).2.2).trans (h.2 j hj).2.2⟩⟩
theorem uZe.ex {G G' : gG} {S S' : gS} {X : List Nat} {x : gUA} (hs : uSh G S x) (h : uZe S x) (e : gEx G S G' S' X) (hX : ∀ a ∈ uFp x, a ∉ X) : uZe S' x := by
  refine ⟨fun f => ((e.2 x.1 hs.1.1 (hX _ List.mem_cons_self)).1 _).1.trans (h.1 f), fun j hj i => ?_⟩
  have hm : x.2 j ∈ uFp x := by
    rcases (by omega : j = 0 ∨ j = 1 ∨ j = 2 ∨ j = 3) with rfl | rfl | rfl | rfl <;> simp [uFp]
  exact ((e.2 (x.2 j) (hs.2 j hj).2.1.1 (hX _ hm)).2 i).1.trans (h.2 j hj i)
def gNone : Option Value := none

def gR4 (a : Nat) (G : gG) (S : gS) (T : gT) : Option Value → gG → gS → gT → Prop := fun v G' S' T' => v = none ∧ T' = T ∧ ∃ x : gUA, x.1 = a ∧ gEx G S G' S' [a] ∧ (uFp x).Nodup ∧ (∀ r ∈ (uFp x).tail, r ∉ gL G) ∧ uSh G' S' x ∧ uZe S' x
theorem k_X4_init {ad : Nat → Nat} {a : Nat} {G : gG} {S : gS} {T : gT} (ha : gis G 1 a) (hz : ∀ f, gI S (10 + f) a = 0) : CtR ad yX4_init (Cond.code yX4_init cX4_init 1 none :: gTb) 1 4 104 [.ref a] G S T ((gR4 a G S T)) := by
  refine CtR.of rfl (Nat.le_of_ble_eq_true rfl) (fun v hv => by simp at hv; subst hv; rfl) (fun K g e hK => ?_)
  obtain ⟨rfl, -, hK2⟩ := hK
  show Xj K [] G 0 [some (.ref a)] [] S T 4 104
  have hnm : (kM K).name = "<init>" := hK2
  refine x_aload_n 0 g dX4_init_0 rfl rfl ?_
  refine x_oinit g dX4_init_1 (w_tb 51 (by decide +kernel)) (by decide) (Nat.le_of_ble_eq_true rfl) ?_
  refine x_aload_n 0 g dX4_init_4 rfl rfl ?_
  refine x_bipush (v := 20) g dX4_init_5 (by decide) ?_
  refine x_newa (t := 2) (ty := .int) (N := 20) (c0 := 3) (s0 := 84) 7 g dX4_init_7 (w_tb 107 (by decide +kernel)) rfl (fun _ => rfl) (fun _ _ _ _ h => gce_i h) rfl (by decide) (by decide) (by decide) (fun b1 hb1 => ?_)
  have ha1 := gis_old (kd := 7) (n := 20) hb1 ha
  refine x_putF g hnm dX4_init_9 gXX4 0 1 rfl (by decide) rfl rfl (w_tb 52 (by decide +kernel)) rfl rfl ha1 ?_
  refine x_aload_n 0 g dX4_init_12 rfl rfl ?_
  refine x_bipush (v := 20) g dX4_init_13 (by decide) ?_
  refine x_newa (t := 2) (ty := .int) (N := 20) (c0 := 2) (s0 := 64) 7 g dX4_init_15 (w_tb 107 (by decide +kernel)) rfl (fun _ => rfl) (fun _ _ _ _ h => gce_i h) rfl (by decide) (by decide) (by decide) (fun b2 hb2 => ?_)
  have ha2 := gis_old (kd := 7) (n := 20) hb2 ha1
  refine x_putF g hnm dX4_init_17 gXX4 1 2 rfl (by decide) rfl rfl (w_tb 54 (by decide +kernel)) rfl rfl ha2 ?_
  refine x_aload_n 0 g dX4_init_20 rfl rfl ?_
  refine x_bipush (v := 32) g dX4_init_21 (by decide) ?_
  refine x_newa (t := 2) (ty := .int) (N := 32) (c0 := 1) (s0 := 32) 7 g dX4_init_23 (w_tb 107 (by decide +kernel)) rfl (fun _ => rfl) (fun _ _ _ _ h => gce_i h) rfl (by decide) (by decide) (by decide) (fun b3 hb3 => ?_)
  have ha3 := gis_old (kd := 7) (n := 32) hb3 ha2
  refine x_putF g hnm dX4_init_25 gXX4 2 3 rfl (by decide) rfl rfl (w_tb 56 (by decide +kernel)) rfl rfl ha3 ?_
  refine x_aload_n 0 g dX4_init_28 rfl rfl ?_
  refine x_bipush (v := 32) g dX4_init_29 (by decide) ?_
  refine x_newa (t := 2) (ty := .int) (N := 32) (c0 := 0) (s0 := 0) 7 g dX4_init_31 (w_tb 107 (by decide +kernel)) rfl (fun _ => rfl) (fun _ _ _ _ h => gce_i h) rfl (by decide) (by decide) (by decide) (fun b4 hb4 => ?_)
  have ha4 := gis_old (kd := 7) (n := 32) hb4 ha3
  refine x_putF g hnm dX4_init_33 gXX4 3 4 rfl (by decide) rfl rfl (w_tb 58 (by decide +kernel)) rfl rfl ha4 ?_
  refine x_aload_n 0 g dX4_init_36 rfl rfl ?_
  refine x_iconst (v := 0) g dX4_init_37 (by decide) ?_
  refine x_puti g dX4_init_38 gXX4 4 10 rfl (by decide) rfl rfl (w_tb 60 (by decide +kernel)) rfl rfl ha4 ?_
  refine x_aload_n 0 g dX4_init_41 rfl rfl ?_
  refine x_iconst (v := 0) g dX4_init_42 (by decide) ?_
  refine x_puti g dX4_init_43 gXX4 5 11 rfl (by decide) rfl rfl (w_tb 63 (by decide +kernel)) rfl rfl ha4 ?_
  refine x_aload_n 0 g dX4_init_46 rfl rfl ?_
  refine x_iconst (v := 0) g dX4_init_47 (by decide) ?_
  refine x_puti g dX4_init_48 gXX4 6 12 rfl (by decide) rfl rfl (w_tb 65 (by decide +kernel)) rfl rfl ha4 ?_
  refine x_aload_n 0 g dX4_init_51 rfl rfl ?_
  refine x_iconst (v := 0) g dX4_init_52 (by decide) ?_
  refine x_puti g dX4_init_53 gXX4 7 13 rfl (by decide) rfl rfl (w_tb 68 (by decide +kernel)) rfl rfl ha4 ?_
  refine x_aload_n 0 g dX4_init_56 rfl rfl ?_
  refine x_iconst (v := 0) g dX4_init_57 (by decide) ?_
  refine x_puti g dX4_init_58 gXX4 8 14 rfl (by decide) rfl rfl (w_tb 71 (by decide +kernel)) rfl rfl ha4 ?_
  refine x_aload_n 0 g dX4_init_61 rfl rfl ?_
  refine x_iconst (v := 0) g dX4_init_62 (by decide) ?_
  refine x_puti g dX4_init_63 gXX4 9 15 rfl (by decide) rfl rfl (w_tb 74 (by decide +kernel)) rfl rfl ha4 ?_
  refine x_aload_n 0 g dX4_init_66 rfl rfl ?_
  refine x_iconst (v := 0) g dX4_init_67 (by decide) ?_
  refine x_puti g dX4_init_68 gXX4 10 16 rfl (by decide) rfl rfl (w_tb 77 (by decide +kernel)) rfl rfl ha4 ?_
  refine x_aload_n 0 g dX4_init_71 rfl rfl ?_
  refine x_iconst (v := 0) g dX4_init_72 (by decide) ?_
  refine x_puti g dX4_init_73 gXX4 11 17 rfl (by decide) rfl rfl (w_tb 80 (by decide +kernel)) rfl rfl ha4 ?_
  refine x_vretR g e dX4_init_76 ⟨rfl, rfl, (a, fun j => if j = 0 then b1 else if j = 1 then b2 else if j = 2 then b3 else b4), rfl, ?_⟩
  obtain ⟨n21, n22⟩ := nadd hb2
  obtain ⟨hb3', n33⟩ := nadd hb3
  obtain ⟨n31, n32⟩ := nadd hb3'
  obtain ⟨hb4', n44⟩ := nadd hb4
  obtain ⟨hb4'', n43⟩ := nadd hb4'
  obtain ⟨n41, n42⟩ := nadd hb4''
  have a1 := gne hb1 ha.1
  have a2 := gne n21 ha.1
  have a3 := gne n31 ha.1
  have a4 := gne n41 ha.1
  have m : a ∈ [a] := List.mem_cons_self
  refine ⟨?_, ?_, ?_, ?_, ?_⟩
  · exact ((((((((((((((gEx.new hb1).trans (gEx.P m)).trans (gEx.new hb2)).trans (gEx.P m)).trans (gEx.new hb3)).trans (gEx.P m)).trans (gEx.new hb4)).trans (gEx.P m)).trans (gEx.I m)).trans (gEx.I m)).trans (gEx.I m)).trans (gEx.I m)).trans (gEx.I m)).trans (gEx.I m) |>.trans (gEx.I m)).trans (gEx.I m)
  · show [a, b1, b2, b3, b4].Nodup
    simp [a1, a2, a3, a4, n22.symm, n32.symm, n33.symm, n42.symm, n43.symm, n44.symm]
  · intro r hr
    have hr : r ∈ [b1, b2, b3, b4] := hr
    simp only [List.mem_cons, List.not_mem_nil, or_false] at hr
    rcases hr with rfl | rfl | rfl | rfl
    · exact hb1
    · exact n21
    · exact n31
    · exact n41
  · refine ⟨gis_old hb4 ha3, fun j hj => ?_⟩
    rcases (by omega : j = 0 ∨ j = 1 ∨ j = 2 ∨ j = 3) with rfl | rfl | rfl | rfl
    · refine ⟨?_, gis_old hb4 (gis_old hb3 (gis_old hb2 gis_add)), ?_⟩
      · simp [gP_sI, gP_sP, gP_sZ, a1, a2, a3, a4]
      · show gn _ b1 = 20
        rw [gn_old hb4 (gis_old hb3 (gis_old hb2 gis_add)).1, gn_old hb3 (gis_old hb2 gis_add).1, gn_old hb2 gis_add.1, gn_add]
    · refine ⟨?_, gis_old hb4 (gis_old hb3 gis_add), ?_⟩
      · simp [gP_sI, gP_sP, gP_sZ, a1, a2, a3, a4]
      · show gn _ b2 = 20
        rw [gn_old hb4 (gis_old hb3 gis_add).1, gn_old hb3 gis_add.1, gn_add]
    · refine ⟨?_, gis_old hb4 gis_add, ?_⟩
      · simp [gP_sI, gP_sP, gP_sZ, a1, a2, a3, a4]
      · show gn _ b3 = 32
        rw [gn_old hb4 gis_add.1, gn_add]
    · refine ⟨?_, gis_add, ?_⟩
      · simp [gP_sI, gP_sP, gP_sZ, a1, a2, a3, a4]
      · exact gn_add
  · refine ⟨fun f => ?_, fun j hj i => ?_⟩
    · have hz := hz f
      by_cases q7 : f < 8
      · rcases (by omega : f = 0 ∨ f = 1 ∨ f = 2 ∨ f = 3 ∨ f = 4 ∨ f = 5 ∨ f = 6 ∨ f = 7) with rfl | rfl | rfl | rfl | rfl | rfl | rfl | rfl <;> simp [gI_sI, gI_sP, gI_sZ]
      · simp only [gI_sI, gI_sP, gI_sZ]
        rw [if_neg (by omega), if_neg (by omega), if_neg (by omega), if_neg (by omega), if_neg (by omega), if_neg (by omega), if_neg (by omega), if_neg (by omega), if_neg a4, if_neg a3, if_neg a2, if_neg a1]
        exact hz
    · rcases (by omega : j = 0 ∨ j = 1 ∨ j = 2 ∨ j = 3) with rfl | rfl | rfl | rfl <;> simp [gr_sI, gr_sP, gr_sZ]

theorem x_astu {K : gKx} {PX : va_W} {G : gG} {pc a v : Nat} {lv : List (Option Value)} {st : List Value} {S : gS} {T : gT} {c0 s0 d : Nat} {own : String} {cc : ByteArray} {i : Int32} (g : Gd K own cc d) (hdg : decode cc pc = .ok (.aastore, 1)) (ha : gis G 9 a) (hin : vp_in i (gn G a)) (hv : gis G 1 v) (kk : Xj K PX G (pc + 1) lv st (sq S a i.toNatClampNeg (some v)) T c0 s0) : Xj K PX G pc lv (.ref v :: .int i :: .ref a :: st) S T c0 s0 := by
  intro H locs cells slots ls Z h
  obtain ⟨q0, hq⟩ := gFind (cy := ky K) (PX := PX ++ Z) (S := S) ha.1
  obtain ⟨q1, hr⟩ := gFind (cy := ky K) (PX := PX ++ Z) (S := S) hv.1
  have hq2 := hq
  rw [gce_u ha.2] at hq
  rw [gce_obj (show gkt (gK G v) = some (5, [.inr 1, .inr 2, .inr 3, .inr 4, .inl 10, .inl 11, .inl 12, .inl 13, .inl 14, .inl 15, .inl 16, .inl 17]) by rw [hv.2]; rfl)] at hr
  refine va_astq (D := kD K) g.1.1 g.1.2.1 g.2.1.1 h.2.1 h.2.2.1 h.2.2.2.1 q0 4 q1 5 hq (r := (RX4, TX4, 12)) rfl hr rfl hin hdg (fun H1 locs1 hP hD hS => ?_)
  have e : ((PX ++ Z) ++ gw (ky K) G S).set q0 (a, .inl ((ky K).1 4, gn G a, .inr (.inr (.inr (.inr (va_up (gq S a) i.toNatClampNeg (some v))))))) = (PX ++ Z) ++ gw (ky K) G (sq S a i.toNatClampNeg (some v)) := gPut h.2.2.1 ha.1 hq2 (gup_q (cy := ky K) (G := G) (S := S) (i := i.toNatClampNeg) (some v) _ (by
    rw [gce_u ha.2]
    congr 7
    funext j
    rw [gq_sq]
    unfold va_up
    by_cases z : j = i.toNatClampNeg
    · rw [if_pos z, if_pos ⟨rfl, z⟩]
    · rw [if_neg z, if_neg (fun q => z q.2)]))
  rw [e] at hP hD
  exact kk H1 locs1 cells slots ls Z ⟨h.1, hP, hD, hS, h.2.2.2.2⟩
theorem range6 {α β : Type} (f : α → List β) (us : List α) (d : α) (h : us.length = 6) : (List.range 6).flatMap (fun i => f (us.getD i d)) = us.flatMap f := by
  match us, h with
  | [a, b, c, x, y, z], _ => rfl
/-- what has been made so far of a Books' umbrellas -/
def gV1 (G : gG) (S : gS) (a r : Nat) (us : List gUA) (G' : gG) (S' : gS) : Prop :=
  gEx G S G' S' [a] ∧ gis G 2 a = gis G 2 a ∧ gP S' 0 a = some r ∧ gis G' 9 r ∧ gn G' r = 6 ∧ r ∉ gL G ∧
  (gI S' 0 a = 0 ∧ gI S' 1 a = 2 ∧ gI S' 2 a = 3 ∧ gI S' 3 a = 0 ∧ gI S' 4 a = 0 ∧ gI S' 5 a = 0 ∧ gI S' 6 a = 0) ∧
  (∀ (j : Nat) (x : gUA), us[j]? = some x → gq S' r j = some x.1 ∧ uSh G' S' x ∧ uZe S' x) ∧ (us.flatMap uFp).Nodup ∧ ∀ y ∈ us.flatMap uFp, y ∉ gL G ∧ y ≠ r ∧ y ∈ gL G'
theorem gV1.step {G G' G2 : gG} {S S' S2 : gS} {a r b : Nat} {us : List gUA} {x : gUA} {T T2 : gT} (haG : a ∈ gL G) (h : gV1 G S a r us G' S') (hb : b ∉ gL G') (hx : x.1 = b) (e2 : gEx (gadd G' b 1 0) (sZ S' b) G2 S2 [b]) (hn : (uFp x).Nodup) (ht : ∀ y ∈ (uFp x).tail, y ∉ gL (gadd G' b 1 0)) (hs : uSh G2 S2 x) (hz : uZe S2 x) : gV1 G S a r (us ++ [x]) G2 (sq S2 r us.length (some b)) := by
  obtain ⟨v1, -, v2, v3, v4, v5, v6, v7, v8, v9⟩ := h
  have haG' : a ∈ gL G' := (v1.1 a haG).1
  have har : a ≠ r := fun e => v5 (e ▸ haG)
  have e12 : ∀ X : List Nat, gEx G' S' G2 S2 X := fun X => (gEx.new hb).old e2 (fun y hy => Or.inl (by rw [List.mem_singleton.mp hy]; exact hb))
  have mr : r ∈ [r] := List.mem_cons_self
  have e3 : gEx G' S' G2 (sq S2 r us.length (some b)) [r] := (e12 [r]).trans (gEx.q mr)
  have hxl : ∀ y ∈ uFp x, y ∉ gL G' ∧ y ∈ gL G2 := by
    intro y hy
    have hy2 : y = x.1 ∨ y ∈ (uFp x).tail := List.mem_cons.mp hy
    refine ⟨?_, ?_⟩
    · rcases hy2 with rfl | q
      · rw [hx]; exact hb
      · exact fun z => ht y q (List.mem_append_left _ z)
    · rcases hy2 with rfl | q
      · exact hs.1.1
      · have q : y ∈ [x.2 0, x.2 1, x.2 2, x.2 3] := q
        simp only [List.mem_cons, List.not_mem_nil, or_false] at q
        rcases q with rfl | rfl | rfl | rfl
        · exact (hs.2 0 (by omega)).2.1.1
        · exact (hs.2 1 (by omega)).2.1.1
        · exact (hs.2 2 (by omega)).2.1.1
        · exact (hs.2 3 (by omega)).2.1.1
  have hxr : ∀ y ∈ uFp x, y ≠ r := fun y hy e => (hxl y hy).1 (e ▸ v3.1)
  have kI : ∀ f, gI (sq S2 r us.length (some b)) f a = gI S' f a := fun f => ((e3.2 a haG' (by simpa using har)).1 f).1
  have kP : ∀ f, gP (sq S2 r us.length (some b)) f a = gP S' f a := fun f => ((e3.2 a haG' (by simpa using har)).1 f).2
  refine ⟨?_, rfl, (kP 0).trans v2, e3.gis v3, (e3.1 r v3.1).2.2.trans v4, v5, ?_, ?_, ?_, ?_⟩
  · exact v1.old e3 (fun y hy => Or.inl (by rw [List.mem_singleton.mp hy]; exact v5))
  · rw [kI, kI, kI, kI, kI, kI, kI]; exact v6
  · intro j y hj
    by_cases hl : j < us.length
    · rw [List.getElem?_append_left hl] at hj
      obtain ⟨w1, w2, w3⟩ := v7 j y hj
      have hm : ∀ c ∈ uFp y, c ∈ us.flatMap uFp := fun c hc => List.mem_flatMap.mpr ⟨y, List.mem_of_getElem? hj, hc⟩
      refine ⟨?_, w2.ex e3 (fun q => (v9 _ (hm _ List.mem_cons_self)).2.1 (List.mem_singleton.mp q)), w3.ex w2 e3 (fun c hc q => (v9 _ (hm c hc)).2.1 (List.mem_singleton.mp q))⟩
      rw [gq_sq, if_neg (fun q => by omega)]
      exact (((e12 []).2 r v3.1 (by simp)).2 j).2.trans w1
    · rw [List.getElem?_append_right (by omega)] at hj
      have hj0 : j - us.length = 0 := by
        have := (List.getElem?_eq_some_iff.mp hj).1
        simp at this
        omega
      rw [hj0] at hj
      have hj : x = y := Option.some.inj hj
      subst hj
      have ej : j = us.length := by omega
      refine ⟨by rw [gq_sq, if_pos ⟨rfl, ej⟩, hx], hs.ex (gEx.q mr) (fun q => hxr _ List.mem_cons_self (List.mem_singleton.mp q)), hz.ex hs (gEx.q mr) (fun c hc q => hxr c hc (List.mem_singleton.mp q))⟩
  · rw [List.flatMap_append, List.flatMap_cons, List.flatMap_nil, List.append_nil]
    exact List.nodup_append.mpr ⟨v8, hn, fun p hp q hq e => (hxl q hq).1 (e ▸ (v9 p hp).2.2)⟩
  · intro y hy
    rw [List.flatMap_append, List.flatMap_cons, List.flatMap_nil, List.append_nil] at hy
    rcases List.mem_append.mp hy with hy | hy
    · exact ⟨(v9 y hy).1, (v9 y hy).2.1, (e3.1 y (v9 y hy).2.2).1⟩
    · exact ⟨fun q => (hxl y hy).1 (v1.1 y q).1, hxr y hy, (hxl y hy).2⟩
def gR1 (a : Nat) (G : gG) (S : gS) (T : gT) : Option Value → gG → gS → gT → Prop := fun v G' S' T' => v = none ∧ T' = T ∧ ∃ x : gBA, x.1 = a ∧ gEx G S G' S' [a] ∧ (bFp x).Nodup ∧ (∀ r ∈ (bFp x).tail, r ∉ gL G ∧ r ∈ gL G') ∧ bSh G' S' x ∧ bZe S' x

theorem k_X1_init {ad : Nat → Nat} {a : Nat} {G : gG} {S : gS} {T : gT} (ha : gis G 0 a) : CtR ad yX1_init (Cond.code yX1_init cX1_init 2 none :: gTb) 2 31 702 [.ref a] G S T ((gR1 a G S T)) := by
  refine CtR.of rfl (Nat.le_of_ble_eq_true rfl) (fun v hv => by simp at hv; subst hv; rfl) (fun K g e hK => ?_)
  obtain ⟨rfl, -, hK2⟩ := hK
  show Xj K [] G 0 [some (.ref a), none] [] S T 31 702
  have hnm : (kM K).name = "<init>" := hK2
  have L : ∀ (k : Nat) (us : List gUA) (G' : gG) (S' : gS) (r : Nat) (T' : gT), us.length + k = 6 → T' = T → gV1 G S a r us G' S' → Xj K [] G' 50 [some (.ref a), some (.int (nI us.length))] [] S' T' (5 * k) (116 * k) := by
    intro k
    induction k with
    | zero =>
      intro us G' S' r T' hk hT hV
      have hl : us.length = 6 := hk
      obtain ⟨v1, -, v2, v3, v4, v5, v6, v7, v8, v9⟩ := hV
      refine x_iload_n 1 g dX1_init_50 rfl rfl ?_
      refine x_aload_n 0 g dX1_init_51 rfl rfl ?_
      refine x_getr g dX1_init_52 gXX1 0 0 rfl (by decide) rfl (w_tb 108 (by decide +kernel)) (v1.gis ha) v2 ?_
      refine x_lenu g dX1_init_55 v3 ?_
      refine x_eqi (nI 6) (congrArg Int32.ofNat v4) ?_
      refine x_icmp_ge 78 g dX1_init_56 (by decide) (fun _ => ?_) (fun c9 => absurd (nI_le (by omega) (by omega)) c9)
      have hw : us.flatMap uFp = (List.range 6).flatMap (fun i => uFp (us.getD i (0, fun _ => 0))) := (range6 uFp us _ hl).symm
      refine x_vretR g e dX1_init_78 ⟨rfl, hT, (a, r, fun i => us.getD i (0, fun _ => 0)), rfl, v1, ?_, ?_, ?_, ?_⟩
      · show (a :: r :: (List.range 6).flatMap (fun i => uFp (us.getD i (0, fun _ => 0)))).Nodup
        rw [← hw]
        refine List.nodup_cons.mpr ⟨fun q => ?_, List.nodup_cons.mpr ⟨fun q => (v9 r q).2.1 rfl, v8⟩⟩
        rcases List.mem_cons.mp q with q | q
        · exact v5 (q ▸ ha.1)
        · exact (v9 a q).1 ha.1
      · intro y hy
        have hy : y ∈ r :: (List.range 6).flatMap (fun i => uFp (us.getD i (0, fun _ => 0))) := hy
        rw [← hw] at hy
        rcases List.mem_cons.mp hy with rfl | hy
        · exact ⟨v5, v3.1⟩
        · exact ⟨(v9 y hy).1, (v9 y hy).2.2⟩
      · refine ⟨v1.gis ha, v2, v3, v4, fun i hi => ?_⟩
        have hg : us[i]? = some (us.getD i (0, fun _ => 0)) := by
          rw [List.getD_eq_getElem?_getD, List.getElem?_eq_getElem (by omega)]
          rfl
        exact ⟨(v7 i _ hg).1, (v7 i _ hg).2.1⟩
      · refine ⟨v6.1, v6.2.1, v6.2.2.1, v6.2.2.2.1, v6.2.2.2.2.1, v6.2.2.2.2.2.1, v6.2.2.2.2.2.2, fun i hi => ?_⟩
        have hg : us[i]? = some (us.getD i (0, fun _ => 0)) := by
          rw [List.getD_eq_getElem?_getD, List.getElem?_eq_getElem (by omega)]
          rfl
        exact (v7 i _ hg).2.2
    | succ k ih =>
      intro us G' S' r T' hk hT hV
      have hVV := hV
      obtain ⟨v1, -, v2, v3, v4, v5, v6, v7, v8, v9⟩ := hV
      refine x_iload_n 1 g dX1_init_50 rfl rfl ?_
      refine x_aload_n 0 g dX1_init_51 rfl rfl ?_
      refine x_getr g dX1_init_52 gXX1 0 0 rfl (by decide) rfl (w_tb 108 (by decide +kernel)) (v1.gis ha) v2 ?_
      refine x_lenu g dX1_init_55 v3 ?_
      refine x_eqi (nI 6) (congrArg Int32.ofNat v4) ?_
      refine x_icmp_ge 78 g dX1_init_56 (by decide) (fun c9 => absurd c9 (nI_ge (by omega) (by omega))) (fun _ => ?_)
      · show Xj K [] G' 59 [some (.ref a), some (.int (nI us.length))] [] S' T' (5 * k + 4 + 1) (116 * k + 104 + 12)
        refine x_aload_n 0 g dX1_init_59 rfl rfl ?_
        refine x_getr g dX1_init_60 gXX1 0 0 rfl (by decide) rfl (w_tb 108 (by decide +kernel)) (v1.gis ha) v2 ?_
        refine x_iload_n 1 g dX1_init_63 rfl rfl ?_
        refine x_newo (c0 := 5 * k + 4) (s0 := 116 * k + 104) g dX1_init_64 gXX4 (w_tb 45 (by decide +kernel)) (w_tb 47 (by decide +kernel)) (w_tb 3 (by decide +kernel)) (by intro j hj; rcases (by omega : j = 0 ∨ j = 1 ∨ j = 2 ∨ j = 3 ∨ j = 4 ∨ j = 5 ∨ j = 6 ∨ j = 7 ∨ j = 8 ∨ j = 9 ∨ j = 10 ∨ j = 11) with rfl | rfl | rfl | rfl | rfl | rfl | rfl | rfl | rfl | rfl | rfl | rfl <;> rfl) (fun b hb => ?_)
        refine x_dup g dX1_init_67 rfl ?_
        refine x_callINR (host := "UmbrellaSchool") (rest := [.ref b, .int (nI us.length), .ref r]) (As := []) g (k_X4_init gis_add (fun f => if_pos rfl)) ca_X4_init rfl (w_tb 49 (by decide +kernel)) ln_X1_39 (Nat.le_of_ble_eq_true rfl) (by omega) (by omega) rfl rfl (Nat.le_of_ble_eq_true rfl) dX1_init_68 (fun v G2 S2 T2 hR => ?_)
        obtain ⟨rfl, rfl, x, hx1, hx2, hx3, hx4, hx5, hx6⟩ := hR
        show Xj K [] G2 71 _ [.ref b, .int (nI us.length), .ref r] S2 _ _ _
        rw [Nat.add_sub_cancel, Nat.add_sub_cancel]
        have v3b : gis G2 9 r := hx2.gis (gis_old hb v3)
        have v4b : gn G2 r = 6 := ((hx2.1 r (List.mem_append_left _ v3.1)).2.2.trans (gn_old hb v3.1)).trans v4
        refine x_astu g dX1_init_71 v3b (by rw [v4b]; exact vp_in_nI (by omega) (by omega)) (by rw [← hx1]; exact hx5.1) ?_
        rw [nI_clamp (by omega)]
        refine x_iinc (v := nI (us.length + 1)) g dX1_init_72 rfl (nI_1 _) rfl ?_
        refine x_goto 50 g dX1_init_75 (by decide) ?_
        have hs := hVV.step (T := T) (T2 := T) ha.1 hb hx1 hx2 hx3 hx4 hx5 hx6
        have hh := ih (us ++ [x]) G2 _ r _ (by rw [List.length_append, List.length_singleton]; omega) hT hs
        rw [List.length_append, List.length_singleton] at hh
        exact hh
  refine x_aload_n 0 g dX1_init_0 rfl rfl ?_
  refine x_oinit g dX1_init_1 (w_tb 44 (by decide +kernel)) (by decide) (Nat.le_of_ble_eq_true rfl) ?_
  refine x_aload_n 0 g dX1_init_4 rfl rfl ?_
  refine x_bipush (v := 6) g dX1_init_5 (by decide) ?_
  refine x_newq (t := 4) (N := 6) (c0 := 30) (s0 := 696) 9 g dX1_init_7 (w_tb 45 (by decide +kernel)) (List.mem_cons_self) (fun _ => rfl) (fun _ _ _ _ h => gce_u h) (by decide) (by decide) (by decide) (fun r hr => ?_)
  have ha1 := gis_old (kd := 9) (n := 6) hr ha
  refine x_putF g hnm dX1_init_10 gXX1 0 0 rfl (by decide) rfl rfl (w_tb 108 (by decide +kernel)) rfl rfl ha1 ?_
  refine x_aload_n 0 g dX1_init_13 rfl rfl ?_
  refine x_iconst (v := 0) g dX1_init_14 (by decide) ?_
  refine x_puti g dX1_init_15 gXX1 1 0 rfl (by decide) rfl rfl (w_tb 109 (by decide +kernel)) rfl rfl ha1 ?_
  refine x_aload_n 0 g dX1_init_18 rfl rfl ?_
  refine x_iconst (v := 2) g dX1_init_19 (by decide) ?_
  refine x_puti g dX1_init_20 gXX1 2 1 rfl (by decide) rfl rfl (w_tb 111 (by decide +kernel)) rfl rfl ha1 ?_
  refine x_aload_n 0 g dX1_init_23 rfl rfl ?_
  refine x_iconst (v := 3) g dX1_init_24 (by decide) ?_
  refine x_puti g dX1_init_25 gXX1 3 2 rfl (by decide) rfl rfl (w_tb 113 (by decide +kernel)) rfl rfl ha1 ?_
  refine x_aload_n 0 g dX1_init_28 rfl rfl ?_
  refine x_iconst (v := 0) g dX1_init_29 (by decide) ?_
  refine x_puti g dX1_init_30 gXX1 4 3 rfl (by decide) rfl rfl (w_tb 115 (by decide +kernel)) rfl rfl ha1 ?_
  refine x_aload_n 0 g dX1_init_33 rfl rfl ?_
  refine x_iconst (v := 0) g dX1_init_34 (by decide) ?_
  refine x_puti g dX1_init_35 gXX1 5 4 rfl (by decide) rfl rfl (w_tb 117 (by decide +kernel)) rfl rfl ha1 ?_
  refine x_aload_n 0 g dX1_init_38 rfl rfl ?_
  refine x_iconst (v := 0) g dX1_init_39 (by decide) ?_
  refine x_puti g dX1_init_40 gXX1 6 5 rfl (by decide) rfl rfl (w_tb 119 (by decide +kernel)) rfl rfl ha1 ?_
  refine x_aload_n 0 g dX1_init_43 rfl rfl ?_
  refine x_iconst (v := 0) g dX1_init_44 (by decide) ?_
  refine x_puti g dX1_init_45 gXX1 7 6 rfl (by decide) rfl rfl (w_tb 120 (by decide +kernel)) rfl rfl ha1 ?_
  refine x_iconst (v := 0) g dX1_init_48 (by decide) ?_
  refine x_istore_n 1 g dX1_init_49 rfl (Nat.le_of_ble_eq_true rfl) rfl ?_
  refine L 6 [] _ _ r T rfl rfl ?_
  have ar := gne hr ha.1
  have m : a ∈ [a] := List.mem_cons_self
  refine ⟨(((((((gEx.new hr).trans (gEx.P m)).trans (gEx.I m)).trans (gEx.I m)).trans (gEx.I m)).trans (gEx.I m)).trans (gEx.I m)).trans (gEx.I m) |>.trans (gEx.I m), rfl, ?_, gis_add, gn_add, hr, ?_, fun j x h => by simp at h, List.nodup_nil, fun y hy => by simp at hy⟩
  · simp [gP_sI, gP_sP, gP_sZ]
  · simp [gI_sI, gI_sP, gI_sZ]

theorem x_PtoT {K : gKx} {PX : va_W} {G : gG} {pc a b : Nat} {lv : List (Option Value)} {st : List Value} {S : gS} {T : gT} {c0 s0 : Nat} (ha : a ∉ gL G) (hb : b ∉ gL (gadd G a 4 0)) (h20 : gP S 20 a = some b) (h50 : gI S 50 a = 0) (h52 : gI S 52 a = 0) (hr : gr S b = fun _ => 0)
    (k : Xj K PX G pc lv st S ((a, 16, []) :: T) c0 s0) : Xj K PX (gadd (gadd G a 4 0) b 5 16) pc lv st S T c0 s0 := by
  intro H locs cells slots ls Z h
  obtain ⟨hZ, hP, hD, hr2⟩ := h
  obtain ⟨nb, nba⟩ := nadd hb
  have ew : gw (ky K) (gadd (gadd G a 4 0) b 5 16) S = gw (ky K) G S ++ [(a, .inr (1, [.ref b, .int 0, .int (gI S 51 a), .int (nI 0)])), (b, .inl ((ky K).1 0, 16, .inl (fun _ => 0)))] := by
    show va_pl ((gL G ++ [a]) ++ [b]) (gce (ky K) (gadd (gadd G a 4 0) b 5 16) S) = _
    unfold va_pl
    rw [List.map_append, List.map_append, List.append_assoc]
    have e1 : gK (gadd (gadd G a 4 0) b 5 16) a = 4 := (if_neg (fun q => nba q.symm)).trans (if_pos rfl)
    have e2 : gK (gadd (gadd G a 4 0) b 5 16) b = 5 := if_pos rfl
    have e3 : gn (gadd (gadd G a 4 0) b 5 16) b = 16 := if_pos rfl
    congr 1
    · refine List.map_congr_left (fun x hx => ?_)
      have x1 : x ≠ b := gne nb hx
      have x2 : x ≠ a := gne ha hx
      have f1 : gK (gadd (gadd G a 4 0) b 5 16) x = gK G x := (if_neg x1).trans (if_neg x2)
      have f2 : gn (gadd (gadd G a 4 0) b 5 16) x = gn G x := (if_neg x1).trans (if_neg x2)
      unfold gce gar
      rw [f1, f2]
    · show [(a, gce (ky K) _ S a)] ++ [(b, gce (ky K) _ S b)] = _
      rw [gce_obj (ci := 1) (fl := [.inr 20, .inl 50, .inl 51, .inl 52]) (by rw [e1]; rfl), gce_y e2, e3, hr]
      have e4 : [Sum.inr 20, Sum.inl 50, Sum.inl 51, Sum.inl 52].map (gfv S a) = [Value.ref b, .int 0, .int (gI S 51 a), .int (nI 0)] := by
        show [va_rf (gP S 20 a), .int (gI S 50 a), .int (gI S 51 a), .int (gI S 52 a)] = _
        rw [h20, h50, h52, nI_0]
        rfl
      rw [e4]
      rfl
  have pm : ((PX ++ Z) ++ gw (ky K) (gadd (gadd G a 4 0) b 5 16) S).Perm ((PX ++ ((a, .inr (1, [.ref b, .int 0, .int (gI S 51 a), .int (nI 0)])) :: (b, .inl ((ky K).1 0, 16, .inl (fun _ => 0))) :: Z)) ++ gw (ky K) G S) := by
    rw [ew]
    show ((PX ++ Z) ++ (gw (ky K) G S ++ [_, _])).Perm ((PX ++ ([_, _] ++ Z)) ++ gw (ky K) G S)
    simp only [List.append_assoc]
    refine List.Perm.append_left PX ?_
    rw [← List.append_assoc Z]
    exact List.perm_append_comm
  exact k H locs cells slots ls _ ⟨⟨b, gI S 51 a, fun _ => 0, Z, rfl, Nat.zero_le _, by decide, fun j hj => absurd hj (Nat.not_lt_zero j), sb_fit0, hZ⟩, gP_perm pm hP, gD_perm pm hD, hr2⟩
def gR45 (a : Nat) (G : gG) (S : gS) (T : gT) : Option Value → gG → gS → gT → Prop := fun v G' S' T' => v = none ∧ T' = T ∧ ∃ b : Nat, b ∉ gL G ∧ G' = gadd G b 5 16 ∧ gP S' 20 a = some b ∧ gI S' 50 a = 0 ∧ gI S' 52 a = gI S 52 a ∧ gr S' b = (fun _ => 0) ∧ gEx G S G' S' [a]
theorem bFp_u {x : gBA} {i c : Nat} (hi : i < 6) (hc : c ∈ uFp (x.2.2 i)) : c ∈ bFp x := List.mem_cons_of_mem _ (List.mem_cons_of_mem _ (List.mem_flatMap.mpr ⟨i, List.mem_range.mpr hi, hc⟩))
theorem bSh.ex {G G' : gG} {S S' : gS} {X : List Nat} {x : gBA} (h : bSh G S x) (e : gEx G S G' S' X) (hX : ∀ y ∈ bFp x, y ∉ X) : bSh G' S' x := by
  obtain ⟨h1, h2, h3, h4, h5⟩ := h
  refine ⟨e.gis h1, ((e.2 _ h1.1 (hX _ List.mem_cons_self)).1 0).2.trans h2, e.gis h3, (e.1 _ h3.1).2.2.trans h4, fun i hi => ⟨((e.2 _ h3.1 (hX _ (List.mem_cons_of_mem _ List.mem_cons_self))).2 i).2.trans (h5 i hi).1, (h5 i hi).2.ex e (hX _ (bFp_u hi List.mem_cons_self))⟩⟩
theorem bZe.ex {G G' : gG} {S S' : gS} {X : List Nat} {x : gBA} (hs : bSh G S x) (h : bZe S x) (e : gEx G S G' S' X) (hX : ∀ y ∈ bFp x, y ∉ X) : bZe S' x := by
  have k := fun f => ((e.2 _ hs.1.1 (hX _ List.mem_cons_self)).1 f).1
  obtain ⟨h1, h2, h3, h4, h5, h6, h7, h8⟩ := h
  exact ⟨(k 0).trans h1, (k 1).trans h2, (k 2).trans h3, (k 3).trans h4, (k 4).trans h5, (k 5).trans h6, (k 6).trans h7, fun i hi => (h8 i hi).ex (hs.2.2.2.2 i hi).2 e (fun y hy => hX y (bFp_u hi hy))⟩
/-- books made so far -/
def gVB (G : gG) (S : gS) (a : Nat) (bs : List gBA) (G' : gG) (S' : gS) : Prop := gEx G S G' S' [a] ∧ (∀ x ∈ bs, bSh G' S' x ∧ bZe S' x) ∧ (bs.flatMap bFp).Nodup ∧ ∀ y ∈ bs.flatMap bFp, y ∉ gL G ∧ y ∈ gL G'
theorem gVB.ex {G G' G2 : gG} {S S' S2 : gS} {a : Nat} {bs : List gBA} {X : List Nat} (h : gVB G S a bs G' S') (e : gEx G' S' G2 S2 X) (hX : ∀ y ∈ X, y ∉ gL G ∨ y ∈ [a]) (hB : ∀ y ∈ X, y ∉ bs.flatMap bFp) : gVB G S a bs G2 S2 :=
  ⟨h.1.old e hX, fun x hx => ⟨(h.2.1 x hx).1.ex e (fun y hy q => hB y q (List.mem_flatMap.mpr ⟨x, hx, hy⟩)), (h.2.1 x hx).2.ex (h.2.1 x hx).1 e (fun y hy q => hB y q (List.mem_flatMap.mpr ⟨x, hx, hy⟩))⟩, h.2.2.1, fun y hy => ⟨(h.2.2.2 y hy).1, (e.1 y (h.2.2.2 y hy).2).1⟩⟩
theorem gVB.book {G G' G2 : gG} {S S' S2 : gS} {a b : Nat} {bs : List gBA} {x : gBA} (h : gVB G S a bs G' S') (hb : b ∉ gL G') (hx : x.1 = b) (e2 : gEx (gadd G' b 0 0) (sZ S' b) G2 S2 [b]) (hn : (bFp x).Nodup) (ht : ∀ y ∈ (bFp x).tail, y ∉ gL (gadd G' b 0 0) ∧ y ∈ gL G2) (hs : bSh G2 S2 x) (hz : bZe S2 x) : gVB G S a (bs ++ [x]) G2 S2 ∧ ∀ X, gEx G' S' G2 S2 X := by
  have e12 : ∀ X : List Nat, gEx G' S' G2 S2 X := fun X => (gEx.new hb).old e2 (fun y hy => Or.inl (by rw [List.mem_singleton.mp hy]; exact hb))
  have h1 := h.ex (e12 []) (fun y hy => by cases hy) (fun y hy => by cases hy)
  have hxl : ∀ y ∈ bFp x, y ∉ gL G' ∧ y ∈ gL G2 := by
    intro y hy
    have hy2 : y = x.1 ∨ y ∈ (bFp x).tail := List.mem_cons.mp hy
    rcases hy2 with rfl | q
    · exact ⟨by rw [hx]; exact hb, hs.1.1⟩
    · exact ⟨fun z => (ht y q).1 (List.mem_append_left _ z), (ht y q).2⟩
  refine ⟨⟨h1.1, fun z hz' => ?_, ?_, ?_⟩, e12⟩
  · rcases List.mem_append.mp hz' with q | q
    · exact h1.2.1 z q
    · rw [List.mem_singleton.mp q]
      exact ⟨hs, hz⟩
  · rw [List.flatMap_append, List.flatMap_cons, List.flatMap_nil, List.append_nil]
    exact List.nodup_append.mpr ⟨h1.2.2.1, hn, fun p hp q hq e => (hxl q hq).1 (e ▸ (h.2.2.2 p hp).2)⟩
  · intro y hy
    rw [List.flatMap_append, List.flatMap_cons, List.flatMap_nil, List.append_nil] at hy
    rcases List.mem_append.mp hy with hy | hy
    · exact h1.2.2.2 y hy
    · exact ⟨fun q => (hxl y hy).1 (h.1.1 y q).1, (hxl y hy).2⟩
/-- a new school -/
def gR5 (a : Nat) (G : gG) (S : gS) (T : gT) : Option Value → gG → gS → gT → Prop := fun v G' S' T' => v = none ∧ ∃ (bs : List gBA) (hi s1 s2 : Nat), bs.length = 11 ∧ T' = (s2, 16, []) :: (s1, 16, []) :: T ∧ s1 ≠ s2 ∧ gVB G S a bs G' S' ∧ hi ∉ gL G ∧ hi ∉ bs.flatMap bFp ∧ gis G' 8 hi ∧ gn G' hi = 9 ∧
  (gP S' 5 a = (bs[0]?).map Prod.fst ∧ gP S' 6 a = (bs[1]?).map Prod.fst ∧ gP S' 7 a = some hi ∧ gP S' 8 a = some s1 ∧ gP S' 9 a = some s2) ∧ (gI S' 20 a = 0 ∧ gI S' 21 a = 0 ∧ gI S' 22 a = -1 ∧ gI S' 23 a = -1) ∧ ∀ i, i < 9 → gq S' hi i = (bs[2 + i]?).map Prod.fst

theorem k_J5_init {ad : Nat → Nat} {a : Nat} {G : gG} {S : gS} {T : gT} (ha : gis G 4 a) : CtR ad yJ5_init_d00df (Cond.code yJ5_init_d00df cJ5_init_d00df 2 none :: gTb) 1 1 16 [.ref a, .int 16] G S T ((gR45 a G S T)) := by
  refine CtR.of rfl (Nat.le_of_ble_eq_true rfl) (fun v hv => by simp at hv; rcases hv with rfl | rfl <;> rfl) (fun K g e hK => ?_)
  obtain ⟨rfl, -⟩ := hK
  show Xj K [] G 0 [some (.ref a), some (.int 16)] [] S T 1 16
  refine x_aload_n 0 g dJ5_init_d00df_0 rfl rfl ?_
  refine x_oinit g dJ5_init_d00df_1 (w_tb 147 (by decide +kernel)) (by decide) (Nat.le_of_ble_eq_true rfl) ?_
  refine x_gst g dJ5_init_d00df_4 (hzCS g) (w_tb 148 (by decide +kernel)) ?_
  refine x_if_eq 25 g dJ5_init_d00df_7 (by decide) (fun c => absurd c (by decide)) (fun _ => ?_)
  refine x_aload_n 0 g dJ5_init_d00df_10 rfl rfl ?_
  refine x_iload_n 1 g dJ5_init_d00df_11 rfl rfl ?_
  refine x_newa (t := 0) (ty := .byte) (N := 16) (c0 := 0) (s0 := 0) 5 g dJ5_init_d00df_12 (w_tb 171 (by decide +kernel)) rfl (fun _ => rfl) (fun _ _ _ _ h => gce_y h) rfl (by decide) (by decide) (by decide) (fun b hb => ?_)
  refine x_putrS g dJ5_init_d00df_14 gXJ4 0 20 rfl (by decide) rfl (w_tb 157 (by decide +kernel)) rfl rfl (gis_old hb ha) ?_
  refine x_aload_n 0 g dJ5_init_d00df_17 rfl rfl ?_
  refine x_iconst (v := 0) g dJ5_init_d00df_18 (by decide) ?_
  refine x_putiS g dJ5_init_d00df_19 gXJ4 1 50 rfl (by decide) rfl (w_tb 158 (by decide +kernel)) rfl rfl (gis_old hb ha) ?_
  refine x_goto 38 g dJ5_init_d00df_22 (by decide) ?_
  have ab := gne hb ha.1
  have m : a ∈ [a] := List.mem_cons_self
  refine x_vretR g e dJ5_init_d00df_38 ⟨rfl, rfl, b, hb, rfl, ?_, ?_, ?_, ?_, ((gEx.new hb).trans (gEx.P m)).trans (gEx.I m)⟩
  · simp [gP_sI, gP_sP]
  · simp [gI_sI]
  · simp [gI_sI, gI_sP, gI_sZ, ab]
  · funext i; simp [gr_sI, gr_sP, gr_sZ]

theorem k_J4_init {ad : Nat → Nat} {a : Nat} {G : gG} {S : gS} {T : gT} (ha : gis G 4 a) : CtR ad yJ4_init_da8c8 (Cond.code yJ4_init_da8c8 cJ4_init_da8c8 1 none :: gTb) 2 1 16 [.ref a] G S T ((gR45 a G S T)) := by
  refine CtR.of rfl (Nat.le_of_ble_eq_true rfl) (fun v hv => by simp at hv; subst hv; rfl) (fun K g e hK => ?_)
  obtain ⟨rfl, -⟩ := hK
  show Xj K [] G 0 [some (.ref a)] [] S T 1 16
  refine x_aload_n 0 g dJ4_init_da8c8_0 rfl rfl ?_
  refine x_bipush (v := 16) g dJ4_init_da8c8_1 (by decide) ?_
  refine x_callIR (rest := []) (As := [.int 16]) g (k_J5_init ha) ca_J5_init_d00df rfl in_J5_init_d00df lm_J4_1 (Nat.le_of_ble_eq_true rfl) (Nat.le_refl _) (Nat.le_refl _) rfl rfl (Nat.le_of_ble_eq_true rfl) dJ4_init_da8c8_3 (fun v G2 S2 T2 hR => ?_)
  obtain ⟨rfl, hR⟩ := hR
  show Xj K [] G2 6 _ [] S2 T2 _ _
  exact x_vretR g e dJ4_init_da8c8_6 ⟨rfl, hR⟩

theorem gEx.sb {G G' : gG} {S S' : gS} {X : List Nat} {s : Nat} (hs : s ∉ gL G) (e : gEx (gadd G s 4 0) (sZ S s) G' S' [s]) : gEx G S G S' X := by
  refine ⟨fun _ h => ⟨h, rfl, rfl⟩, fun c hc _ => ?_⟩
  have hcs : c ≠ s := gne hs hc
  have h := e.2 c (List.mem_append_left _ hc) (by simpa using hcs)
  exact ⟨fun f => ⟨(h.1 f).1.trans (if_neg hcs), (h.1 f).2.trans (if_neg hcs)⟩, fun i => ⟨(h.2 i).1.trans (if_neg hcs), (h.2 i).2.trans (if_neg hcs)⟩⟩
theorem gVB.na {G G' : gG} {S S' : gS} {a : Nat} {bs : List gBA} (h : gVB G S a bs G' S') (ha : a ∈ gL G) : ∀ y ∈ [a], y ∉ bs.flatMap bFp := fun y hy q => (h.2.2.2 y q).1 (by rw [List.mem_singleton.mp hy]; exact ha)
theorem map_get {α β : Type} {f : α → β} {l : List α} {x : α} {j : Nat} : ((l ++ [x])[j]?).map f = if j = l.length then some (f x) else (l[j]?).map f := by
  by_cases e : j = l.length
  · subst e
    rw [if_pos rfl, List.getElem?_append_right (Nat.le_refl _), Nat.sub_self]
    rfl
  · rw [if_neg e]
    by_cases hl : j < l.length
    · rw [List.getElem?_append_left hl]
    · rw [List.getElem?_eq_none (by rw [List.length_append, List.length_singleton]; omega), List.getElem?_eq_none (by omega)]

theorem k_X5_init {ad : Nat → Nat} {a : Nat} {G : gG} {S : gS} {T : gT} (ha : gis G 2 a) : CtR ad yX5_init (Cond.code yX5_init cX5_init 2 none :: gTb) 3 357 7859 [.ref a] G S T ((gR5 a G S T)) := by
  refine CtR.of rfl (Nat.le_of_ble_eq_true rfl) (fun v hv => by simp at hv; subst hv; rfl) (fun K g e hK => ?_)
  obtain ⟨rfl, -, hK2⟩ := hK
  show Xj K [] G 0 [some (.ref a), none] [] S T 357 7859
  have hnm : (kM K).name = "<init>" := hK2
  have m : a ∈ [a] := List.mem_cons_self
  have L : ∀ (k i : Nat) (bs : List gBA) (G' : gG) (S' : gS) (T' : gT) (hi s1 s2 : Nat), i + k = 9 → bs.length = 2 + i → T' = (s2, 16, []) :: (s1, 16, []) :: T → s1 ≠ s2 → gVB G S a bs G' S' → hi ∉ gL G → hi ∉ bs.flatMap bFp → gis G' 8 hi → gn G' hi = 9 →
      (gP S' 5 a = (bs[0]?).map Prod.fst ∧ gP S' 6 a = (bs[1]?).map Prod.fst ∧ gP S' 7 a = some hi ∧ gP S' 8 a = some s1 ∧ gP S' 9 a = some s2) → (gI S' 20 a = 0 ∧ gI S' 21 a = 0 ∧ gI S' 22 a = -1 ∧ gI S' 23 a = -1) → (∀ j, j < i → gq S' hi j = (bs[2 + j]?).map Prod.fst) →
      Xj K [] G' 79 [some (.ref a), some (.int (nI i))] [] S' T' (32 * k) (710 * k) := by
    intro k
    induction k with
    | zero =>
      intro i bs G' S' T' hi s1 s2 hk hl hT hs V hh0 hh1 hh hn9 hP hI hq
      have p7 := hP.2.2.1
      obtain rfl : i = 9 := hk
      refine x_iload_n 1 g dX5_init_79 rfl rfl ?_
      refine x_aload_n 0 g dX5_init_80 rfl rfl ?_
      refine x_getr g dX5_init_81 gXX5 2 7 rfl (by decide) rfl (w_tb 174 (by decide +kernel)) (V.1.gis ha) p7 ?_
      refine x_lenb g dX5_init_84 hh ?_
      refine x_eqi (nI 9) (congrArg Int32.ofNat hn9) ?_
      refine x_icmp_ge 107 g dX5_init_85 (by decide) (fun _ => ?_) (fun c9 => absurd (nI_le (by omega) (by decide)) c9)
      exact x_vretR g e dX5_init_107 ⟨rfl, bs, hi, s1, s2, hl, hT, hs, V, hh0, hh1, hh, hn9, hP, hI, hq⟩
    | succ k ih =>
      intro i bs G' S' T' hi s1 s2 hk hl hT hs V hh0 hh1 hh hn9 hP hI hq
      have p7 := hP.2.2.1
      refine x_iload_n 1 g dX5_init_79 rfl rfl ?_
      refine x_aload_n 0 g dX5_init_80 rfl rfl ?_
      refine x_getr g dX5_init_81 gXX5 2 7 rfl (by decide) rfl (w_tb 174 (by decide +kernel)) (V.1.gis ha) p7 ?_
      refine x_lenb g dX5_init_84 hh ?_
      refine x_eqi (nI 9) (congrArg Int32.ofNat hn9) ?_
      refine x_icmp_ge 107 g dX5_init_85 (by decide) (fun c9 => absurd c9 (nI_ge (by omega) (by omega))) (fun _ => ?_)
      show Xj K [] G' 88 [some (.ref a), some (.int (nI i))] [] S' T' (32 * k + 31 + 1) (710 * k + 702 + 8)
      refine x_aload_n 0 g dX5_init_88 rfl rfl ?_
      refine x_getr g dX5_init_89 gXX5 2 7 rfl (by decide) rfl (w_tb 174 (by decide +kernel)) (V.1.gis ha) p7 ?_
      refine x_iload_n 1 g dX5_init_92 rfl rfl ?_
      refine x_newo (c0 := 32 * k + 31) (s0 := 710 * k + 702) g dX5_init_93 gXX1 (w_tb 39 (by decide +kernel)) (w_tb 40 (by decide +kernel)) (w_tb 2 (by decide +kernel)) (by intro j hj; rcases (by omega : j = 0 ∨ j = 1 ∨ j = 2 ∨ j = 3 ∨ j = 4 ∨ j = 5 ∨ j = 6 ∨ j = 7) with rfl | rfl | rfl | rfl | rfl | rfl | rfl | rfl <;> rfl) (fun b1 hb1 => ?_)
      refine x_dup g dX5_init_96 rfl ?_
      refine x_callIR (rest := [.ref b1, .int (nI i), .ref hi]) (As := []) g (k_X1_init gis_add) ca_X1_init rfl (w_tb 42 (by decide +kernel)) (w_tb 41 (by decide +kernel)) (Nat.le_of_ble_eq_true rfl) (by omega) (by omega) rfl rfl (Nat.le_of_ble_eq_true rfl) dX5_init_97 (fun v G1 S1 T1 hR => ?_)
      obtain ⟨rfl, rfl, x1, hx1, e1, n1, t1, sb1, z1⟩ := hR
      show Xj K [] G1 100 _ ([.ref b1, .int (nI i), .ref hi]) S1 _ _ _
      obtain ⟨V1, E1⟩ := gVB.book V hb1 hx1 e1 n1 t1 sb1 z1
      rw [Nat.add_sub_cancel, Nat.add_sub_cancel]
      have haG : a ∈ gL G' := (V.1.1 a ha.1).1
      have hh' : gis G1 8 hi := (E1 []).gis hh
      have hn' : gn G1 hi = 9 := (((E1 []).1 hi hh.1).2.2).trans hn9
      refine x_astb g dX5_init_100 hh' (by rw [hn']; exact vp_in_nI (by omega) (by omega)) (by rw [← hx1]; exact sb1.1) ?_
      rw [nI_clamp (by omega)]
      refine x_iinc (v := nI (i + 1)) g dX5_init_101 rfl (nI_1 _) rfl ?_
      refine x_goto 79 g dX5_init_104 (by decide) ?_
      have hx1m : hi ∉ bFp x1 := by
        intro q
        rcases List.mem_cons.mp q with q | q
        · exact hb1 (by rw [← hx1, ← q]; exact hh.1)
        · exact (t1 hi q).1 (List.mem_append_left _ hh.1)
      have hha : hi ≠ a := fun q => hh0 (q ▸ ha.1)
      have ka := (E1 []).2 a haG (by simp)
      have kh := (E1 []).2 hi hh.1 (by simp)
      refine ih (i + 1) (bs ++ [x1]) G1 _ _ hi s1 s2 (by omega) (by rw [List.length_append, List.length_singleton]; omega) hT hs (V1.ex (gEx.q (List.mem_cons_self)) (fun y hy => Or.inl (by rw [List.mem_singleton.mp hy]; exact hh0)) (fun y hy q => ?_)) hh0 ?_ hh' hn' ?_ ?_ (fun j hj => ?_)
      · rw [List.mem_singleton.mp hy, List.flatMap_append, List.flatMap_cons, List.flatMap_nil, List.append_nil] at q
        exact (List.mem_append.mp q).elim hh1 hx1m
      · rw [List.flatMap_append, List.flatMap_cons, List.flatMap_nil, List.append_nil]
        exact fun q => (List.mem_append.mp q).elim hh1 hx1m
      · rw [List.getElem?_append_left (by omega), List.getElem?_append_left (by omega)]
        exact ⟨(ka.1 5).2.trans hP.1, (ka.1 6).2.trans hP.2.1, (ka.1 7).2.trans hP.2.2.1, (ka.1 8).2.trans hP.2.2.2.1, (ka.1 9).2.trans hP.2.2.2.2⟩
      · exact ⟨(ka.1 20).1.trans hI.1, (ka.1 21).1.trans hI.2.1, (ka.1 22).1.trans hI.2.2.1, (ka.1 23).1.trans hI.2.2.2⟩
      · rw [gq_sq, map_get]
        by_cases ej : j = i
        · rw [if_pos ⟨rfl, ej⟩, if_pos (by omega), hx1]
        · rw [if_neg (fun q => ej q.2), if_neg (by omega)]
          exact ((kh.2 j).2).trans (hq j (by omega))
  have V0 : gVB G S a [] G S := ⟨gEx.refl, fun x hx => (by cases hx), List.nodup_nil, fun y hy => (by cases hy)⟩
  refine x_aload_n 0 g dX5_init_0 rfl rfl ?_
  refine x_oinit g dX5_init_1 (w_tb 36 (by decide +kernel)) (by decide) (Nat.le_of_ble_eq_true rfl) ?_
  refine x_aload_n 0 g dX5_init_4 rfl rfl ?_
  refine x_newo (c0 := 356) (s0 := 7851) g dX5_init_5 gXX1 (w_tb 39 (by decide +kernel)) (w_tb 40 (by decide +kernel)) (w_tb 2 (by decide +kernel)) (by intro j hj; rcases (by omega : j = 0 ∨ j = 1 ∨ j = 2 ∨ j = 3 ∨ j = 4 ∨ j = 5 ∨ j = 6 ∨ j = 7) with rfl | rfl | rfl | rfl | rfl | rfl | rfl | rfl <;> rfl) (fun b1 hb1 => ?_)
  refine x_dup g dX5_init_8 rfl ?_
  refine x_callIR (rest := [.ref b1, .ref a]) (As := []) g (k_X1_init gis_add) ca_X1_init rfl (w_tb 42 (by decide +kernel)) (w_tb 41 (by decide +kernel)) (Nat.le_of_ble_eq_true rfl) (by omega) (by omega) rfl rfl (Nat.le_of_ble_eq_true rfl) dX5_init_9 (fun v G1 S1 T1 hR => ?_)
  obtain ⟨rfl, rfl, x1, hx1, e1, n1, t1, sb1, z1⟩ := hR
  show Xj K [] G1 12 _ ([.ref b1, .ref a]) S1 _ 325 7149
  obtain ⟨V1, E1⟩ := gVB.book V0 hb1 hx1 e1 n1 t1 sb1 z1
  refine x_putF g hnm dX5_init_12 gXX5 0 5 rfl (by decide) rfl rfl (w_tb 172 (by decide +kernel)) rfl rfl (V1.1.gis ha) ?_
  replace V1 := V1.ex (gEx.P (f := 5) (v := some b1) m) (fun y hy => Or.inr hy) (V1.na ha.1)
  have a5 : gP (sP S1 5 a (some b1)) 5 a = some b1 := by rw [gP_sP, if_pos ⟨rfl, rfl⟩]
  revert V1 a5
  generalize sP S1 5 a (some b1) = S1'
  intro V1 a5
  refine x_aload_n 0 g dX5_init_15 rfl rfl ?_
  refine x_newo (c0 := 324) (s0 := 7141) g dX5_init_16 gXX1 (w_tb 39 (by decide +kernel)) (w_tb 40 (by decide +kernel)) (w_tb 2 (by decide +kernel)) (by intro j hj; rcases (by omega : j = 0 ∨ j = 1 ∨ j = 2 ∨ j = 3 ∨ j = 4 ∨ j = 5 ∨ j = 6 ∨ j = 7) with rfl | rfl | rfl | rfl | rfl | rfl | rfl | rfl <;> rfl) (fun b2 hb2 => ?_)
  refine x_dup g dX5_init_19 rfl ?_
  refine x_callIR (rest := [.ref b2, .ref a]) (As := []) g (k_X1_init gis_add) ca_X1_init rfl (w_tb 42 (by decide +kernel)) (w_tb 41 (by decide +kernel)) (Nat.le_of_ble_eq_true rfl) (by omega) (by omega) rfl rfl (Nat.le_of_ble_eq_true rfl) dX5_init_20 (fun v G2 S2 T2 hR => ?_)
  obtain ⟨rfl, rfl, x2, hx2, e2, n2, t2, sb2, z2⟩ := hR
  show Xj K [] G2 23 _ ([.ref b2, .ref a]) S2 _ 293 6439
  obtain ⟨V2, E2⟩ := gVB.book V1 hb2 hx2 e2 n2 t2 sb2 z2
  replace a5 := ((E2 []).2 a (V1.1.1 a ha.1).1 (by simp)).1 5 |>.2.trans a5
  refine x_putF g hnm dX5_init_23 gXX5 1 6 rfl (by decide) rfl rfl (w_tb 173 (by decide +kernel)) rfl rfl (V2.1.gis ha) ?_
  replace V2 := V2.ex (gEx.P (f := 6) (v := some b2) m) (fun y hy => Or.inr hy) (V2.na ha.1)
  replace a5 : gP (sP S2 6 a (some b2)) 5 a = some b1 := by rw [gP_sP, if_neg (by omega)]; exact a5
  have a6 : gP (sP S2 6 a (some b2)) 6 a = some b2 := by rw [gP_sP, if_pos ⟨rfl, rfl⟩]
  revert V2 a5 a6
  generalize sP S2 6 a (some b2) = S2'
  intro V2 a5 a6
  have haG2 : a ∈ gL G2 := (V2.1.1 a ha.1).1
  refine x_aload_n 0 g dX5_init_26 rfl rfl ?_
  refine x_bipush (v := 9) g dX5_init_27 (by decide) ?_
  refine x_newq (t := 3) (N := 9) (c0 := 292) (s0 := 6430) 8 g dX5_init_29 (w_tb 39 (by decide +kernel)) (List.mem_cons_of_mem _ List.mem_cons_self) (fun _ => rfl) (fun _ _ _ _ h => gce_b h) (by decide) (by decide) (by decide) (fun hi hhi => ?_)
  have V3 := V2.ex (gEx.new (X := []) (kd := 8) (n := 9) hhi) (fun y hy => by cases hy) (fun y hy => by cases hy)
  have hh0 : hi ∉ gL G := fun q => hhi (V2.1.1 hi q).1
  have hh1 : hi ∉ (([] ++ [x1]) ++ [x2]).flatMap bFp := fun q => hhi (V2.2.2.2 hi q).2
  have hh : gis (gadd G2 hi 8 9) 8 hi := gis_add
  have hn9 : gn (gadd G2 hi 8 9) hi = 9 := gn_add
  have ahi := gne hhi haG2
  refine x_putF g hnm dX5_init_32 gXX5 2 7 rfl (by decide) rfl rfl (w_tb 174 (by decide +kernel)) rfl rfl (V3.1.gis ha) ?_
  replace V3 := V3.ex (gEx.P (f := 7) (v := some hi) m) (fun y hy => Or.inr hy) (V3.na ha.1)
  replace a5 : gP (sP (sZ S2' hi) 7 a (some hi)) 5 a = some b1 := by rw [gP_sP, if_neg (by omega), gP_sZ, if_neg ahi]; exact a5
  replace a6 : gP (sP (sZ S2' hi) 7 a (some hi)) 6 a = some b2 := by rw [gP_sP, if_neg (by omega), gP_sZ, if_neg ahi]; exact a6
  have a7 : gP (sP (sZ S2' hi) 7 a (some hi)) 7 a = some hi := by rw [gP_sP, if_pos ⟨rfl, rfl⟩]
  revert V3 a5 a6 a7 hh hn9
  generalize sP (sZ S2' hi) 7 a (some hi) = S3
  generalize gadd G2 hi 8 9 = G3
  intro hh hn9 V3 a5 a6 a7
  have haG3 : a ∈ gL G3 := (V3.1.1 a ha.1).1
  refine x_aload_n 0 g dX5_init_35 rfl rfl ?_
  refine x_newo (c0 := 291) (s0 := 6426) g dX5_init_36 gXJ4 (w_tb 139 (by decide +kernel)) (w_tb 140 (by decide +kernel)) (w_tb 5 (by decide +kernel)) (by intro j hj; rcases (by omega : j = 0 ∨ j = 1 ∨ j = 2 ∨ j = 3) with rfl | rfl | rfl | rfl <;> rfl) (fun u1 hu1 => ?_)
  refine x_dup g dX5_init_39 rfl ?_
  refine x_callIR (rest := .ref u1 :: [.ref a]) (As := []) g (k_J4_init gis_add) ca_J4_init_da8c8 rfl in_J4_init_da8c8 (w_tb 141 (by decide +kernel)) (Nat.le_of_ble_eq_true rfl) (by omega) (by omega) rfl rfl (Nat.le_of_ble_eq_true rfl) dX5_init_40 (fun v G' S' T' hR => ?_)
  obtain ⟨rfl, rfl, c1, hc1, rfl, q20, q50, q52, qr, eu1⟩ := hR
  show Xj K [] _ 43 _ (.ref u1 :: [.ref a]) S' _ 290 6410
  refine x_PtoT hu1 hc1 q20 q50 (q52.trans (if_pos rfl)) qr ?_
  have W1 := gEx.sb (X := []) hu1 eu1
  clear q20 q50 q52 qr eu1 hc1 c1
  replace V3 := V3.ex W1 (fun y hy => by cases hy) (fun y hy => by cases hy)
  have k1 := W1.2 a haG3 (by simp)
  replace a5 := ((k1.1 5).2).trans a5
  replace a6 := ((k1.1 6).2).trans a6
  replace a7 := ((k1.1 7).2).trans a7
  refine x_putF g hnm dX5_init_43 gXX5 3 8 rfl (by decide) rfl rfl (w_tb 175 (by decide +kernel)) rfl rfl (V3.1.gis ha) ?_
  replace V3 := V3.ex (gEx.P (f := 8) (v := some u1) m) (fun y hy => Or.inr hy) (V3.na ha.1)
  replace a5 : gP (sP S' 8 a (some u1)) 5 a = some b1 := by rw [gP_sP, if_neg (by omega)]; exact a5
  replace a6 : gP (sP S' 8 a (some u1)) 6 a = some b2 := by rw [gP_sP, if_neg (by omega)]; exact a6
  replace a7 : gP (sP S' 8 a (some u1)) 7 a = some hi := by rw [gP_sP, if_neg (by omega)]; exact a7
  have a8 : gP (sP S' 8 a (some u1)) 8 a = some u1 := by rw [gP_sP, if_pos ⟨rfl, rfl⟩]
  clear k1 W1
  revert V3 a5 a6 a7 a8
  generalize sP S' 8 a (some u1) = S4
  clear S'
  intro V3 a5 a6 a7 a8
  refine x_aload_n 0 g dX5_init_46 rfl rfl ?_
  refine x_newo (c0 := 289) (s0 := 6406) g dX5_init_47 gXJ4 (w_tb 139 (by decide +kernel)) (w_tb 140 (by decide +kernel)) (w_tb 5 (by decide +kernel)) (by intro j hj; rcases (by omega : j = 0 ∨ j = 1 ∨ j = 2 ∨ j = 3) with rfl | rfl | rfl | rfl <;> rfl) (fun u2 hu2 => ?_)
  refine x_dup g dX5_init_50 rfl ?_
  refine x_callIR (rest := .ref u2 :: [.ref a]) (As := []) g (k_J4_init gis_add) ca_J4_init_da8c8 rfl in_J4_init_da8c8 (w_tb 141 (by decide +kernel)) (Nat.le_of_ble_eq_true rfl) (by omega) (by omega) rfl rfl (Nat.le_of_ble_eq_true rfl) dX5_init_51 (fun v G' S' T' hR => ?_)
  obtain ⟨rfl, rfl, c2, hc2, rfl, q20, q50, q52, qr, eu2⟩ := hR
  show Xj K [] _ 54 _ (.ref u2 :: [.ref a]) S' _ 288 6390
  refine x_PtoT hu2 hc2 q20 q50 (q52.trans (if_pos rfl)) qr ?_
  have W2 := gEx.sb (X := []) hu2 eu2
  clear q20 q50 q52 qr eu2 hc2 c2
  replace V3 := V3.ex W2 (fun y hy => by cases hy) (fun y hy => by cases hy)
  have k1 := W2.2 a haG3 (by simp)
  replace a5 := ((k1.1 5).2).trans a5
  replace a6 := ((k1.1 6).2).trans a6
  replace a7 := ((k1.1 7).2).trans a7
  replace a8 := ((k1.1 8).2).trans a8
  refine x_putF g hnm dX5_init_54 gXX5 4 9 rfl (by decide) rfl rfl (w_tb 176 (by decide +kernel)) rfl rfl (V3.1.gis ha) ?_
  refine x_aload_n 0 g dX5_init_57 rfl rfl ?_
  refine x_iconst (v := 0) g dX5_init_58 (by decide) ?_
  refine x_puti g dX5_init_59 gXX5 5 20 rfl (by decide) rfl rfl (w_tb 177 (by decide +kernel)) rfl rfl (V3.1.gis ha) ?_
  refine x_aload_n 0 g dX5_init_62 rfl rfl ?_
  refine x_iconst (v := 0) g dX5_init_63 (by decide) ?_
  refine x_puti g dX5_init_64 gXX5 6 21 rfl (by decide) rfl rfl (w_tb 178 (by decide +kernel)) rfl rfl (V3.1.gis ha) ?_
  refine x_aload_n 0 g dX5_init_67 rfl rfl ?_
  refine x_iconst (v := (-1)) g dX5_init_68 (by decide) ?_
  refine x_puti g dX5_init_69 gXX5 7 22 rfl (by decide) rfl rfl (w_tb 179 (by decide +kernel)) rfl rfl (V3.1.gis ha) ?_
  refine x_aload_n 0 g dX5_init_72 rfl rfl ?_
  refine x_iconst (v := (-1)) g dX5_init_73 (by decide) ?_
  refine x_puti g dX5_init_74 gXX5 8 23 rfl (by decide) rfl rfl (w_tb 180 (by decide +kernel)) rfl rfl (V3.1.gis ha) ?_
  refine x_iconst (v := 0) g dX5_init_77 (by decide) ?_
  refine x_istore_n 1 g dX5_init_78 rfl (Nat.le_of_ble_eq_true rfl) rfl ?_
  have ev : gEx G3 S' G3 (sI (sI (sI (sI (sP S' 9 a (some u2)) 20 a 0) 21 a 0) 22 a (-1)) 23 a (-1)) [a] := ((((gEx.P m).trans (gEx.I m)).trans (gEx.I m)).trans (gEx.I m)).trans (gEx.I m)
  replace V3 := V3.ex ev (fun y hy => Or.inr hy) (V3.na ha.1)
  refine x_uT (T1 := []) (fun hu => ?_)
  refine L 9 0 (([] ++ [x1]) ++ [x2]) G3 _ _ hi u1 u2 rfl rfl rfl (hu (u1, 16, []) (by simp)) V3 hh0 hh1 hh hn9 ?_ ?_ (fun j hj => absurd hj (Nat.not_lt_zero j))
  · simp [gP_sI, gP_sP, a5, a6, a7, a8, hx1, hx2]
  · simp [gI_sI]

def g6k (j : Nat) : Nat := if j = 4 ∨ j = 5 then 6 else 7
def g6n (j : Nat) : Nat := if j = 1 then 1408 else if j = 4 ∨ j = 5 then 60 else if j = 6 then 4 else 176
/-- a new reference object -/
def gR6 (a : Nat) (G : gG) (S : gS) (T : gT) : Option Value → gG → gS → gT → Prop := fun v G' S' T' => v = none ∧ T' = T ∧ ∃ r : Nat → Nat, gEx G S G' S' [a] ∧ [r 0, r 1, r 2, r 3, r 4, r 5, r 6].Nodup ∧ (∀ y ∈ [r 0, r 1, r 2, r 3, r 4, r 5, r 6], y ∉ gL G) ∧ gis G' 3 a ∧ (∀ j, j < 7 → gP S' (10 + j) a = some (r j) ∧ gis G' (g6k j) (r j) ∧ gn G' (r j) = g6n j) ∧
  (gI S' 37 a = -1 ∧ gI S' 38 a = -1 ∧ ∀ f, f ≠ 7 → f ≠ 8 → gI S' (30 + f) a = 0) ∧ (∀ i, gr S' (r 0) i = if i = 1 then 2 else if i = 2 then 3 else 0) ∧ ∀ j, j < 6 → ∀ i, gr S' (r (j + 1)) i = 0
theorem k_X6_init {ad : Nat → Nat} {a : Nat} {G : gG} {S : gS} {T : gT} (ha : gis G 3 a) (hz : ∀ f, gI S (30 + f) a = 0) : CtR ad yX6_init (Cond.code yX6_init cX6_init 1 none :: gTb) 1 7 2060 [.ref a] G S T ((gR6 a G S T)) := by
  refine CtR.of rfl (Nat.le_of_ble_eq_true rfl) (fun v hv => by simp at hv; subst hv; rfl) (fun K g e hK => ?_)
  obtain ⟨rfl, -, hK2⟩ := hK
  show Xj K [] G 0 [some (.ref a)] [] S T 7 2060
  have hnm : (kM K).name = "<init>" := hK2
  refine x_aload_n 0 g dX6_init_0 rfl rfl ?_
  refine x_oinit g dX6_init_1 (w_tb 1344 (by decide +kernel)) (by decide) (Nat.le_of_ble_eq_true rfl) ?_
  refine x_aload_n 0 g dX6_init_4 rfl rfl ?_
  refine x_sipush (v := 176) g dX6_init_5 (by decide) ?_
  refine x_newa (t := 2) (ty := .int) (N := 176) (c0 := 6) (s0 := 1884) 7 g dX6_init_8 (w_tb 107 (by decide +kernel)) rfl (fun _ => rfl) (fun _ _ _ _ h => gce_i h) rfl (by decide) (by decide) (by decide) (fun b1 hb1 => ?_)
  have ha1 := gis_old (kd := 7) (n := 176) hb1 ha
  refine x_putF g hnm dX6_init_10 gXX6 1 10 rfl (by decide) rfl rfl (w_tb 1346 (by decide +kernel)) rfl rfl ha1 ?_
  refine x_aload_n 0 g dX6_init_13 rfl rfl ?_
  refine x_sipush (v := 1408) g dX6_init_14 (by decide) ?_
  refine x_newa (t := 2) (ty := .int) (N := 1408) (c0 := 5) (s0 := 476) 7 g dX6_init_17 (w_tb 107 (by decide +kernel)) rfl (fun _ => rfl) (fun _ _ _ _ h => gce_i h) rfl (by decide) (by decide) (by decide) (fun b2 hb2 => ?_)
  have ha2 := gis_old (kd := 7) (n := 1408) hb2 ha1
  refine x_putF g hnm dX6_init_19 gXX6 2 11 rfl (by decide) rfl rfl (w_tb 1347 (by decide +kernel)) rfl rfl ha2 ?_
  refine x_aload_n 0 g dX6_init_22 rfl rfl ?_
  refine x_sipush (v := 176) g dX6_init_23 (by decide) ?_
  refine x_newa (t := 2) (ty := .int) (N := 176) (c0 := 4) (s0 := 300) 7 g dX6_init_26 (w_tb 107 (by decide +kernel)) rfl (fun _ => rfl) (fun _ _ _ _ h => gce_i h) rfl (by decide) (by decide) (by decide) (fun b3 hb3 => ?_)
  have ha3 := gis_old (kd := 7) (n := 176) hb3 ha2
  refine x_putF g hnm dX6_init_28 gXX6 3 12 rfl (by decide) rfl rfl (w_tb 1348 (by decide +kernel)) rfl rfl ha3 ?_
  refine x_aload_n 0 g dX6_init_31 rfl rfl ?_
  refine x_sipush (v := 176) g dX6_init_32 (by decide) ?_
  refine x_newa (t := 2) (ty := .int) (N := 176) (c0 := 3) (s0 := 124) 7 g dX6_init_35 (w_tb 107 (by decide +kernel)) rfl (fun _ => rfl) (fun _ _ _ _ h => gce_i h) rfl (by decide) (by decide) (by decide) (fun b4 hb4 => ?_)
  have ha4 := gis_old (kd := 7) (n := 176) hb4 ha3
  refine x_putF g hnm dX6_init_37 gXX6 4 13 rfl (by decide) rfl rfl (w_tb 1349 (by decide +kernel)) rfl rfl ha4 ?_
  refine x_aload_n 0 g dX6_init_40 rfl rfl ?_
  refine x_bipush (v := 60) g dX6_init_41 (by decide) ?_
  refine x_newa (t := 1) (ty := .char) (N := 60) (c0 := 2) (s0 := 64) 6 g dX6_init_43 (w_tb 1400 (by decide +kernel)) rfl (fun _ => rfl) (fun _ _ _ _ h => gce_c h) rfl (by decide) (by decide) (by decide) (fun b5 hb5 => ?_)
  have ha5 := gis_old (kd := 6) (n := 60) hb5 ha4
  refine x_putF g hnm dX6_init_45 gXX6 8 14 rfl (by decide) rfl rfl (w_tb 1353 (by decide +kernel)) rfl rfl ha5 ?_
  refine x_aload_n 0 g dX6_init_48 rfl rfl ?_
  refine x_bipush (v := 60) g dX6_init_49 (by decide) ?_
  refine x_newa (t := 1) (ty := .char) (N := 60) (c0 := 1) (s0 := 4) 6 g dX6_init_51 (w_tb 1400 (by decide +kernel)) rfl (fun _ => rfl) (fun _ _ _ _ h => gce_c h) rfl (by decide) (by decide) (by decide) (fun b6 hb6 => ?_)
  have ha6 := gis_old (kd := 6) (n := 60) hb6 ha5
  refine x_putF g hnm dX6_init_53 gXX6 10 15 rfl (by decide) rfl rfl (w_tb 1355 (by decide +kernel)) rfl rfl ha6 ?_
  refine x_aload_n 0 g dX6_init_56 rfl rfl ?_
  refine x_iconst (v := (-1)) g dX6_init_57 (by decide) ?_
  refine x_puti g dX6_init_58 gXX6 13 37 rfl (by decide) rfl rfl (w_tb 1358 (by decide +kernel)) rfl rfl ha6 ?_
  refine x_aload_n 0 g dX6_init_61 rfl rfl ?_
  refine x_iconst (v := (-1)) g dX6_init_62 (by decide) ?_
  refine x_puti g dX6_init_63 gXX6 14 38 rfl (by decide) rfl rfl (w_tb 1359 (by decide +kernel)) rfl rfl ha6 ?_
  refine x_aload_n 0 g dX6_init_66 rfl rfl ?_
  refine x_iconst (v := 4) g dX6_init_67 (by decide) ?_
  refine x_newa (t := 2) (ty := .int) (N := 4) (c0 := 0) (s0 := 0) 7 g dX6_init_68 (w_tb 107 (by decide +kernel)) rfl (fun _ => rfl) (fun _ _ _ _ h => gce_i h) rfl (by decide) (by decide) (by decide) (fun b7 hb7 => ?_)
  have ha7 := gis_old (kd := 7) (n := 4) hb7 ha6
  refine x_putF g hnm dX6_init_70 gXX6 15 16 rfl (by decide) rfl rfl (w_tb 1360 (by decide +kernel)) rfl rfl ha7 ?_
  have a1 := gne hb1 ha.1
  have a2 := gne hb2 ha1.1
  have a3 := gne hb3 ha2.1
  have a4 := gne hb4 ha3.1
  have a5 := gne hb5 ha4.1
  have a6 := gne hb6 ha5.1
  have a7 := gne hb7 ha6.1
  have n21 := (nadd hb2).2
  have h21 := (nadd hb2).1
  have n32 := (nadd hb3).2
  have h32 := (nadd hb3).1
  have n31 := (nadd h32).2
  have h31 := (nadd h32).1
  have n43 := (nadd hb4).2
  have h43 := (nadd hb4).1
  have n42 := (nadd h43).2
  have h42 := (nadd h43).1
  have n41 := (nadd h42).2
  have h41 := (nadd h42).1
  have n54 := (nadd hb5).2
  have h54 := (nadd hb5).1
  have n53 := (nadd h54).2
  have h53 := (nadd h54).1
  have n52 := (nadd h53).2
  have h52 := (nadd h53).1
  have n51 := (nadd h52).2
  have h51 := (nadd h52).1
  have n65 := (nadd hb6).2
  have h65 := (nadd hb6).1
  have n64 := (nadd h65).2
  have h64 := (nadd h65).1
  have n63 := (nadd h64).2
  have h63 := (nadd h64).1
  have n62 := (nadd h63).2
  have h62 := (nadd h63).1
  have n61 := (nadd h62).2
  have h61 := (nadd h62).1
  have n76 := (nadd hb7).2
  have h76 := (nadd hb7).1
  have n75 := (nadd h76).2
  have h75 := (nadd h76).1
  have n74 := (nadd h75).2
  have h74 := (nadd h75).1
  have n73 := (nadd h74).2
  have h73 := (nadd h74).1
  have n72 := (nadd h73).2
  have h72 := (nadd h73).1
  have n71 := (nadd h72).2
  have h71 := (nadd h72).1
  have w1 : gis (gadd (gadd (gadd (gadd (gadd (gadd (gadd G b1 7 176) b2 7 1408) b3 7 176) b4 7 176) b5 6 60) b6 6 60) b7 7 4) 7 b1 := (gis_old hb7 (gis_old hb6 (gis_old hb5 (gis_old hb4 (gis_old hb3 (gis_old hb2 gis_add))))))
  have w2 : gn (gadd (gadd (gadd (gadd (gadd (gadd (gadd G b1 7 176) b2 7 1408) b3 7 176) b4 7 176) b5 6 60) b6 6 60) b7 7 4) b1 = 176 := by rw [gn_old hb7 (gis_old hb6 (gis_old hb5 (gis_old hb4 (gis_old hb3 (gis_old hb2 gis_add))))).1, gn_old hb6 (gis_old hb5 (gis_old hb4 (gis_old hb3 (gis_old hb2 gis_add)))).1, gn_old hb5 (gis_old hb4 (gis_old hb3 (gis_old hb2 gis_add))).1, gn_old hb4 (gis_old hb3 (gis_old hb2 gis_add)).1, gn_old hb3 (gis_old hb2 gis_add).1, gn_old hb2 gis_add.1, gn_add]
  refine x_aload_n 0 g dX6_init_73 rfl rfl ?_
  refine x_getr (b := b1) g dX6_init_74 gXX6 1 10 rfl (by decide) rfl (w_tb 1346 (by decide +kernel)) ha7 (by simp [gP_sI, gP_sP, gP_sZ, gP_sr, a1, a2, a3, a4, a5, a6, a7]) ?_
  refine x_iconst (v := 1) g dX6_init_77 (by decide) ?_
  refine x_iconst (v := 2) g dX6_init_78 (by decide) ?_
  refine x_iast g dX6_init_79 w1 (by rw [w2]; exact (show vp_in (nI 1) 176 from vp_in_nI (by decide) (by decide))) ?_
  refine x_aload_n 0 g dX6_init_80 rfl rfl ?_
  refine x_getr (b := b1) g dX6_init_81 gXX6 1 10 rfl (by decide) rfl (w_tb 1346 (by decide +kernel)) ha7 (by simp [gP_sI, gP_sP, gP_sZ, gP_sr, a1, a2, a3, a4, a5, a6, a7]) ?_
  refine x_iconst (v := 2) g dX6_init_84 (by decide) ?_
  refine x_iconst (v := 3) g dX6_init_85 (by decide) ?_
  refine x_iast g dX6_init_86 w1 (by rw [w2]; exact (show vp_in (nI 2) 176 from vp_in_nI (by decide) (by decide))) ?_
  have m : a ∈ [a] := List.mem_cons_self
  rw [show Int32.toNatClampNeg 1 = 1 from rfl, show Int32.toNatClampNeg 2 = 2 from rfl]
  refine x_vretR g e dX6_init_87 ⟨rfl, rfl, (fun j => if j = 0 then b1 else if j = 1 then b2 else if j = 2 then b3 else if j = 3 then b4 else if j = 4 then b5 else if j = 5 then b6 else b7), ?_, ?_, ?_, ?_, ?_, ?_, ?_⟩
  · refine ⟨fun c hc => ?_, fun c hc hX => ?_⟩
    · have c1 := gne hb1 hc
      have c2 := gne h21 hc
      have c3 := gne h31 hc
      have c4 := gne h41 hc
      have c5 := gne h51 hc
      have c6 := gne h61 hc
      have c7 := gne h71 hc
      exact ⟨by simp [gadd, gL] at hc ⊢; simp [hc], by simp [gadd, gK, c1, c2, c3, c4, c5, c6, c7], by simp [gadd, gn, c1, c2, c3, c4, c5, c6, c7]⟩
    · have c1 := gne hb1 hc
      have c2 := gne h21 hc
      have c3 := gne h31 hc
      have c4 := gne h41 hc
      have c5 := gne h51 hc
      have c6 := gne h61 hc
      have c7 := gne h71 hc
      have ca : c ≠ a := by simpa using hX
      exact ⟨fun f => ⟨by simp [gI_sI, gI_sP, gI_sZ, gI_sr, gP_sI, gP_sP, gP_sZ, gP_sr, gr_sI, gr_sP, gr_sZ, gr_sr, c1, c2, c3, c4, c5, c6, c7, ca], by simp [gI_sI, gI_sP, gI_sZ, gI_sr, gP_sI, gP_sP, gP_sZ, gP_sr, gr_sI, gr_sP, gr_sZ, gr_sr, c1, c2, c3, c4, c5, c6, c7, ca]⟩, fun i => ⟨by simp [gI_sI, gI_sP, gI_sZ, gI_sr, gP_sI, gP_sP, gP_sZ, gP_sr, gr_sI, gr_sP, gr_sZ, gr_sr, c1, c2, c3, c4, c5, c6, c7, ca], by simp [gq_sI, gq_sP, gq_sZ, gq_sr, c1, c2, c3, c4, c5, c6, c7, ca]⟩⟩
  · show [b1, b2, b3, b4, b5, b6, b7].Nodup
    simp [n21.symm, n31.symm, n32.symm, n41.symm, n42.symm, n43.symm, n51.symm, n52.symm, n53.symm, n54.symm, n61.symm, n62.symm, n63.symm, n64.symm, n65.symm, n71.symm, n72.symm, n73.symm, n74.symm, n75.symm, n76.symm]
  · intro r hr
    have hr : r ∈ [b1, b2, b3, b4, b5, b6, b7] := hr
    simp only [List.mem_cons, List.not_mem_nil, or_false] at hr
    rcases hr with rfl | rfl | rfl | rfl | rfl | rfl | rfl
    · exact hb1
    · exact h21
    · exact h31
    · exact h41
    · exact h51
    · exact h61
    · exact h71
  · exact gis_old hb7 ha6
  · intro j hj
    rcases (by omega : j = 0 ∨ j = 1 ∨ j = 2 ∨ j = 3 ∨ j = 4 ∨ j = 5 ∨ j = 6) with rfl | rfl | rfl | rfl | rfl | rfl | rfl
    · refine ⟨by simp [gI_sI, gI_sP, gI_sZ, gI_sr, gP_sI, gP_sP, gP_sZ, gP_sr, gr_sI, gr_sP, gr_sZ, gr_sr, a1, a2, a3, a4, a5, a6, a7], (gis_old hb7 (gis_old hb6 (gis_old hb5 (gis_old hb4 (gis_old hb3 (gis_old hb2 gis_add)))))), ?_⟩
      show gn _ b1 = 176
      rw [gn_old hb7 (gis_old hb6 (gis_old hb5 (gis_old hb4 (gis_old hb3 (gis_old hb2 gis_add))))).1, gn_old hb6 (gis_old hb5 (gis_old hb4 (gis_old hb3 (gis_old hb2 gis_add)))).1, gn_old hb5 (gis_old hb4 (gis_old hb3 (gis_old hb2 gis_add))).1, gn_old hb4 (gis_old hb3 (gis_old hb2 gis_add)).1, gn_old hb3 (gis_old hb2 gis_add).1, gn_old hb2 gis_add.1, gn_add]
    · refine ⟨by simp [gI_sI, gI_sP, gI_sZ, gI_sr, gP_sI, gP_sP, gP_sZ, gP_sr, gr_sI, gr_sP, gr_sZ, gr_sr, a1, a2, a3, a4, a5, a6, a7], (gis_old hb7 (gis_old hb6 (gis_old hb5 (gis_old hb4 (gis_old hb3 gis_add))))), ?_⟩
      show gn _ b2 = 1408
      rw [gn_old hb7 (gis_old hb6 (gis_old hb5 (gis_old hb4 (gis_old hb3 gis_add)))).1, gn_old hb6 (gis_old hb5 (gis_old hb4 (gis_old hb3 gis_add))).1, gn_old hb5 (gis_old hb4 (gis_old hb3 gis_add)).1, gn_old hb4 (gis_old hb3 gis_add).1, gn_old hb3 gis_add.1, gn_add]
    · refine ⟨by simp [gI_sI, gI_sP, gI_sZ, gI_sr, gP_sI, gP_sP, gP_sZ, gP_sr, gr_sI, gr_sP, gr_sZ, gr_sr, a1, a2, a3, a4, a5, a6, a7], (gis_old hb7 (gis_old hb6 (gis_old hb5 (gis_old hb4 gis_add)))), ?_⟩
      show gn _ b3 = 176
      rw [gn_old hb7 (gis_old hb6 (gis_old hb5 (gis_old hb4 gis_add))).1, gn_old hb6 (gis_old hb5 (gis_old hb4 gis_add)).1, gn_old hb5 (gis_old hb4 gis_add).1, gn_old hb4 gis_add.1, gn_add]
    · refine ⟨by simp [gI_sI, gI_sP, gI_sZ, gI_sr, gP_sI, gP_sP, gP_sZ, gP_sr, gr_sI, gr_sP, gr_sZ, gr_sr, a1, a2, a3, a4, a5, a6, a7], (gis_old hb7 (gis_old hb6 (gis_old hb5 gis_add))), ?_⟩
      show gn _ b4 = 176
      rw [gn_old hb7 (gis_old hb6 (gis_old hb5 gis_add)).1, gn_old hb6 (gis_old hb5 gis_add).1, gn_old hb5 gis_add.1, gn_add]
    · refine ⟨by simp [gI_sI, gI_sP, gI_sZ, gI_sr, gP_sI, gP_sP, gP_sZ, gP_sr, gr_sI, gr_sP, gr_sZ, gr_sr, a1, a2, a3, a4, a5, a6, a7], (gis_old hb7 (gis_old hb6 gis_add)), ?_⟩
      show gn _ b5 = 60
      rw [gn_old hb7 (gis_old hb6 gis_add).1, gn_old hb6 gis_add.1, gn_add]
    · refine ⟨by simp [gI_sI, gI_sP, gI_sZ, gI_sr, gP_sI, gP_sP, gP_sZ, gP_sr, gr_sI, gr_sP, gr_sZ, gr_sr, a1, a2, a3, a4, a5, a6, a7], (gis_old hb7 gis_add), ?_⟩
      show gn _ b6 = 60
      rw [gn_old hb7 gis_add.1, gn_add]
    · refine ⟨by simp [gI_sI, gI_sP, gI_sZ, gI_sr, gP_sI, gP_sP, gP_sZ, gP_sr, gr_sI, gr_sP, gr_sZ, gr_sr, a1, a2, a3, a4, a5, a6, a7], gis_add, ?_⟩
      show gn _ b7 = 4
      rw [gn_add]
  · refine ⟨by simp [gI_sI, gI_sP, gI_sZ, gI_sr, gP_sI, gP_sP, gP_sZ, gP_sr, gr_sI, gr_sP, gr_sZ, gr_sr, a7], by simp [gI_sI, gI_sP, gI_sZ, gI_sr, gP_sI, gP_sP, gP_sZ, gP_sr, gr_sI, gr_sP, gr_sZ, gr_sr, a7], fun f hf1 hf2 => ?_⟩
    have hq := hz f
    have f1 : ¬ 30 + f = 37 := by omega
    have f2 : ¬ 30 + f = 38 := by omega
    simp [gI_sI, gI_sP, gI_sZ, gI_sr, gP_sI, gP_sP, gP_sZ, gP_sr, gr_sI, gr_sP, gr_sZ, gr_sr, a1, a2, a3, a4, a5, a6, a7, f1, f2, hq, hf1, hf2]
  · refine ⟨fun i => ?_, fun j hj i => ?_⟩
    · show gr _ b1 i = _
      simp only [gr_sI, gr_sP, gr_sZ, gr_sr]
      by_cases q1 : i = 1
      · subst q1; simp
      · by_cases q2 : i = 2
        · subst q2; simp
        · simp [q1, q2, n21.symm, n31.symm, n41.symm, n51.symm, n61.symm, n71.symm]
    · rcases (by omega : j = 0 ∨ j = 1 ∨ j = 2 ∨ j = 3 ∨ j = 4 ∨ j = 5) with rfl | rfl | rfl | rfl | rfl | rfl <;> simp [gr_sI, gr_sP, gr_sZ, gr_sr, n21, n31, n41, n51, n61, n71]
