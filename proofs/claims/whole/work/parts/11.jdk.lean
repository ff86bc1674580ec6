/-! byte rows, inherited fields; texts as pools; calls on texts (laid by wip/whole/mkrows2.py) -/
theorem x_bald {K : gKx} {PX : va_W} {G : gG} {pc : Nat} {lv : List (Option Value)} {st : List Value} {S : gS} {T : gT} {c0 s0 d : Nat} {own : String} {cc : ByteArray} {a : Nat} {i : Int32} (g : Gd K own cc d) (hdg : decode cc pc = .ok (.baload, 1)) (ha : gis G 5 a) (hin : vp_in i (gn G a)) (kk : Xj K PX G (pc + 1) lv (.int (gr S a i.toNatClampNeg) :: st) S T c0 s0) : Xj K PX G (pc) lv (.int i :: .ref a :: st) S T c0 s0 := by
  intro H locs cells slots ls Z h
  obtain ⟨q0, hq⟩ := gFind (cy := ky K) (PX := PX ++ Z) (S := S) ha.1
  rw [gce_y ha.2] at hq
  exact va_bald (D := kD K) g.1.1 g.1.2.1 g.2.1.1 h.2.1 q0 0 hq rfl hin hdg (kk H locs cells slots ls Z h)
theorem x_bast {K : gKx} {PX : va_W} {G : gG} {pc : Nat} {lv : List (Option Value)} {st : List Value} {S : gS} {T : gT} {c0 s0 d : Nat} {own : String} {cc : ByteArray} {a : Nat} {i x : Int32} (g : Gd K own cc d) (hdg : decode cc pc = .ok (.bastore, 1)) (ha : gis G 5 a) (hin : vp_in i (gn G a)) (kk : Xj K PX G (pc + 1) lv (st) (sr S a i.toNatClampNeg (vp_nar .byte x)) T c0 s0) : Xj K PX G (pc) lv (.int x :: .int i :: .ref a :: st) S T c0 s0 := by
  intro H locs cells slots ls Z h
  obtain ⟨q0, hq⟩ := gFind (cy := ky K) (PX := PX ++ Z) (S := S) ha.1
  have hq2 := hq
  rw [gce_y ha.2] at hq
  refine va_bast (D := kD K) g.1.1 g.1.2.1 g.2.1.1 h.2.1 h.2.2.1 h.2.2.2.1 q0 0 hq rfl hin hdg (fun H1 locs1 hP hD hS => ?_)
  have e : ((PX ++ Z) ++ gw (ky K) G S).set q0 (a, .inl ((ky K).1 0, gn G a, .inl (upd (gr S a) i.toNatClampNeg (vp_nar .byte x)))) = (PX ++ Z) ++ gw (ky K) G (srow S a (upd (gr S a) i.toNatClampNeg (vp_nar .byte x))) := gPut h.2.2.1 ha.1 hq2 (gup_row (cy := ky K) (G := G) (S := S) (upd (gr S a) i.toNatClampNeg (vp_nar .byte x)) _ (by rw [gce_y ha.2, gr_row]))
  rw [e, ← sr_srow] at hP hD
  exact kk H1 locs1 cells slots ls Z ⟨h.1, hP, hD, hS, h.2.2.2.2⟩
theorem x_leny {K : gKx} {PX : va_W} {G : gG} {pc : Nat} {lv : List (Option Value)} {st : List Value} {S : gS} {T : gT} {c0 s0 d : Nat} {own : String} {cc : ByteArray} {a : Nat} (g : Gd K own cc d) (hdg : decode cc pc = .ok (.arraylength, 1)) (ha : gis G 5 a) (kk : Xj K PX G (pc + 1) lv (.int (Int32.ofNat (gn G a)) :: st) S T c0 s0) : Xj K PX G (pc) lv (.ref a :: st) S T c0 s0 := by
  intro H locs cells slots ls Z h
  obtain ⟨q0, hq⟩ := gFind (cy := ky K) (PX := PX ++ Z) (S := S) ha.1
  rw [gce_y ha.2] at hq
  exact va_alen (D := kD K) (ty := .byte) g.1.1 g.1.2.1 g.2.1.1 h.2.1 q0 0 hq rfl rfl hdg (kk H locs cells slots ls Z h)
theorem x_getiS {K : gKx} {PX : va_W} {G : gG} {pc : Nat} {lv : List (Option Value)} {st : List Value} {S : gS} {T : gT} {c0 s0 d : Nat} {own : String} {cc : ByteArray} {a kd ci idx : Nat} {fl : List (Nat ⊕ Nat)} {C : String} {TC : u_T} {NC : Nat} {ty0 : Nat → FieldType} (g : Gd K own cc d) (hdg : decode cc pc = .ok (.getfield idx, 3)) (cl : gCls kd ci fl C TC NC ty0) (k f : Nat) (hf : fl[k]? = some (.inl f)) (hkN : k < NC) (hlk : Cond.fieldLink own idx (TC k).1 (TC k).2.1 (TC k).2.2.1 ∈ lw_tbl) (ha : gis G kd a) (kk : Xj K PX G (pc + 3) lv (.int (gI S f a) :: st) S T c0 s0) : Xj K PX G (pc) lv (.ref a :: st) S T c0 s0 := by
  intro H locs cells slots ls Z h
  obtain ⟨c1, c2, c3, c4, c5, c6⟩ := cl
  obtain ⟨q0, hq⟩ := gFind (cy := ky K) (PX := PX ++ Z) (S := S) ha.1
  rw [gce_obj (by rw [ha.2]; exact c1)] at hq
  exact va_get (D := kD K) (ci := ci) (v := .int (gI S f a)) (C := C) (T := TC) (N := NC) g.1.1 g.1.2.1 g.1.2.2.2.2 c3 g.1.2.2.2.1 g.2.1.1 h.2.1 q0 hq c2 k hkN (ref := (TC k).1) (g.tb hlk rfl) (fun _ h9 => h9) (by rw [List.getElem?_map, hf]; rfl) hdg (kk H locs cells slots ls Z h)
theorem x_getrS {K : gKx} {PX : va_W} {G : gG} {pc : Nat} {lv : List (Option Value)} {st : List Value} {S : gS} {T : gT} {c0 s0 d : Nat} {own : String} {cc : ByteArray} {a kd ci idx : Nat} {fl : List (Nat ⊕ Nat)} {C : String} {TC : u_T} {NC : Nat} {ty0 : Nat → FieldType} {b : Nat} (g : Gd K own cc d) (hdg : decode cc pc = .ok (.getfield idx, 3)) (cl : gCls kd ci fl C TC NC ty0) (k f : Nat) (hf : fl[k]? = some (.inr f)) (hkN : k < NC) (hlk : Cond.fieldLink own idx (TC k).1 (TC k).2.1 (TC k).2.2.1 ∈ lw_tbl) (ha : gis G kd a) (hv : gP S f a = some b) (kk : Xj K PX G (pc + 3) lv (.ref b :: st) S T c0 s0) : Xj K PX G (pc) lv (.ref a :: st) S T c0 s0 := by
  intro H locs cells slots ls Z h
  obtain ⟨c1, c2, c3, c4, c5, c6⟩ := cl
  obtain ⟨q0, hq⟩ := gFind (cy := ky K) (PX := PX ++ Z) (S := S) ha.1
  rw [gce_obj (by rw [ha.2]; exact c1)] at hq
  exact va_get (D := kD K) (ci := ci) (v := .ref b) (C := C) (T := TC) (N := NC) g.1.1 g.1.2.1 g.1.2.2.2.2 c3 g.1.2.2.2.1 g.2.1.1 h.2.1 q0 hq c2 k hkN (ref := (TC k).1) (g.tb hlk rfl) (fun _ h9 => h9) (by rw [List.getElem?_map, hf]; first | rfl | (rw [← hv]; rfl) | (show some (va_rf _) = _; rw [hv]; rfl)) hdg (kk H locs cells slots ls Z h)
theorem x_putiS {K : gKx} {PX : va_W} {G : gG} {pc : Nat} {lv : List (Option Value)} {st : List Value} {S : gS} {T : gT} {c0 s0 d : Nat} {own : String} {cc : ByteArray} {a kd ci idx : Nat} {fl : List (Nat ⊕ Nat)} {C : String} {TC : u_T} {NC : Nat} {ty0 : Nat → FieldType} {v : Int32} (g : Gd K own cc d) (hdg : decode cc pc = .ok (.putfield idx, 3)) (cl : gCls kd ci fl C TC NC ty0) (k f : Nat) (hf : fl[k]? = some (.inl f)) (hkN : k < NC) (hfin : (TC k).2.2.2 = false) (hlk : Cond.fieldLink own idx (TC k).1 (TC k).2.1 (TC k).2.2.1 ∈ lw_tbl) (hn : narrow (ty0 k) (Value.int v) = Value.int v) (hfit : fits (ty0 k) (Value.int v) = true) (ha : gis G kd a) (kk : Xj K PX G (pc + 3) lv (st) (sI S f a v) T c0 s0) : Xj K PX G (pc) lv ((Value.int v) :: .ref a :: st) S T c0 s0 := by
  intro H locs cells slots ls Z h
  obtain ⟨c1, c2, c3, c4, c5, c6⟩ := cl
  obtain ⟨q0, hq⟩ := gFind (cy := ky K) (PX := PX ++ Z) (S := S) ha.1
  have hq2 := hq
  have e1 : gkt (gK G a) = some (ci, fl) := by rw [ha.2]; exact c1
  rw [gce_obj e1] at hq
  refine va_put (D := kD K) (ci := ci) (v := Value.int v) (ty := ty0 k) (C := C) (T := TC) (N := NC) g.1.1 g.1.2.1 g.1.2.2.2.2 c3 ty0 c4 c5 g.1.2.2.2.1 g.2.1.1 h.2.1 h.2.2.1 h.2.2.2.1 q0 hq c2 k hkN (ref := (TC k).1) (g.tb hlk rfl) (fun _ h9 => h9) hfin (c4 k hkN) hn hfit (by rw [List.length_map, c6]; exact hkN) hdg (fun H1 locs1 hP hD hS => ?_)
  have e := gPut h.2.2.1 ha.1 hq2 (gup_I (cy := ky K) (S := S) e1 hf v)
  rw [e] at hP hD
  exact kk H1 locs1 cells slots ls Z ⟨h.1, hP, hD, hS, h.2.2.2.2⟩
theorem x_putrS {K : gKx} {PX : va_W} {G : gG} {pc : Nat} {lv : List (Option Value)} {st : List Value} {S : gS} {T : gT} {c0 s0 d : Nat} {own : String} {cc : ByteArray} {a kd ci idx : Nat} {fl : List (Nat ⊕ Nat)} {C : String} {TC : u_T} {NC : Nat} {ty0 : Nat → FieldType} {b : Nat} (g : Gd K own cc d) (hdg : decode cc pc = .ok (.putfield idx, 3)) (cl : gCls kd ci fl C TC NC ty0) (k f : Nat) (hf : fl[k]? = some (.inr f)) (hkN : k < NC) (hfin : (TC k).2.2.2 = false) (hlk : Cond.fieldLink own idx (TC k).1 (TC k).2.1 (TC k).2.2.1 ∈ lw_tbl) (hn : narrow (ty0 k) (Value.ref b) = Value.ref b) (hfit : fits (ty0 k) (Value.ref b) = true) (ha : gis G kd a) (kk : Xj K PX G (pc + 3) lv (st) (sP S f a (some b)) T c0 s0) : Xj K PX G (pc) lv ((Value.ref b) :: .ref a :: st) S T c0 s0 := by
  intro H locs cells slots ls Z h
  obtain ⟨c1, c2, c3, c4, c5, c6⟩ := cl
  obtain ⟨q0, hq⟩ := gFind (cy := ky K) (PX := PX ++ Z) (S := S) ha.1
  have hq2 := hq
  have e1 : gkt (gK G a) = some (ci, fl) := by rw [ha.2]; exact c1
  rw [gce_obj e1] at hq
  refine va_put (D := kD K) (ci := ci) (v := Value.ref b) (ty := ty0 k) (C := C) (T := TC) (N := NC) g.1.1 g.1.2.1 g.1.2.2.2.2 c3 ty0 c4 c5 g.1.2.2.2.1 g.2.1.1 h.2.1 h.2.2.1 h.2.2.2.1 q0 hq c2 k hkN (ref := (TC k).1) (g.tb hlk rfl) (fun _ h9 => h9) hfin (c4 k hkN) hn hfit (by rw [List.length_map, c6]; exact hkN) hdg (fun H1 locs1 hP hD hS => ?_)
  have e : ((PX ++ Z) ++ gw (ky K) G S).set q0 (a, .inr (ci, (fl.map (gfv S a)).set k (Value.ref b))) = (PX ++ Z) ++ gw (ky K) G (sP S f a (some b)) := gPut h.2.2.1 ha.1 hq2 (gup_P (cy := ky K) (S := S) e1 hf (some b))
  rw [e] at hP hD
  exact kk H1 locs1 cells slots ls Z ⟨h.1, hP, hD, hS, h.2.2.2.2⟩
theorem x_putr {K : gKx} {PX : va_W} {G : gG} {pc : Nat} {lv : List (Option Value)} {st : List Value} {S : gS} {T : gT} {c0 s0 d : Nat} {own : String} {cc : ByteArray} {a kd ci idx : Nat} {fl : List (Nat ⊕ Nat)} {C : String} {TC : u_T} {NC : Nat} {ty0 : Nat → FieldType} {b : Nat} (g : Gd K own cc d) (hdg : decode cc pc = .ok (.putfield idx, 3)) (cl : gCls kd ci fl C TC NC ty0) (k f : Nat) (hf : fl[k]? = some (.inr f)) (hkN : k < NC) (hC : (TC k).1 = C) (hfin : (TC k).2.2.2 = false) (hlk : Cond.fieldLink own idx C (TC k).2.1 (TC k).2.2.1 ∈ lw_tbl) (hn : narrow (ty0 k) (Value.ref b) = Value.ref b) (hfit : fits (ty0 k) (Value.ref b) = true) (ha : gis G kd a) (kk : Xj K PX G (pc + 3) lv (st) (sP S f a (some b)) T c0 s0) : Xj K PX G (pc) lv ((Value.ref b) :: .ref a :: st) S T c0 s0 := by
  intro H locs cells slots ls Z h
  obtain ⟨c1, c2, c3, c4, c5, c6⟩ := cl
  obtain ⟨q0, hq⟩ := gFind (cy := ky K) (PX := PX ++ Z) (S := S) ha.1
  have hq2 := hq
  have e1 : gkt (gK G a) = some (ci, fl) := by rw [ha.2]; exact c1
  rw [gce_obj e1] at hq
  refine va_put (D := kD K) (ci := ci) (v := Value.ref b) (ty := ty0 k) (C := C) (T := TC) (N := NC) g.1.1 g.1.2.1 g.1.2.2.2.2 c3 ty0 c4 c5 g.1.2.2.2.1 g.2.1.1 h.2.1 h.2.2.1 h.2.2.2.1 q0 hq c2 k hkN (ref := C) (g.tb hlk rfl) (fun _ h9 => by rw [hC] at h9; exact h9) hfin (c4 k hkN) hn hfit (by rw [List.length_map, c6]; exact hkN) hdg (fun H1 locs1 hP hD hS => ?_)
  have e : ((PX ++ Z) ++ gw (ky K) G S).set q0 (a, .inr (ci, (fl.map (gfv S a)).set k (Value.ref b))) = (PX ++ Z) ++ gw (ky K) G (sP S f a (some b)) := gPut h.2.2.1 ha.1 hq2 (gup_P (cy := ky K) (S := S) e1 hf (some b))
  rw [e] at hP hD
  exact kk H1 locs1 cells slots ls Z ⟨h.1, hP, hD, hS, h.2.2.2.2⟩
theorem x_i2b {K : gKx} {PX : va_W} {G : gG} {pc : Nat} {lv : List (Option Value)} {st : List Value} {S : gS} {T : gT} {c0 s0 d : Nat} {own : String} {cc : ByteArray} {x v : Int32} (g : Gd K own cc d) (hdg : decode cc pc = .ok (.i2b, 1)) (hv : x.toInt8.toInt32 = v) (k : Xj K PX G (pc + 1) lv (.int v :: st) S T c0 s0) : Xj K PX G (pc) lv (.int x :: st) S T c0 s0 := fun H locs cells slots ls Z h => lv_i2b g.1.1 g.1.2.1 hdg hv (k H locs cells slots ls Z h)
theorem x_dupx1 {K : gKx} {PX : va_W} {G : gG} {pc : Nat} {lv : List (Option Value)} {st : List Value} {S : gS} {T : gT} {c0 s0 d : Nat} {own : String} {cc : ByteArray} {va vb : Value} (g : Gd K own cc d) (hdg : decode cc pc = .ok (.dup_x1, 1)) (hva : va.category = 1) (hvb : vb.category = 1) (k : Xj K PX G (pc + 1) lv (va :: vb :: va :: st) S T c0 s0) : Xj K PX G (pc) lv (va :: vb :: st) S T c0 s0 := fun H locs cells slots ls Z h => lv_dup_x1 g.1.1 g.1.2.1 hdg hva hvb (k H locs cells slots ls Z h)
theorem x_ldc {K : gKx} {PX : va_W} {G : gG} {pc : Nat} {lv : List (Option Value)} {st : List Value} {S : gS} {T : gT} {c0 s0 d : Nat} {own : String} {cc : ByteArray} {idx : Nat} {v : Int32} (g : Gd K own cc d) (hdg : decode cc pc = .ok (.ldc idx, 2)) (hk : Cond.constant own idx v ∈ lw_tbl) (k : Xj K PX G (pc + 2) lv (.int v :: st) S T c0 s0) : Xj K PX G (pc) lv (st) S T c0 s0 := fun H locs cells slots ls Z h => lv_ldc g.1.1 g.1.2.1 g.1.2.2.2.1 (g.tb hk rfl) hdg (k H locs cells slots ls Z h)
-- one text as a pool
def gE : gG := ([], fun _ => 0, fun _ => 0)
def sE : gS := (fun _ _ => 0, fun _ _ => none, fun _ _ => 0, fun _ _ => none)
def gGs (a arr cap : Nat) : gG := ([a, arr], fun b => if b = a then 4 else 5, fun _ => cap)
def gSs (arr : Nat) (ml n : Int32) (by' : Nat → Int32) : gS := (fun f _ => if f = 50 then 0 else if f = 51 then ml else n, fun _ _ => some arr, fun _ i => by' i, fun _ _ => none)
theorem gw_s {cy : gY} {a arr cap : Nat} {ml n : Int32} {by' : Nat → Int32} (h : a ≠ arr) : gw cy (gGs a arr cap) (gSs arr ml n by') = [(a, .inr (1, [.ref arr, .int 0, .int ml, .int n])), (arr, .inl (cy.1 0, cap, .inl by'))] := by
  have e1 : gK (gGs a arr cap) a = 4 := if_pos rfl
  have e2 : gK (gGs a arr cap) arr = 5 := if_neg (fun e => h e.symm)
  show [(a, gce cy (gGs a arr cap) (gSs arr ml n by') a), (arr, gce cy (gGs a arr cap) (gSs arr ml n by') arr)] = _
  rw [gce_obj (ci := 1) (fl := [.inr 20, .inl 50, .inl 51, .inl 52]) (by rw [e1]; rfl), gce_y e2]
  rfl
theorem gis_sa {a arr cap : Nat} : gis (gGs a arr cap) 4 a := ⟨List.mem_cons_self, if_pos rfl⟩
theorem gis_sr {a arr cap : Nat} (h : a ≠ arr) : gis (gGs a arr cap) 5 arr := ⟨List.mem_cons_of_mem _ List.mem_cons_self, if_neg (fun e => h e.symm)⟩
section TG
variable {K : gKx} {PX : va_W} {G : gG} {pc a arr cap : Nat} {lv : List (Option Value)} {st : List Value} {S : gS} {c0 s0 : Nat} {tx : List Nat}
theorem x_TtoG (k : ∀ (arr : Nat) (ml : Int32) (by' : Nat → Int32), a ≠ arr → tx.length ≤ cap → cap ≤ 65536 → sb_Lat (fun i => tx.getD i 0) tx.length by' → sb_Fit by' → Xj K PX (gGs a arr cap) pc lv st (gSs arr ml (nI tx.length) by') [] c0 s0) : Xj K PX gE pc lv st sE [(a, cap, tx)] c0 s0 := by
  intro H locs cells slots ls Z h
  obtain ⟨⟨arr, ml, by', Z', rfl, h1, h2, h3, h4, hz⟩, hP, hD, hS⟩ := h
  have hz : Z' = [] := hz
  subst hz
  have ha : a ≠ arr := by
    intro e
    have := (gD_mem.mp hD).1
    rw [List.map_append, List.map_append] at this
    have := ((List.nodup_append.mp (List.nodup_append.mp this).1).2.1)
    subst e
    simp at this
  refine k arr ml by' ha h1 h2 h3 h4 H locs cells slots ls [] ⟨rfl, ?_, ?_, hS⟩
  · rw [gw_s ha, List.append_nil]
    have h9 : va_P (kD K) vwCl ((PX ++ [(a, .inr (1, [.ref arr, .int 0, .int ml, .int (nI tx.length)])), (arr, .inl ((ky K).1 0, cap, .inl by'))]) ++ []) H := hP
    rw [List.append_nil] at h9
    exact h9
  · rw [gw_s ha, List.append_nil]
    have h9 : va_D (kA K) ((PX ++ [(a, .inr (1, [.ref arr, .int 0, .int ml, .int (nI tx.length)])), (arr, .inl ((ky K).1 0, cap, .inl by'))]) ++ []) := hD
    rw [List.append_nil] at h9
    exact h9
theorem gw_mem {cy : gY} {G : gG} {S : gS} {a : Nat} (h : a ∈ gL G) : (a, gce cy G S a) ∈ gw cy G S := List.mem_map.mpr ⟨a, h, rfl⟩
theorem x_GtoT (ha : gis G 4 a) (hr : gis G 5 arr) (hn : gn G arr = cap) (h20 : gP S 20 a = some arr) (h50 : gI S 50 a = 0) (h52 : gI S 52 a = nI tx.length) (h1 : tx.length ≤ cap) (h2 : cap ≤ 65536) (h3 : sb_Lat (fun i => tx.getD i 0) tx.length (gr S arr)) (h4 : sb_Fit (gr S arr))
    (k : Xj K PX gE pc lv st sE [(a, cap, tx)] c0 s0) : Xj K PX G pc lv st S [] c0 s0 := by
  intro H locs cells slots ls Z h
  obtain ⟨hZ, hP, hD, hr2⟩ := h
  have hZ : Z = [] := hZ
  subst hZ
  have m1 : (a, .inr (1, [.ref arr, .int 0, .int (gI S 51 a), .int (nI tx.length)])) ∈ gw (ky K) G S := by
    have := gw_mem (cy := ky K) (S := S) ha.1
    rw [gce_obj (ci := 1) (fl := [.inr 20, .inl 50, .inl 51, .inl 52]) (by rw [ha.2]; rfl)] at this
    have e : [Sum.inr 20, Sum.inl 50, Sum.inl 51, Sum.inl 52].map (gfv S a) = [Value.ref arr, .int 0, .int (gI S 51 a), .int (nI tx.length)] := by
      show [va_rf (gP S 20 a), .int (gI S 50 a), .int (gI S 51 a), .int (gI S 52 a)] = _
      rw [h20, h50, h52]
      rfl
    rw [e] at this
    exact this
  have m2 : (arr, .inl ((ky K).1 0, cap, .inl (gr S arr))) ∈ gw (ky K) G S := by
    have := gw_mem (cy := ky K) (S := S) hr.1
    rw [gce_y hr.2, hn] at this
    exact this
  have hne : a ≠ arr := fun e => by
    have := ha.2
    rw [e, hr.2] at this
    cases this
  rw [List.append_nil] at hP hD
  refine k H locs cells slots ls [(a, .inr (1, [.ref arr, .int 0, .int (gI S 51 a), .int (nI tx.length)])), (arr, .inl ((ky K).1 0, cap, .inl (gr S arr)))] ⟨⟨arr, gI S 51 a, gr S arr, [], rfl, h1, h2, h3, h4, rfl⟩, ?_, ?_, hr2⟩
  · show va_P _ _ ((PX ++ _) ++ []) H
    rw [List.append_nil]
    refine gP_mem.mpr (fun q hq => gP_mem.mp hP q ?_)
    rcases List.mem_append.mp hq with h | h
    · exact List.mem_append_left _ h
    · refine List.mem_append_right _ ?_
      rcases List.mem_cons.mp h with rfl | h
      · exact m1
      · rcases List.mem_cons.mp h with rfl | h
        · exact m2
        · cases h
  · show va_D _ ((PX ++ _) ++ [])
    rw [List.append_nil]
    obtain ⟨d1, d2⟩ := gD_mem.mp hD
    rw [List.map_append] at d1
    obtain ⟨e1, e2, e3⟩ := List.nodup_append.mp d1
    refine gD_mem.mpr ⟨?_, fun q hq => ?_⟩
    · rw [List.map_append]
      refine List.nodup_append.mpr ⟨e1, ?_, fun x hx y hy => ?_⟩
      · simp [hne]
      · rcases List.mem_cons.mp hy with rfl | hy
        · exact e3 x hx _ (List.mem_map.mpr ⟨_, m1, rfl⟩)
        · rcases List.mem_cons.mp hy with rfl | hy
          · exact e3 x hx _ (List.mem_map.mpr ⟨_, m2, rfl⟩)
          · cases hy
    · rcases List.mem_append.mp hq with h | h
      · exact d2 q (List.mem_append_left _ h)
      · refine d2 q (List.mem_append_right _ ?_)
        rcases List.mem_cons.mp h with rfl | h
        · exact m1
        · rcases List.mem_cons.mp h with rfl | h
          · exact m2
          · cases h
end TG
-- one text of many
theorem gZ_app {cy : gY} : ∀ (T1 T2 : gT) (Z : va_W), gZ cy Z (T1 ++ T2) ↔ ∃ Z1 Z2, Z = Z1 ++ Z2 ∧ gZ cy Z1 T1 ∧ gZ cy Z2 T2
  | [], T2, Z => ⟨fun h => ⟨[], Z, rfl, rfl, h⟩, fun ⟨Z1, Z2, e, h1, h2⟩ => by
      have h1 : Z1 = [] := h1
      subst h1 e
      exact h2⟩
  | (a, cap, tx) :: T1, T2, Z => by
    constructor
    · rintro ⟨arr, ml, by', Z', e, h1, h2, h3, h4, h5⟩
      obtain ⟨Z1, Z2, e2, g1, g2⟩ := (gZ_app T1 T2 Z').mp h5
      exact ⟨(a, .inr (1, [.ref arr, .int 0, .int ml, .int (nI tx.length)])) :: (arr, .inl (cy.1 0, cap, .inl by')) :: Z1, Z2, by rw [e, e2]; rfl, ⟨arr, ml, by', Z1, rfl, h1, h2, h3, h4, g1⟩, g2⟩
    · rintro ⟨Z1, Z2, e, ⟨arr, ml, by', Z', e1, h1, h2, h3, h4, h5⟩, g2⟩
      exact ⟨arr, ml, by', Z' ++ Z2, by rw [e, e1]; rfl, h1, h2, h3, h4, (gZ_app T1 T2 (Z' ++ Z2)).mpr ⟨Z', Z2, rfl, h5, g2⟩⟩
theorem gZ_ad {cy : gY} : ∀ (T : gT) (Z : va_W), gZ cy Z T → ∀ q ∈ T, q.1 ∈ Z.map Prod.fst
  | (a, cap, tx) :: T, Z, ⟨arr, ml, by', Z', e, h1, h2, h3, h4, h5⟩, q, hq => by
    rw [e]
    rcases List.mem_cons.mp hq with rfl | hq
    · exact List.mem_cons_self
    · exact List.mem_cons_of_mem _ (List.mem_cons_of_mem _ (gZ_ad T Z' h5 q hq))
theorem gZ_one {cy : gY} {q : Nat × Nat × List Nat} {T : gT} {Z : va_W} (h : gZ cy Z (q :: T)) : ∃ Z1 Z2, Z = Z1 ++ Z2 ∧ gZ cy Z1 [q] ∧ gZ cy Z2 T := (gZ_app [q] T Z).mp h
theorem x_frame {K : gKx} {PX : va_W} {G : gG} {pc pc' a cap cap' : Nat} {lv lv' : List (Option Value)} {st st' : List Value} {S : gS} {c0 s0 c1 s1 : Nat} {tx tx' : List Nat} {T1 T2 : gT}
    (k1 : ∀ PX' : va_W, Xj K PX' gE pc' lv' st' sE [(a, cap', tx')] c1 s1 → Xj K PX' gE pc lv st sE [(a, cap, tx)] c0 s0)
    (kk : Xj K PX G pc' lv' st' S (T1 ++ (a, cap', tx') :: T2) c1 s1) : Xj K PX G pc lv st S (T1 ++ (a, cap, tx) :: T2) c0 s0 := by
  intro H locs cells slots ls Z h
  obtain ⟨hZ, hP, hD, hr⟩ := h
  obtain ⟨Z1, Z3, rfl, g1, g3⟩ := (gZ_app _ _ _).mp hZ
  obtain ⟨Za, Z2, rfl, ga, g2⟩ := gZ_one g3
  have pm : ∀ Zb : va_W, ((PX ++ (Z1 ++ (Zb ++ Z2))) ++ gw (ky K) G S).Perm (((PX ++ (Z1 ++ (Z2 ++ gw (ky K) G S))) ++ Zb) ++ gw (ky K) gE sE) := by
    intro Zb
    show ((PX ++ (Z1 ++ (Zb ++ Z2))) ++ gw (ky K) G S).Perm (((PX ++ (Z1 ++ (Z2 ++ gw (ky K) G S))) ++ Zb) ++ [])
    simp only [List.append_assoc, List.append_nil]
    refine List.Perm.append_left PX (List.Perm.append_left Z1 ?_)
    rw [← List.append_assoc Z2]
    exact List.perm_append_comm
  refine k1 (PX ++ (Z1 ++ (Z2 ++ gw (ky K) G S))) (fun H' locs' cells' slots' ls' Zb h' => ?_) H locs cells slots ls Za ⟨ga, gP_perm (pm Za) hP, gD_perm (pm Za) hD, hr⟩
  obtain ⟨hZ', hP', hD', hr'⟩ := h'
  refine kk H' locs' cells' slots' ls' (Z1 ++ (Zb ++ Z2)) ⟨(gZ_app _ _ _).mpr ⟨Z1, Zb ++ Z2, rfl, g1, (gZ_app [_] T2 _).mpr ⟨Zb, Z2, rfl, hZ', g2⟩⟩, gP_perm (pm Zb).symm hP', gD_perm (pm Zb).symm hD', hr'⟩
/-- a text's address is its own -/
theorem x_uT {K : gKx} {PX : va_W} {G : gG} {pc a cap : Nat} {lv : List (Option Value)} {st : List Value} {S : gS} {c0 s0 : Nat} {tx : List Nat} {T1 T2 : gT}
    (k : (∀ q ∈ T1 ++ T2, q.1 ≠ a) → Xj K PX G pc lv st S (T1 ++ (a, cap, tx) :: T2) c0 s0) : Xj K PX G pc lv st S (T1 ++ (a, cap, tx) :: T2) c0 s0 := by
  intro H locs cells slots ls Z h
  refine k ?_ H locs cells slots ls Z h
  obtain ⟨hZ, hP, hD, hr⟩ := h
  obtain ⟨Z1, Z3, rfl, g1, g3⟩ := (gZ_app _ _ _).mp hZ
  obtain ⟨Za, Z2, rfl, ga, g2⟩ := gZ_one g3
  have hn := (gD_mem.mp hD).1
  have hn2 : ((Z1 ++ (Za ++ Z2)).map Prod.fst).Nodup := by
    rw [List.map_append, List.map_append] at hn
    exact (List.nodup_append.mp (List.nodup_append.mp hn).1).2.1
  rw [List.map_append, List.map_append] at hn2
  obtain ⟨-, n2, n3⟩ := List.nodup_append.mp hn2
  obtain ⟨-, -, n4⟩ := List.nodup_append.mp n2
  have ma := gZ_ad _ _ ga _ List.mem_cons_self
  intro q hq e
  rcases List.mem_append.mp hq with hq | hq
  · exact n3 _ (gZ_ad _ _ g1 q hq) _ (List.mem_append_left _ ma) e
  · exact n4 _ ma _ (gZ_ad _ _ g2 q hq) e.symm
/-- what holds of every text -/
theorem x_iT {K : gKx} {PX : va_W} {G : gG} {pc a cap : Nat} {lv : List (Option Value)} {st : List Value} {S : gS} {c0 s0 : Nat} {tx : List Nat} {T1 T2 : gT}
    (k : tx.length ≤ cap → cap ≤ 65536 → (∀ i, i < tx.length → tx.getD i 0 < 256) → Xj K PX G pc lv st S (T1 ++ (a, cap, tx) :: T2) c0 s0) : Xj K PX G pc lv st S (T1 ++ (a, cap, tx) :: T2) c0 s0 := by
  intro H locs cells slots ls Z h
  obtain ⟨Z1, Z3, e, g1, arr, ml, by', Z', e1, h1, h2, h3, h4, h5⟩ := (gZ_app _ _ _).mp h.1
  exact k h1 h2 (fun i hi => (h3 i hi).1) H locs cells slots ls Z h
-- the receiver is the text
theorem gRecT {K : gKx} {PX : va_W} {a cap : Nat} {lv : List (Option Value)} {c0 s0 d : Nat} {own : String} {cc : ByteArray} {tx : List Nat} {H : Heap} {locs : List Loc} {cells slots : Nat} {ls : Array Slot} {Z : va_W} (g : Gd K own cc d) (h : gAt K PX gE lv sE [(a, cap, tx)] c0 s0 H locs cells slots ls Z) :
    ∃ cell : Cell, H[a]? = some cell ∧ cell.vm.isStatics = false ∧ (ks K).vm.findClass "java/lang/StringBuilder" = some cell.cls := by
  obtain ⟨arr, ml, by', Z', e, -⟩ := h.1
  have hm : (a, .inr (1, [.ref arr, .int 0, .int ml, .int (nI tx.length)])) ∈ (PX ++ Z) ++ gw (ky K) gE sE := by
    rw [e]
    exact List.mem_append_left _ (List.mem_append_right _ List.mem_cons_self)
  obtain ⟨q0, hq⟩ := List.getElem?_of_mem hm
  exact va_recv g.2.1.1 h.2.1 (ci := 1) rfl hq
theorem selP {x0 y : MethodName} {s : State} {args : Array Value} {C : String} {n : Nat} (hy : y.cls ≠ "java/lang/invoke/MethodHandle" ∧ y.cls ≠ "java/lang/invoke/VarHandle") (hy0 : x0.cls ≠ "java/lang/invoke/MethodHandle" ∧ x0.cls ≠ "java/lang/invoke/VarHandle") (hx : x0.cls = y.cls)
    (h0 : (Cond.selects C x0 x0).before args s = true) (hin0 : (Cond.instanceMethod x0).before args s = true) (hins : (Cond.instantiable C n).before args s = true) (hpriv : (Cond.privateMethod y).before args s = true) (hinst : (Cond.instanceMethod y).before args s = true) : (Cond.selects C y y).before args s = true := by
  obtain ⟨c, k, hc, hk, -, -, -, -⟩ := Cond.instantiable_spec hins
  obtain ⟨mk, methM, hnamed, hmethM, -, -⟩ := Cond.instanceMethod_spec hinst
  obtain ⟨mk0, methM0, hnamed0, -, -, -⟩ := Cond.instanceMethod_spec hin0
  have hfound : s.methodFound? y.cls y.name y.desc = some mk := State.methodFound?_of_named hnamed hy
  have hfound0 : s.methodFound? x0.cls x0.name x0.desc = some mk0 := State.methodFound?_of_named hnamed0 hy0
  have hcl : mk0.cls = mk.cls := by
    have e0 := findClass_of_methodNamed hnamed0
    have e1 := findClass_of_methodNamed hnamed
    rw [hx] at e0
    exact Option.some.inj (e0.symm.trans e1)
  have hsel : selectMethod {} s.vm c mk = .method mk := selectMethod_private hmethM (Cond.privateMethod_at hpriv mk methM hnamed hmethM)
  simp only [Cond.before, Cond.holds, Cond.value, hc, hfound0, hnamed0] at h0
  have hni : (s.vm.classes[mk.cls]?).any (!·.isInterface) = true := by
    rw [← hcl]
    generalize selectMethod {} s.vm c mk0 = z at h0
    cases z <;> simp at h0
    simpa using h0.2
  simp only [Cond.before, Cond.holds, Cond.value, hc, hfound, hnamed, hsel]
  simpa using hni
theorem x_callVT {K : gKx} {PX : va_W} {pc a cap cap' idx n : Nat} {lv : List (Option Value)} {st rest As : List Value} {tx tx' : List Nat} {c0 s0 : Nat} {own : String} {cc : ByteArray} {d d' mc ms maxL : Nat} {ret : Option FieldType} {bytes : ByteArray} {y : MethodName} {v : Option Value} (st2 : List Value) (g : Gd K own cc d)
    (hC : Ct (ky K).2 y (Cond.code y bytes maxL ret :: gTb) d' mc ms (.ref a :: As) gE sE [(a, cap, tx)] v gE sE [(a, cap', tx')]) (hca : gCa y bytes maxL ret n) (hin : Cond.instanceMethod y ∈ lw_tbl) (hse : (Cond.selects "java/lang/StringBuilder" y y).before (ka K) (ks K) = true) (hlk : Cond.methodLink own idx y ∈ lw_tbl)
    (hd : d' + 1 ≤ d) (hc : mc ≤ c0) (hs : ms ≤ s0) (hn : As.length = n) (hst : st = As.reverse ++ .ref a :: rest) (hW : (rest.map fun v => v.category).sum ≤ 8) (hdg : decode cc pc = .ok (.invokevirtual idx, 3)) (h2 : v.toList ++ rest = st2)
    (k : Xj K PX gE (pc + 3) lv st2 sE [(a, cap', tx')] (c0 - mc) (s0 - ms)) : Xj K PX gE pc lv st sE [(a, cap, tx)] c0 s0 := by
  refine x_run (a := (Value.ref a :: As).toArray) g hc hs h2 (fun H locs cells slots ls Z hat hcap => ?_) k
  have hM := hC (kl K) (kD K) (ky K).1 Z H.size g.2.2.2.1 hat.1
  exact va_runV (cc := cc) (nL := kN K) (Ts := gTb) (own := own) (n := n) (C := "java/lang/StringBuilder") g.1 hM ⟨callB_of n g.1.2.2.2.2 (gGood hca.1) rfl rfl rfl (g.tb hca.2.1 rfl) (g.tb hlk rfl) hca.2.2.1 (gRoom g hd hca.2.2.2), g.tb hin rfl, hse⟩
    ⟨gF_blind, gRecT g hat, fun U hU hW => ⟨rfl, gGive g hat U hU hW⟩⟩ rfl hn hat.2.2.2.2.1.1 hst (lv_room hW) hdg hcap
theorem x_callUT {K : gKx} {PX : va_W} {pc a cap cap' idx n : Nat} {lv : List (Option Value)} {st rest As : List Value} {tx tx' : List Nat} {c0 s0 : Nat} {cc : ByteArray} {d d' mc ms maxL : Nat} {ret : Option FieldType} {bytes : ByteArray} {y : MethodName} {v : Option Value} (st2 : List Value) (g : Gd K "java/lang/StringBuilder" cc d)
    (hC : Ct (ky K).2 y (Cond.code y bytes maxL ret :: gTb) d' mc ms (.ref a :: As) gE sE [(a, cap, tx)] v gE sE [(a, cap', tx')]) (hca : gCa y bytes maxL ret n) (hcl : y.cls = "java/lang/AbstractStringBuilder") (hni : y.name ≠ "<init>") (hin : Cond.instanceMethod y ∈ lw_tbl) (hsm : Cond.sameMethod y.cls y.cls y.name y.desc ∈ lw_tbl) (hlk : Cond.methodLink "java/lang/StringBuilder" idx y ∈ lw_tbl)
    (hd : d' + 1 ≤ d) (hc : mc ≤ c0) (hs : ms ≤ s0) (hn : As.length = n) (hst : st = As.reverse ++ .ref a :: rest) (hW : (rest.map fun v => v.category).sum ≤ 8) (hdg : decode cc pc = .ok (.invokespecial idx, 3)) (h2 : v.toList ++ rest = st2)
    (k : Xj K PX gE (pc + 3) lv st2 sE [(a, cap', tx')] (c0 - mc) (s0 - ms)) : Xj K PX gE pc lv st sE [(a, cap, tx)] c0 s0 := by
  refine x_run (a := (Value.ref a :: As).toArray) g hc hs h2 (fun H locs cells slots ls Z hat hcap => ?_) k
  have hM := hC (kl K) (kD K) (ky K).1 Z H.size g.2.2.2.1 hat.1
  have hG := gGood hca.1
  have hr := gRoom g hd hca.2.2.2 (mc := mc) (ms := ms)
  refine va_runSU (cc := cc) (nL := kN K) (Ts := gTb) (own := "java/lang/StringBuilder") (n := n) ((g.2.1.1.1 1 _ rfl).2) g.1 hM ⟨⟨rfl, rfl, hr.1, hr.2, pay_in g.1.2.2.2.2 hG, List.mem_cons_self⟩, g.tb hlk rfl, g.tb hsm rfl, ?_, g.tb hin rfl, g.tb hca.2.1 rfl, g.tb hca.1 rfl, hni, ?_⟩
    ⟨gF_blind, gRecT g hat, fun U hU hW => ⟨rfl, gGive g hat U hU hW⟩⟩ rfl hn hat.2.2.2.2.1.1 hst (lv_room hW) hdg hcap
  · rw [hcl]
    exact g.tb sc_SB rfl
  · intro sig h
    have h2 := hca.2.2.1.2.2
    rw [h] at h2
    exact (Option.some.inj h2).symm
