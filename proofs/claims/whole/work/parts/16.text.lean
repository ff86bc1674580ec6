/-! texts: what the class asks of its StringBuilders and of its constants' texts -/
def tg (T : gT) (a : Nat) : Option (List Nat) := (T.find? (fun q => q.1 == a)).map (fun q => q.2.2)
def tc (T : gT) (a : Nat) : Option Nat := (T.find? (fun q => q.1 == a)).map (fun q => q.2.1)
def ts (T : gT) (a : Nat) (tx : List Nat) : gT := T.map (fun q => if q.1 = a then (q.1, sb_cap tx.length q.2.1, tx) else q)
def gcap (T : gT) (a : Nat) : Prop := tc T a = some 16 ∨ tc T a = some 34 ∨ tc T a = some 70
def gdec (v : Nat) : List Nat := (List.range (sb_dg v)).map (fun i => sb_dec v i)
def gpot (c : Nat) : Nat := if c < 34 then 2 else if c < 70 then 1 else 0
def gpos (c : Nat) : Nat := if c < 34 then 104 else if c < 70 then 70 else 0
def gpc (T : gT) : Nat := (T.map fun q => gpot q.2.1).sum
def gps (T : gT) : Nat := (T.map fun q => gpos q.2.1).sum

/-! the JDK's methods that the class reaches (laid by wip/whole/mkjdk.py) -/
theorem x_eqi {K : gKx} {PX : va_W} {G : gG} {pc : Nat} {lv : List (Option Value)} {st : List Value} {S : gS} {T : gT} {c0 s0 : Nat} {x : Int32} (y : Int32) (h : x = y) (k : Xj K PX G pc lv (.int y :: st) S T c0 s0) : Xj K PX G pc lv (.int x :: st) S T c0 s0 := h ▸ k
theorem x_callVP {K : gKx} {PX : va_W} {G G' : gG} {pc b idx n : Nat} {lv : List (Option Value)} {st rest As : List Value} {S S' : gS} {T T' : gT} {c0 s0 : Nat} {own : String} {cc : ByteArray} {d d' mc ms maxL : Nat} {ret : Option FieldType} {bytes : ByteArray} {y : MethodName} {v : Option Value} (st2 : List Value) (g : Gd K own cc d)
    (hC : Ct (ky K).2 y (Cond.code y bytes maxL ret :: gTb) d' mc ms (.ref b :: As) G S T v G' S' T') (hca : gCa y bytes maxL ret n) (hin : Cond.instanceMethod y ∈ lw_tbl) (hse : (Cond.selects "java/lang/StringBuilder" y y).before (ka K) (ks K) = true) (hlk : Cond.methodLink own idx y ∈ lw_tbl)
    (hb : gis G 4 b) (hd : d' + 1 ≤ d) (hc : mc ≤ c0) (hs : ms ≤ s0) (hn : As.length = n) (hst : st = As.reverse ++ .ref b :: rest) (hW : (rest.map fun v => v.category).sum ≤ 8) (hdg : decode cc pc = .ok (.invokevirtual idx, 3)) (h2 : v.toList ++ rest = st2)
    (k : Xj K PX G' (pc + 3) lv st2 S' T' (c0 - mc) (s0 - ms)) : Xj K PX G pc lv st S T c0 s0 := by
  refine x_run (a := (Value.ref b :: As).toArray) g hc hs h2 (fun H locs cells slots ls Z hat hcap => ?_) k
  have hM := hC (kl K) (kD K) (ky K).1 Z H.size g.2.2.2.1 hat.1
  obtain ⟨q0, hq0⟩ := va_pl_get (X := PX ++ Z) (f := gce (ky K) G S) hb.1
  rw [gce_obj (ci := 1) (fl := [.inr 20, .inl 50, .inl 51, .inl 52]) (by rw [hb.2]; rfl)] at hq0
  have hrec := va_recv g.2.1.1 hat.2.1 (ci := 1) rfl hq0
  exact va_runV (cc := cc) (nL := kN K) (Ts := gTb) (own := own) (n := n) (C := "java/lang/StringBuilder") g.1 hM ⟨callB_of n g.1.2.2.2.2 (gGood hca.1) rfl rfl rfl (g.tb hca.2.1 rfl) (g.tb hlk rfl) hca.2.2.1 (gRoom g hd hca.2.2.2), g.tb hin rfl, hse⟩
    ⟨gF_blind, hrec, fun U hU hW => ⟨rfl, gGive g hat U hU hW⟩⟩ rfl hn hat.2.2.2.2.1.1 hst (lv_room hW) hdg hcap
theorem x_callUP {K : gKx} {PX : va_W} {G G' : gG} {pc b idx n : Nat} {lv : List (Option Value)} {st rest As : List Value} {S S' : gS} {T T' : gT} {c0 s0 : Nat} {cc : ByteArray} {d d' mc ms maxL : Nat} {ret : Option FieldType} {bytes : ByteArray} {y : MethodName} {v : Option Value} (st2 : List Value) (g : Gd K "java/lang/StringBuilder" cc d)
    (hC : Ct (ky K).2 y (Cond.code y bytes maxL ret :: gTb) d' mc ms (.ref b :: As) G S T v G' S' T') (hca : gCa y bytes maxL ret n) (hcl : y.cls = "java/lang/AbstractStringBuilder") (hni : y.name ≠ "<init>") (hin : Cond.instanceMethod y ∈ lw_tbl) (hsm : Cond.sameMethod y.cls y.cls y.name y.desc ∈ lw_tbl) (hlk : Cond.methodLink "java/lang/StringBuilder" idx y ∈ lw_tbl)
    (hb : gis G 4 b) (hd : d' + 1 ≤ d) (hc : mc ≤ c0) (hs : ms ≤ s0) (hn : As.length = n) (hst : st = As.reverse ++ .ref b :: rest) (hW : (rest.map fun v => v.category).sum ≤ 8) (hdg : decode cc pc = .ok (.invokespecial idx, 3)) (h2 : v.toList ++ rest = st2)
    (k : Xj K PX G' (pc + 3) lv st2 S' T' (c0 - mc) (s0 - ms)) : Xj K PX G pc lv st S T c0 s0 := by
  refine x_run (a := (Value.ref b :: As).toArray) g hc hs h2 (fun H locs cells slots ls Z hat hcap => ?_) k
  have hM := hC (kl K) (kD K) (ky K).1 Z H.size g.2.2.2.1 hat.1
  obtain ⟨q0, hq0⟩ := va_pl_get (X := PX ++ Z) (f := gce (ky K) G S) hb.1
  rw [gce_obj (ci := 1) (fl := [.inr 20, .inl 50, .inl 51, .inl 52]) (by rw [hb.2]; rfl)] at hq0
  have hrec := va_recv g.2.1.1 hat.2.1 (ci := 1) rfl hq0
  have hG := gGood hca.1
  have hr := gRoom g hd hca.2.2.2 (mc := mc) (ms := ms)
  refine va_runSU (cc := cc) (nL := kN K) (Ts := gTb) (own := "java/lang/StringBuilder") (n := n) ((g.2.1.1.1 1 _ rfl).2) g.1 hM ⟨⟨rfl, rfl, hr.1, hr.2, pay_in g.1.2.2.2.2 hG, List.mem_cons_self⟩, g.tb hlk rfl, g.tb hsm rfl, ?_, g.tb hin rfl, g.tb hca.2.1 rfl, g.tb hca.1 rfl, hni, ?_⟩
    ⟨gF_blind, hrec, fun U hU hW => ⟨rfl, gGive g hat U hU hW⟩⟩ rfl hn hat.2.2.2.2.1.1 hst (lv_room hW) hdg hcap
  · rw [hcl]
    exact g.tb sc_SB rfl
  · intro sig h
    have h2 := hca.2.2.1.2.2
    rw [h] at h2
    exact (Option.some.inj h2).symm
section HZJ
variable {K : gKx} {own : String} {cc : ByteArray} {d : Nat}
theorem hzCS (g : Gd K own cc d) : va_Z "java/lang/String" "COMPACT_STRINGS" "Z" (.int 1) (kA K) (ks K) (ks K).heap := g.2.2.1.2.2.2.2.2.2.2.2.2.2.1
theorem hzD1 (g : Gd K own cc d) : va_Z "java/lang/Integer" "DigitOnes" "[B" (.ref ((ky K).2 50)) (kA K) (ks K) (ks K).heap := g.2.2.1.2.2.2.2.2.2.2.2.2.2.2.1
theorem hzT1 (g : Gd K own cc d) : va_T .byte ((ky K).2 50) 100 (fun j => .int (nI (48 + j % 10))) (kA K) (ks K) (ks K).heap := g.2.2.1.2.2.2.2.2.2.2.2.2.2.2.2.1
theorem hzD2 (g : Gd K own cc d) : va_Z "java/lang/Integer" "DigitTens" "[B" (.ref ((ky K).2 51)) (kA K) (ks K) (ks K).heap := g.2.2.1.2.2.2.2.2.2.2.2.2.2.2.2.2.1
theorem hzT2 (g : Gd K own cc d) : va_T .byte ((ky K).2 51) 100 (fun j => .int (nI (48 + j / 10))) (kA K) (ks K) (ks K).heap := g.2.2.1.2.2.2.2.2.2.2.2.2.2.2.2.2.2.1
theorem hzSF (g : Gd K own cc d) : va_Zq "jdk/internal/util/Preconditions" "SIOOBE_FORMATTER" "Ljava/util/function/BiFunction;" (kA K) (ks K) (ks K).heap := g.2.2.1.2.2.2.2.2.2.2.2.2.2.2.2.2.2.2
theorem hzV (g : Gd K own cc d) {k : Nat} (hk : k < 8) : va_OF "java/lang/String" "value" "[B" (.ref ((ky K).2 (30 + k))) ((ky K).2 (20 + k)) (kA K) (ks K) (ks K).heap := (g.2.2.1.2.2.2.2.2.1.1 k hk).2.2.1
theorem hzCo (g : Gd K own cc d) {k : Nat} (hk : k < 8) : va_OF "java/lang/String" "coder" "B" (.int 0) ((ky K).2 (20 + k)) (kA K) (ks K) (ks K).heap := (g.2.2.1.2.2.2.2.2.1.1 k hk).2.1
theorem hzB (g : Gd K own cc d) {k : Nat} (hk : k < 8) : va_T .byte ((ky K).2 (30 + k)) (gfl k) (fun j => .int (gfc k j)) (kA K) (ks K) (ks K).heap := (g.2.2.1.2.2.2.2.2.1.1 k hk).2.2.2
theorem seI (g : Gd K own cc d) : (Cond.selects "java/lang/StringBuilder" yJ5_isLatin1_aae02 yJ5_isLatin1_aae02).before (ka K) (ks K) = true := g.tb se_J5_isLatin1_aae02_b rfl
theorem seE (g : Gd K own cc d) : (Cond.selects "java/lang/StringBuilder" yJ5_ensureCapacityInternal_d00df yJ5_ensureCapacityInternal_d00df).before (ka K) (ks K) = true := selP (x0 := yJ5_isLatin1_aae02) (n := 4) (by decide) (by decide) rfl (seI g) (g.tb in_J5_isLatin1_aae02 rfl) (g.tb (w_tb 140 (by decide +kernel)) rfl) (g.tb (w_tb 949 (by decide +kernel)) rfl) (g.tb in_J5_ensureCapacityInternal_d00df rfl)
theorem seN (g : Gd K own cc d) : (Cond.selects "java/lang/StringBuilder" yJ5_newCapacity_0f7a4 yJ5_newCapacity_0f7a4).before (ka K) (ks K) = true := selP (x0 := yJ5_isLatin1_aae02) (n := 4) (by decide) (by decide) rfl (seI g) (g.tb in_J5_isLatin1_aae02 rfl) (g.tb (w_tb 140 (by decide +kernel)) rfl) (g.tb (w_tb 953 (by decide +kernel)) rfl) (g.tb in_J5_newCapacity_0f7a4 rfl)
end HZJ
theorem x_tbB {K : gKx} {PX : va_W} {G : gG} {pc b N : Nat} {lv : List (Option Value)} {st : List Value} {S : gS} {T : gT} {c0 s0 d : Nat} {own : String} {cc : ByteArray} {f : Nat → Value} {i : Int32} (v : Value) (g : Gd K own cc d) (hdg : decode cc pc = .ok (.baload, 1)) (hT : va_T .byte b N f (kA K) (ks K) (ks K).heap) (hin : vp_in i N) (hv : f (Int32.toNatClampNeg i) = v) (k : Xj K PX G (pc + 1) lv (v :: st) S T c0 s0) : Xj K PX G pc lv (.int i :: .ref b :: st) S T c0 s0 :=
  fun H locs cells slots ls Z h => va_tb g.1.1 g.1.2.1 hT h.2.2.2.1 hin hv hdg (k H locs cells slots ls Z h)
theorem x_tbL {K : gKx} {PX : va_W} {G : gG} {pc b N : Nat} {lv : List (Option Value)} {st : List Value} {S : gS} {T : gT} {c0 s0 d : Nat} {own : String} {cc : ByteArray} {f : Nat → Value} (g : Gd K own cc d) (hdg : decode cc pc = .ok (.arraylength, 1)) (hT : va_T .byte b N f (kA K) (ks K) (ks K).heap) (k : Xj K PX G (pc + 1) lv (.int (nI N) :: st) S T c0 s0) : Xj K PX G pc lv (.ref b :: st) S T c0 s0 := by
  intro H locs cells slots ls Z h
  obtain ⟨cell, h1, h2, h3, h4, h5, h6, h7⟩ := va_T.kept hT h.2.2.2.1.2.1
  exact W.alen g.1.1 g.1.2.1 h1 h2 h5 rfl rfl hdg (k H locs cells slots ls Z h)
theorem x_acpyB {K : gKx} {PX : va_W} {G : gG} {pc a a0 idx : Nat} {lv : List (Option Value)} {st : List Value} {S : gS} {T : gT} {c0 s0 d : Nat} {own : String} {cc : ByteArray} {n : Int32} (g : Gd K own cc d) (hdg : decode cc pc = .ok (.invokestatic idx, 3)) (hlk : Cond.methodLink own idx arraycopyName ∈ lw_tbl) (hd : 1 ≤ d) (h0 : gis G 5 a0) (h1 : gis G 5 a) (hn : ¬ n < 0 ∧ Int32.toNatClampNeg n ≤ gn G a0 ∧ Int32.toNatClampNeg n ≤ gn G a) (hf : sb_Fit (gr S a0)) (hW : (st.map fun v => v.category).sum ≤ 8)
    (k : Xj K PX G (pc + 3) lv st (srow S a (va_cpy (gr S a0) (gr S a) 0 0 (Int32.toNatClampNeg n))) T c0 s0) : Xj K PX G pc lv (.int n :: .int 0 :: .ref a :: .int 0 :: .ref a0 :: st) S T c0 s0 := by
  intro H locs cells slots ls Z h
  obtain ⟨q0, hq⟩ := gFind (cy := ky K) (PX := PX ++ Z) (S := S) h0.1
  obtain ⟨q1, hr⟩ := gFind (cy := ky K) (PX := PX ++ Z) (S := S) h1.1
  have hr2 := hr
  rw [gce_y h0.2] at hq
  rw [gce_y h1.2] at hr
  have hR := g.2.2.2.2.2.2
  have hb := h.2.2.2.2.2
  have hfr : 1 ≤ (kR K).frames := by rw [hR]; exact hd
  have hw : nativeFrameWords "java/lang/System" "arraycopy" 5 ≤ 40 := by decide
  have hlc : (st.map fun v => v.category).sum + (nativeFrameWords "java/lang/System" "arraycopy" 5 + 11) ≤ (kR K).locals := by
    rw [hR]
    show _ ≤ 64 * d
    omega
  refine va_copyi (D := kD K) (own := own) (sp := 0) (dp := 0) (ty := .byte) g.1.1 g.1.2.1 (g.1.2.2.1.trans h.2.2.2.2.1.1.symm) g.1.2.2.2.1 (g.tb hlk rfl) (g.tb (w_tb 348 (by decide +kernel)) rfl) (g.tb (w_tb 347 (by decide +kernel)) rfl) (g.tb (w_tb 20 (by decide +kernel)) rfl) g.2.1.1 h.2.1 h.2.2.1 h.2.2.2.1 q0 q1 0 0 hq hr rfl rfl rfl (by decide) (by decide) hn.1 (by rw [sb_cl0, Nat.zero_add]; exact hn.2.1) (by rw [sb_cl0, Nat.zero_add]; exact hn.2.2) (fun _ _ => hf _) hfr hlc hdg (fun H1 locs1 hP hD hS => ?_)
  have e : ((PX ++ Z) ++ gw (ky K) G S).set q1 (a, .inl ((ky K).1 0, gn G a, .inl (va_cpy (gr S a0) (gr S a) (0 : Int32).toNatClampNeg (0 : Int32).toNatClampNeg n.toNatClampNeg))) = (PX ++ Z) ++ gw (ky K) G (srow S a (va_cpy (gr S a0) (gr S a) 0 0 (Int32.toNatClampNeg n))) := by
    rw [sb_cl0]
    exact gPut h.2.2.1 h1.1 hr2 (gup_row (cy := ky K) (G := G) (S := S) (va_cpy (gr S a0) (gr S a) 0 0 (Int32.toNatClampNeg n)) _ (by rw [gce_y h1.2, gr_row]))
  rw [e] at hP hD
  exact k H1 locs1 cells slots ls Z ⟨h.1, hP, hD, hS, h.2.2.2.2⟩

theorem kJ5_isLatin1 {ad : Nat → Nat} {a : Nat} {G : gG} {S : gS} (ha : gis G 4 a) (h50 : gI S 50 a = 0) : Ct ad yJ5_isLatin1_aae02 (Cond.code yJ5_isLatin1_aae02 cJ5_isLatin1_aae02 1 (some .boolean) :: gTb) 0 0 0 [.ref a] G S [] (some (.int 1)) G S [] := by
  refine Ct.of rfl (Nat.le_of_ble_eq_true rfl) (fun v hv => by simp at hv; subst hv; rfl) (fun K g e hK => ?_)
  obtain ⟨rfl, -⟩ := hK
  show Xj K [] G 0 [some (.ref a)] [] S [] 0 0
  refine x_gst g dJ5_isLatin1_aae02_0 (hzCS g) ls_J5_18 ?_
  refine x_if_eq 17 g dJ5_isLatin1_aae02_3 (by decide) (fun c => absurd c (by decide)) (fun _ => ?_)
  refine x_aload_n 0 g dJ5_isLatin1_aae02_6 rfl rfl ?_
  refine x_getiS g dJ5_isLatin1_aae02_7 gXJ4 1 50 rfl (by decide) lf_J5_22 ha ?_
  refine x_if_ne 17 g dJ5_isLatin1_aae02_10 (by decide) (fun c => absurd h50 c) (fun _ => ?_)
  refine x_iconst (v := 1) g dJ5_isLatin1_aae02_13 (by decide) ?_
  refine x_goto 18 g dJ5_isLatin1_aae02_14 (by decide) ?_
  exact x_zret rfl g e dJ5_isLatin1_aae02_18

theorem kJ5_length {ad : Nat → Nat} {a : Nat} {G : gG} {S : gS} (ha : gis G 4 a) : Ct ad yJ5_length_8abf5 (Cond.code yJ5_length_8abf5 cJ5_length_8abf5 1 (some .int) :: gTb) 0 0 0 [.ref a] G S [] (some (.int (gI S 52 a))) G S [] := by
  refine Ct.of rfl (Nat.le_of_ble_eq_true rfl) (fun v hv => by simp at hv; subst hv; rfl) (fun K g e hK => ?_)
  obtain ⟨rfl, -⟩ := hK
  show Xj K [] G 0 [some (.ref a)] [] S [] 0 0
  refine x_aload_n 0 g dJ5_length_8abf5_0 rfl rfl ?_
  refine x_getiS g dJ5_length_8abf5_1 gXJ4 3 52 rfl (by decide) lf_J5_79 ha ?_
  exact x_iret g e dJ5_length_8abf5_4

theorem kJ1_canEncode {ad : Nat → Nat} {c : Nat} {G : gG} {S : gS} {T : gT} (hc : c < 256) : Ct ad yJ1_canEncode_fc78d (Cond.code yJ1_canEncode_fc78d cJ1_canEncode_fc78d 1 (some .boolean) :: gTb) 0 0 0 [.int (nI c)] G S T (some (.int 1)) G S T := by
  refine Ct.of rfl (Nat.le_of_ble_eq_true rfl) (fun v hv => by simp at hv; subst hv; rfl) (fun K g e hK => ?_)
  obtain ⟨rfl, -⟩ := hK
  show Xj K [] G 0 [some (.int (nI c))] [] S T 0 0
  refine x_iload_n 0 g dJ1_canEncode_fc78d_0 rfl rfl ?_
  refine x_sipush (v := 255) g dJ1_canEncode_fc78d_1 (by decide) ?_
  refine x_icmp_gt 11 g dJ1_canEncode_fc78d_4 (by decide) (fun c9 => absurd c9 (nI_nlt (by omega) (by decide))) (fun _ => ?_)
  refine x_iconst (v := 1) g dJ1_canEncode_fc78d_7 (by decide) ?_
  refine x_goto 12 g dJ1_canEncode_fc78d_8 (by decide) ?_
  exact x_zret rfl g e dJ1_canEncode_fc78d_12

theorem kJ8_newLength {ad : Nat → Nat} {m x y r : Nat} {G : gG} {S : gS} {T : gT} (h0 : 0 < r) (hr : r ≤ 65536) (he : nI m + (if nI x < nI y then nI y else nI x) = nI r) : Ct ad yJ8_newLength_cabcc (Cond.code yJ8_newLength_cabcc cJ8_newLength_cabcc 4 (some .int) :: gTb) 1 0 0 [.int (nI m), .int (nI x), .int (nI y)] G S T (some (.int (nI r))) G S T := by
  refine Ct.of rfl (Nat.le_of_ble_eq_true rfl) (fun v hv => by simp at hv; rcases hv with rfl | rfl | rfl <;> rfl) (fun K g e hK => ?_)
  obtain ⟨rfl, -⟩ := hK
  show Xj K [] G 0 [some (.int (nI m)), some (.int (nI x)), some (.int (nI y)), none] [] S T 0 0
  refine x_iload_n 0 g dJ8_newLength_cabcc_0 rfl rfl ?_
  refine x_iload_n 1 g dJ8_newLength_cabcc_1 rfl rfl ?_
  refine x_iload_n 2 g dJ8_newLength_cabcc_2 rfl rfl ?_
  refine x_mmax g lmm_J8_194 (by decide) (Nat.le_of_ble_eq_true rfl) dJ8_newLength_cabcc_3 ?_
  refine x_iadd g dJ8_newLength_cabcc_6 ?_
  refine x_eqi (nI r) he ?_
  refine x_istore_n 3 g dJ8_newLength_cabcc_7 rfl (Nat.le_of_ble_eq_true rfl) rfl ?_
  refine x_iconst (v := 0) g dJ8_newLength_cabcc_8 (by decide) ?_
  refine x_iload_n 3 g dJ8_newLength_cabcc_9 rfl rfl ?_
  refine x_icmp_ge 21 g dJ8_newLength_cabcc_10 (by decide) (fun c9 => absurd c9 (nI_nle h0 (by omega))) (fun _ => ?_)
  refine x_iload_n 3 g dJ8_newLength_cabcc_13 rfl rfl ?_
  refine x_ldc g dJ8_newLength_cabcc_14 lk_J8_200 ?_
  refine x_icmp_gt 21 g dJ8_newLength_cabcc_16 (by decide) (fun c9 => absurd c9 (show ¬ nI 2147483639 < nI r from nI_nlt (by omega) (by decide))) (fun _ => ?_)
  refine x_iload_n 3 g dJ8_newLength_cabcc_19 rfl rfl ?_
  exact x_iret g e dJ8_newLength_cabcc_20

theorem kJ5_newCapacity {ad : Nat → Nat} {a arr q m : Nat} {G : gG} {S : gS} (ha : gis G 4 a) (hr : gis G 5 arr) (hn : gn G arr = m) (h20 : gP S 20 a = some arr) (h50 : gI S 50 a = 0) (hq : m < q) (hq2 : sb_cap q m ≤ 65536) : Ct ad yJ5_newCapacity_0f7a4 (Cond.code yJ5_newCapacity_0f7a4 cJ5_newCapacity_0f7a4 6 (some .int) :: gTb) 2 0 0 [.ref a, .int (nI q)] G S [] (some (.int (nI (sb_cap q m)))) G S [] := by
  refine Ct.of rfl (Nat.le_of_ble_eq_true rfl) (fun v hv => by simp at hv; rcases hv with rfl | rfl <;> rfl) (fun K g e hK => ?_)
  obtain ⟨rfl, -⟩ := hK
  show Xj K [] G 0 [some (.ref a), some (.int (nI q)), none, none, none, none] [] S [] 0 0
  have e2 : nI m + ((2 : Int32) <<< ((0 : Int32) &&& 31)) = nI (m + 2) := by
    rw [sb_shl0]
    exact nI_add m 2
  have hc : sb_cap q m = m + (if q - m < m + 2 then m + 2 else q - m) := by
    unfold sb_cap
    rw [if_neg (by omega)]
    split <;> split <;> omega
  have hg := sb_cap_ge q m
  have e3 : nI m + (if nI (q - m) < nI (m + 2) then nI (m + 2) else nI (q - m)) = nI (sb_cap q m) := by
    rw [hc]
    by_cases h2 : q - m < m + 2
    · rw [if_pos h2, if_pos (nI_lt h2 (by omega))]
      exact nI_add m (m + 2)
    · rw [if_neg h2, if_neg (nI_nlt (by omega) (by omega))]
      exact nI_add m (q - m)
  refine x_aload_n 0 g dJ5_newCapacity_0f7a4_0 rfl rfl ?_
  refine x_getrS g dJ5_newCapacity_0f7a4_1 gXJ4 0 20 rfl (by decide) lf_J5_15 ha h20 ?_
  refine x_leny g dJ5_newCapacity_0f7a4_4 hr ?_
  refine x_eqi (nI m) (congrArg Int32.ofNat hn) ?_
  refine x_istore_n 2 g dJ5_newCapacity_0f7a4_5 rfl (Nat.le_of_ble_eq_true rfl) rfl ?_
  refine x_iload_n 1 g dJ5_newCapacity_0f7a4_6 rfl rfl ?_
  refine x_aload_n 0 g dJ5_newCapacity_0f7a4_7 rfl rfl ?_
  refine x_getiS g dJ5_newCapacity_0f7a4_8 gXJ4 1 50 rfl (by decide) lf_J5_22 ha ?_
  refine x_eqi 0 h50 ?_
  refine x_ishl g dJ5_newCapacity_0f7a4_11 ?_
  refine x_eqi (nI q) (sb_shl0 _) ?_
  refine x_istore_n 3 g dJ5_newCapacity_0f7a4_12 rfl (Nat.le_of_ble_eq_true rfl) rfl ?_
  refine x_iload_n 3 g dJ5_newCapacity_0f7a4_13 rfl rfl ?_
  refine x_iload_n 2 g dJ5_newCapacity_0f7a4_14 rfl rfl ?_
  refine x_isub g dJ5_newCapacity_0f7a4_15 ?_
  refine x_eqi (nI (q - m)) (pk_sub (by omega)) ?_
  refine x_istore (i := 4) g dJ5_newCapacity_0f7a4_16 (Nat.le_of_ble_eq_true rfl) rfl ?_
  refine x_iload_n 2 g dJ5_newCapacity_0f7a4_18 rfl rfl ?_
  refine x_iload (i := 4) g dJ5_newCapacity_0f7a4_19 rfl ?_
  refine x_iload_n 2 g dJ5_newCapacity_0f7a4_21 rfl rfl ?_
  refine x_iconst (v := 2) g dJ5_newCapacity_0f7a4_22 (by decide) ?_
  refine x_aload_n 0 g dJ5_newCapacity_0f7a4_23 rfl rfl ?_
  refine x_getiS g dJ5_newCapacity_0f7a4_24 gXJ4 1 50 rfl (by decide) lf_J5_22 ha ?_
  refine x_eqi 0 h50 ?_
  refine x_ishl g dJ5_newCapacity_0f7a4_27 ?_
  refine x_iadd g dJ5_newCapacity_0f7a4_28 ?_
  refine x_eqi (nI (m + 2)) e2 ?_
  refine x_cS [.int (nI (sb_cap q m))] g (kJ8_newLength (by omega) hq2 e3) ca_J8_newLength_cabcc st_J8_newLength_cabcc lm_J5_114 (Nat.le_of_ble_eq_true rfl) rfl rfl (Nat.le_of_ble_eq_true rfl) dJ5_newCapacity_0f7a4_29 rfl ?_
  refine x_istore (i := 5) g dJ5_newCapacity_0f7a4_32 (Nat.le_of_ble_eq_true rfl) rfl ?_
  refine x_iload (i := 5) g dJ5_newCapacity_0f7a4_34 rfl ?_
  refine x_ldc g dJ5_newCapacity_0f7a4_36 lk_J5_39 ?_
  refine x_icmp_ne 51 g dJ5_newCapacity_0f7a4_38 (by decide) (fun _ => ?_) (fun c9 => absurd c9 (fun z9 => by have := (nI_eq (by omega) (by decide)).mp (show nI (sb_cap q m) = nI 2147483647 from z9); omega))
  refine x_iload (i := 5) g dJ5_newCapacity_0f7a4_51 rfl ?_
  refine x_aload_n 0 g dJ5_newCapacity_0f7a4_53 rfl rfl ?_
  refine x_getiS g dJ5_newCapacity_0f7a4_54 gXJ4 1 50 rfl (by decide) lf_J5_22 ha ?_
  refine x_eqi 0 h50 ?_
  refine x_ishr g dJ5_newCapacity_0f7a4_57 ?_
  refine x_eqi (nI (sb_cap q m)) (sb_shr0 _) ?_
  exact x_iret g e dJ5_newCapacity_0f7a4_58

theorem kJ7_copyOf {ad : Nat → Nat} {arr q m : Nat} {G : gG} {S : gS} (hr : gis G 5 arr) (hn : gn G arr = m) (hq : m < q) (hq2 : q ≤ 65536) (hf : sb_Fit (gr S arr)) : CtR ad yJ7_copyOf_9075b (Cond.code yJ7_copyOf_9075b cJ7_copyOf_9075b 3 (some ( .array  .byte)) :: gTb) 1 (0 + 1) (0 + q) [.ref arr, .int (nI q)] G S [] (fun v G' S' T' => ∃ b : Nat, b ∉ gL G ∧ v = some (.ref b) ∧ G' = gadd G b 5 q ∧ S' = srow (sZ S b) b (va_cpy (gr S arr) (fun _ => 0) 0 0 m) ∧ T' = []) := by
  refine CtR.of rfl (Nat.le_of_ble_eq_true rfl) (fun v hv => by simp at hv; rcases hv with rfl | rfl <;> rfl) (fun K g e hK => ?_)
  obtain ⟨rfl, -⟩ := hK
  show Xj K [] G 0 [some (.ref arr), some (.int (nI q)), none] [] S [] (0 + 1) (0 + q)
  have e9 : ∀ b, b ∉ gL G → gr (sZ S b) arr = gr S arr := fun b hb => funext fun i => if_neg (gne hb hr.1)
  show Xj K [] G 0 [some (.ref arr), some (.int (nI q)), none] [] S [] (0 + 1) (0 + q)
  refine x_iload_n 1 g dJ7_copyOf_9075b_0 rfl rfl ?_
  refine x_aload_n 0 g dJ7_copyOf_9075b_1 rfl rfl ?_
  refine x_leny g dJ7_copyOf_9075b_2 hr ?_
  refine x_eqi (nI m) (congrArg Int32.ofNat hn) ?_
  refine x_icmp_ne 14 g dJ7_copyOf_9075b_3 (by decide) (fun _ => ?_) (fun c9 => absurd c9 (fun z => by have := (nI_eq (by omega) (by omega)).mp (show nI q = nI m from z); omega))
  refine x_iload_n 1 g dJ7_copyOf_9075b_14 rfl rfl ?_
  refine x_newa (t := 0) (ty := .byte) (N := q) (c0 := 0) (s0 := 0) 5 g dJ7_copyOf_9075b_15 (w_tb 171 (by decide +kernel)) rfl (fun _ => rfl) (fun _ _ _ _ h => gce_y h) rfl (nI_pos (by omega)) (nI_clamp (by omega)) (by show q * 1 ≤ _; omega) (fun b hb => ?_)
  refine x_astore_n 2 g dJ7_copyOf_9075b_17 rfl (Nat.le_of_ble_eq_true rfl) rfl ?_
  refine x_aload_n 0 g dJ7_copyOf_9075b_18 rfl rfl ?_
  refine x_iconst (v := 0) g dJ7_copyOf_9075b_19 (by decide) ?_
  refine x_aload_n 2 g dJ7_copyOf_9075b_20 rfl rfl ?_
  refine x_iconst (v := 0) g dJ7_copyOf_9075b_21 (by decide) ?_
  refine x_aload_n 0 g dJ7_copyOf_9075b_22 rfl rfl ?_
  refine x_leny g dJ7_copyOf_9075b_23 (gis_old hb hr) ?_
  refine x_eqi (nI m) (congrArg Int32.ofNat ((gn_old hb hr.1).trans hn)) ?_
  refine x_iload_n 1 g dJ7_copyOf_9075b_24 rfl rfl ?_
  refine x_mmin g lmm_J7_304 (by decide) (Nat.le_of_ble_eq_true rfl) dJ7_copyOf_9075b_25 ?_
  refine x_eqi (nI m) (if_neg (nI_nlt (by omega) (by omega))) ?_
  refine x_acpyB g dJ7_copyOf_9075b_28 lac_J7_150 (by decide) (gis_old hb hr) gis_add ⟨nI_pos (by omega), by rw [nI_clamp (by omega), gn_old hb hr.1, hn]; exact Nat.le_refl _, by rw [nI_clamp (by omega), gn_add]; omega⟩ (by rw [e9 b hb]; exact hf) (Nat.le_of_ble_eq_true rfl) ?_
  refine x_aload_n 2 g dJ7_copyOf_9075b_31 rfl rfl ?_
  refine x_aretR (Or.inr ⟨_, rfl⟩) g e dJ7_copyOf_9075b_32 ⟨b, hb, rfl, rfl, ?_, rfl⟩
  rw [e9 b hb, nI_clamp (by omega), show gr (sZ S b) b = fun _ => 0 from funext fun i => if_pos rfl]

theorem kJ3_checkIndex {ad : Nat → Nat} {i n : Nat} {r : Value} {G : gG} {S : gS} {T : gT} (hr : r = .null ∨ ∃ t, r = .ref t) (hi : i < n) (hn : n ≤ 65536) : Ct ad yJ3_checkIndex_8e157 (Cond.code yJ3_checkIndex_8e157 cJ3_checkIndex_8e157 3 (some .int) :: gTb) 0 0 0 [.int (nI i), .int (nI n), r] G S T (some (.int (nI i))) G S T := by
  refine Ct.of rfl (Nat.le_of_ble_eq_true rfl) (fun v hv => by rcases hr with rfl | ⟨t, rfl⟩ <;> (simp at hv; rcases hv with rfl | rfl | rfl <;> rfl)) (fun K g e hK => ?_)
  obtain ⟨rfl, -⟩ := hK
  show Xj K [] G 0 [some (.int (nI i)), some (.int (nI n)), some (r)] [] S T 0 0
  rcases hr with rfl | ⟨t, rfl⟩
  · show Xj K [] G 0 [some (.int (nI i)), some (.int (nI n)), some .null] [] S T 0 0
    refine x_iload_n 0 g dJ3_checkIndex_8e157_0 rfl rfl ?_
    refine x_if_lt 9 g dJ3_checkIndex_8e157_1 (by decide) (fun c9 => absurd c9 (nI_pos (by omega))) (fun _ => ?_)
    refine x_iload_n 0 g dJ3_checkIndex_8e157_4 rfl rfl ?_
    refine x_iload_n 1 g dJ3_checkIndex_8e157_5 rfl rfl ?_
    refine x_icmp_lt 16 g dJ3_checkIndex_8e157_6 (by decide) (fun _ => ?_) (fun c9 => absurd (nI_lt hi (by omega)) c9)
    refine x_iload_n 0 g dJ3_checkIndex_8e157_16 rfl rfl ?_
    exact x_iret g e dJ3_checkIndex_8e157_17
  · show Xj K [] G 0 [some (.int (nI i)), some (.int (nI n)), some (.ref t)] [] S T 0 0
    refine x_iload_n 0 g dJ3_checkIndex_8e157_0 rfl rfl ?_
    refine x_if_lt 9 g dJ3_checkIndex_8e157_1 (by decide) (fun c9 => absurd c9 (nI_pos (by omega))) (fun _ => ?_)
    refine x_iload_n 0 g dJ3_checkIndex_8e157_4 rfl rfl ?_
    refine x_iload_n 1 g dJ3_checkIndex_8e157_5 rfl rfl ?_
    refine x_icmp_lt 16 g dJ3_checkIndex_8e157_6 (by decide) (fun _ => ?_) (fun c9 => absurd (nI_lt hi (by omega)) c9)
    refine x_iload_n 0 g dJ3_checkIndex_8e157_16 rfl rfl ?_
    exact x_iret g e dJ3_checkIndex_8e157_17


theorem kJ0_checkIndex {ad : Nat → Nat} {i n : Nat} {G : gG} {S : gS} {T : gT} (hi : i < n) (hn : n ≤ 65536) : Ct ad yJ0_checkIndex_df160 (Cond.code yJ0_checkIndex_df160 cJ0_checkIndex_df160 2 none :: gTb) 1 0 0 [.int (nI i), .int (nI n)] G S T none G S T := by
  refine Ct.of rfl (Nat.le_of_ble_eq_true rfl) (fun v hv => by simp at hv; rcases hv with rfl | rfl <;> rfl) (fun K g e hK => ?_)
  obtain ⟨rfl, -⟩ := hK
  show Xj K [] G 0 [some (.int (nI i)), some (.int (nI n))] [] S T 0 0
  rcases hzSF g with hz | ⟨t, hz⟩
  · refine x_iload_n 0 g dJ0_checkIndex_df160_0 rfl rfl ?_
    refine x_iload_n 1 g dJ0_checkIndex_df160_1 rfl rfl ?_
    refine x_gst g dJ0_checkIndex_df160_2 hz ls_J0_1053 ?_
    refine x_cS [.int (nI i)] g (kJ3_checkIndex (r := .null) (Or.inl rfl) hi hn) ca_J3_checkIndex_8e157 st_J3_checkIndex_8e157 lm_J0_1059 (Nat.le_of_ble_eq_true rfl) rfl rfl (Nat.le_of_ble_eq_true rfl) dJ0_checkIndex_df160_5 rfl ?_
    refine x_pop g dJ0_checkIndex_df160_8 rfl ?_
    exact x_vret g e dJ0_checkIndex_df160_9
  · refine x_iload_n 0 g dJ0_checkIndex_df160_0 rfl rfl ?_
    refine x_iload_n 1 g dJ0_checkIndex_df160_1 rfl rfl ?_
    refine x_gst g dJ0_checkIndex_df160_2 hz ls_J0_1053 ?_
    refine x_cS [.int (nI i)] g (kJ3_checkIndex (r := .ref t) (Or.inr ⟨t, rfl⟩) hi hn) ca_J3_checkIndex_8e157 st_J3_checkIndex_8e157 lm_J0_1059 (Nat.le_of_ble_eq_true rfl) rfl rfl (Nat.le_of_ble_eq_true rfl) dJ0_checkIndex_df160_5 rfl ?_
    refine x_pop g dJ0_checkIndex_df160_8 rfl ?_
    exact x_vret g e dJ0_checkIndex_df160_9


theorem kJ5_charAt {ad : Nat → Nat} {a arr m i : Nat} {tx : List Nat} {G : gG} {S : gS} (ha : gis G 4 a) (hr : gis G 5 arr) (hn : gn G arr = m) (h20 : gP S 20 a = some arr) (h50 : gI S 50 a = 0) (h52 : gI S 52 a = nI tx.length) (hm : tx.length ≤ m) (hm2 : m ≤ 65536) (h3 : sb_Lat (fun i => tx.getD i 0) tx.length (gr S arr)) (hi : i < tx.length) : Ct ad yJ5_charAt_5068e (Cond.code yJ5_charAt_5068e cJ5_charAt_5068e 5 (some .char) :: gTb) 2 0 0 [.ref a, .int (nI i)] G S [] (some (.int (nI (tx.getD i 0)))) G S [] := by
  refine Ct.of rfl (Nat.le_of_ble_eq_true rfl) (fun v hv => by simp at hv; rcases hv with rfl | rfl <;> rfl) (fun K g e hK => ?_)
  obtain ⟨rfl, -⟩ := hK
  show Xj K [] G 0 [some (.ref a), some (.int (nI i)), none, none, none] [] S [] 0 0
  have hb := sb_byte _ (h3 i hi).1
  have hv : (gr S arr i &&& 255) = nI (tx.getD i 0) := by rw [(h3 i hi).2]; exact hb.1
  have hn' : narrow .char (.int (nI (tx.getD i 0))) = .int (nI (tx.getD i 0)) := (pk_charN (q := tx.getD i 0) (by have := (h3 i hi).1; omega)).1
  refine x_aload_n 0 g dJ5_charAt_5068e_0 rfl rfl ?_
  refine x_getiS g dJ5_charAt_5068e_1 gXJ4 1 50 rfl (by decide) lf_J5_22 ha ?_
  refine x_eqi 0 h50 ?_
  refine x_istore_n 2 g dJ5_charAt_5068e_4 rfl (Nat.le_of_ble_eq_true rfl) rfl ?_
  refine x_aload_n 0 g dJ5_charAt_5068e_5 rfl rfl ?_
  refine x_getrS g dJ5_charAt_5068e_6 gXJ4 0 20 rfl (by decide) lf_J5_15 ha h20 ?_
  refine x_astore_n 3 g dJ5_charAt_5068e_9 rfl (Nat.le_of_ble_eq_true rfl) rfl ?_
  refine x_aload_n 0 g dJ5_charAt_5068e_10 rfl rfl ?_
  refine x_getiS g dJ5_charAt_5068e_11 gXJ4 3 52 rfl (by decide) lf_J5_79 ha ?_
  refine x_eqi (nI tx.length) h52 ?_
  refine x_aload_n 3 g dJ5_charAt_5068e_14 rfl rfl ?_
  refine x_leny g dJ5_charAt_5068e_15 hr ?_
  refine x_eqi (nI m) (congrArg Int32.ofNat hn) ?_
  refine x_iload_n 2 g dJ5_charAt_5068e_16 rfl rfl ?_
  refine x_ishr g dJ5_charAt_5068e_17 ?_
  refine x_eqi (nI m) (sb_shr0 _) ?_
  refine x_mmin g lmm_J5_138 (by decide) (Nat.le_of_ble_eq_true rfl) dJ5_charAt_5068e_18 ?_
  refine x_eqi (nI tx.length) (if_neg (nI_nlt hm (by omega))) ?_
  refine x_istore (i := 4) g dJ5_charAt_5068e_21 (Nat.le_of_ble_eq_true rfl) rfl ?_
  refine x_iload_n 1 g dJ5_charAt_5068e_23 rfl rfl ?_
  refine x_iload (i := 4) g dJ5_charAt_5068e_24 rfl ?_
  refine x_cS [] g (kJ0_checkIndex hi (by omega)) ca_J0_checkIndex_df160 st_J0_checkIndex_df160 lm_J5_144 (Nat.le_of_ble_eq_true rfl) rfl rfl (Nat.le_of_ble_eq_true rfl) dJ5_charAt_5068e_26 rfl ?_
  refine x_iload_n 2 g dJ5_charAt_5068e_29 rfl rfl ?_
  refine x_if_ne 42 g dJ5_charAt_5068e_30 (by decide) (fun c => absurd rfl c) (fun _ => ?_)
  refine x_aload_n 3 g dJ5_charAt_5068e_33 rfl rfl ?_
  refine x_iload_n 1 g dJ5_charAt_5068e_34 rfl rfl ?_
  refine x_bald g dJ5_charAt_5068e_35 hr (vp_in_nI (by omega) (by omega)) ?_
  refine x_eqi (gr S arr i) (by rw [nI_clamp (by omega)]) ?_
  refine x_sipush (v := 255) g dJ5_charAt_5068e_36 (by decide) ?_
  refine x_iand g dJ5_charAt_5068e_39 ?_
  refine x_eqi (nI (tx.getD i 0)) hv ?_
  refine x_i2c g dJ5_charAt_5068e_40 hb.2.1 ?_
  exact x_zret hn' g e dJ5_charAt_5068e_41

def gmc (q m : Nat) : Nat := if q ≤ m then 0 else 1
def gms (q m : Nat) : Nat := if q ≤ m then 0 else sb_cap q m

theorem kJ5_ensure {ad : Nat → Nat} {a cap q : Nat} {tx : List Nat} (hq : q < 2 ^ 28) (hq2 : sb_cap q cap ≤ 65536) : Ct ad yJ5_ensureCapacityInternal_d00df (Cond.code yJ5_ensureCapacityInternal_d00df cJ5_ensureCapacityInternal_d00df 3 none :: gTb) 3 (gmc q cap) (gms q cap) [.ref a, .int (nI q)] gE sE [(a, cap, tx)] none gE sE [(a, sb_cap q cap, tx)] := by
  refine Ct.of rfl (Nat.le_of_ble_eq_true rfl) (fun v hv => by simp at hv; rcases hv with rfl | rfl <;> rfl) (fun K g e hK => ?_)
  obtain ⟨rfl, -⟩ := hK
  show Xj K [] gE 0 [some (.ref a), some (.int (nI q)), none] [] sE [(a, cap, tx)] (gmc q cap) (gms q cap)
  refine x_TtoG (fun arr ml by' hne h1 h2 h3 h4 => ?_)
  refine x_aload_n 0 g dJ5_ensureCapacityInternal_d00df_0 rfl rfl ?_
  refine x_getrS g dJ5_ensureCapacityInternal_d00df_1 gXJ4 0 20 rfl (by decide) lf_J5_15 gis_sa rfl ?_
  refine x_leny g dJ5_ensureCapacityInternal_d00df_4 (gis_sr hne) ?_
  refine x_eqi (nI cap) rfl ?_
  refine x_aload_n 0 g dJ5_ensureCapacityInternal_d00df_5 rfl rfl ?_
  refine x_getiS g dJ5_ensureCapacityInternal_d00df_6 gXJ4 1 50 rfl (by decide) lf_J5_22 gis_sa ?_
  refine x_ishr g dJ5_ensureCapacityInternal_d00df_9 ?_
  refine x_eqi (nI cap) (sb_shr0 _) ?_
  refine x_istore_n 2 g dJ5_ensureCapacityInternal_d00df_10 rfl (Nat.le_of_ble_eq_true rfl) rfl ?_
  refine x_iload_n 1 g dJ5_ensureCapacityInternal_d00df_11 rfl rfl ?_
  refine x_iload_n 2 g dJ5_ensureCapacityInternal_d00df_12 rfl rfl ?_
  refine x_isub g dJ5_ensureCapacityInternal_d00df_13 ?_
  have hg := sb_cap_ge q cap
  have hgm := sb_cap_gem q cap
  have e1 : (nI q - nI cap).toInt = (q : Int) - cap := pk_sub_toInt (by omega) (by omega)
  by_cases hqc : q ≤ cap
  · refine x_if_le 38 g dJ5_ensureCapacityInternal_d00df_14 (by decide) (fun _ => ?_) (fun c9 => absurd (by rw [Int32.le_iff_toInt_le, e1, Int32.toInt_zero]; omega) c9)
    rw [show sb_cap q cap = cap from if_pos hqc] at e
    refine x_GtoT gis_sa (gis_sr hne) rfl rfl rfl rfl h1 h2 h3 h4 ?_
    exact x_vret g e dJ5_ensureCapacityInternal_d00df_38
  · refine x_if_le 38 g dJ5_ensureCapacityInternal_d00df_14 (by decide) (fun c9 => absurd c9 (fun z => hqc (by rw [Int32.le_iff_toInt_le, e1, Int32.toInt_zero] at z; omega))) (fun _ => ?_)
    have r1 : gmc q cap = 1 := if_neg hqc
    have r2 : gms q cap = sb_cap q cap := if_neg hqc
    refine x_aload_n 0 g dJ5_ensureCapacityInternal_d00df_17 rfl rfl ?_
    refine x_aload_n 0 g dJ5_ensureCapacityInternal_d00df_18 rfl rfl ?_
    refine x_getrS g dJ5_ensureCapacityInternal_d00df_19 gXJ4 0 20 rfl (by decide) lf_J5_15 gis_sa rfl ?_
    refine x_aload_n 0 g dJ5_ensureCapacityInternal_d00df_22 rfl rfl ?_
    refine x_iload_n 1 g dJ5_ensureCapacityInternal_d00df_23 rfl rfl ?_
    refine x_callVP [.int (nI (sb_cap q cap)), .ref arr, .ref a] g (kJ5_newCapacity gis_sa (gis_sr hne) rfl rfl rfl (by omega) hq2) ca_J5_newCapacity_0f7a4 in_J5_newCapacity_0f7a4 (seN g) lm_J5_104 gis_sa (Nat.le_of_ble_eq_true rfl) (Nat.zero_le _) (Nat.zero_le _) rfl rfl (Nat.le_of_ble_eq_true rfl) dJ5_ensureCapacityInternal_d00df_24 rfl ?_
    refine x_aload_n 0 g dJ5_ensureCapacityInternal_d00df_27 rfl rfl ?_
    refine x_getiS g dJ5_ensureCapacityInternal_d00df_28 gXJ4 1 50 rfl (by decide) lf_J5_22 gis_sa ?_
    refine x_ishl g dJ5_ensureCapacityInternal_d00df_31 ?_
    refine x_eqi (nI (sb_cap q cap)) (sb_shl0 _) ?_
    refine x_callSR (rest := [.ref a]) (As := [.ref arr, .int (nI (sb_cap q cap))]) g (kJ7_copyOf (gis_sr hne) rfl (by omega) hq2 h4) ca_J7_copyOf_9075b st_J7_copyOf_9075b lm_J5_108 (Nat.le_of_ble_eq_true rfl) (by omega) (by omega) rfl rfl (Nat.le_of_ble_eq_true rfl) dJ5_ensureCapacityInternal_d00df_32 (fun v G' S' T' hR => ?_)
    obtain ⟨b, hb, rfl, rfl, rfl, rfl⟩ := hR
    have hab : a ≠ b := fun q => hb (by rw [← q]; exact List.mem_cons_self)
    show Xj K [] _ 35 _ [.ref b, .ref a] _ _ _ _
    refine x_putrS g dJ5_ensureCapacityInternal_d00df_35 gXJ4 0 20 rfl (by decide) rfl lf_J5_15 rfl rfl (gis_old hb gis_sa) ?_
    refine x_GtoT (tx := tx) (gis_old hb gis_sa) gis_add gn_add ?_ ?_ ?_ (by omega) hq2 ?_ ?_ ?_
    · rw [gP_sP, if_pos ⟨rfl, rfl⟩]
    · rw [gI_sP, gI_srow]; exact if_neg hab
    · rw [gI_sP, gI_srow]; exact if_neg hab
    · rw [gr_sP, gr_row]; exact sb_latKeep h3 (fun j hj => sb_cpy0 (by omega))
    · rw [gr_sP, gr_row]; exact sb_fitC h4 sb_fit0
    · exact x_vret g e dJ5_ensureCapacityInternal_d00df_38
