/-! texts: what the class asks of its StringBuilders and of its constants' texts -/
def tg (T : gT) (a : Nat) : Option (List Nat) := (T.find? (fun q => q.1 == a)).map (fun q => q.2.2)
def tc (T : gT) (a : Nat) : Option Nat := (T.find? (fun q => q.1 == a)).map (fun q => q.2.1)
def ts (T : gT) (a : Nat) (tx : List Nat) : gT := T.map (fun q => if q.1 = a then (q.1, sb_cap tx.length q.2.1, tx) else q)
def gcap (T : gT) (a : Nat) : Prop := tc T a = some 16 ∨ tc T a = some 34 ∨ tc T a = some 70
def gdec (v : Nat) : List Nat := (List.range (sb_dg v)).map (fun i => sb_dec v i)
def gpot (c : Nat) : Nat := if c < 34 then 2 else if c < 70 then 1 else 0
def gpos (c : Nat) : Nat := if c < 34 then 104 else if c < 70 then 70 else 0
def gpc (T : gT) : Nat := (T.map fun q => gpot q.2.1).sum
def gps (T : gT) : Nat := (T.map fun q => gpos q.2.1).sum

/-! the JDK's methods that the class reaches (laid by wip/whole/mkjdk.py) -/
theorem x_eqi {K : gKx} {PX : va_W} {G : gG} {pc : Nat} {lv : List (Option Value)} {st : List Value} {S : gS} {T : gT} {c0 s0 : Nat} {x : Int32} (y : Int32) (h : x = y) (k : Xj K PX G pc lv (.int y :: st) S T c0 s0) : Xj K PX G pc lv (.int x :: st) S T c0 s0 := h ▸ k
theorem x_callVP {K : gKx} {PX : va_W} {G G' : gG} {pc b idx n : Nat} {lv : List (Option Value)} {st rest As : List Value} {S S' : gS} {T T' : gT} {c0 s0 : Nat} {own : String} {cc : ByteArray} {d d' mc ms maxL : Nat} {ret : Option FieldType} {bytes : ByteArray} {y : MethodName} {v : Option Value} (st2 : List Value) (g : Gd K own cc d)
    (hC : Ct (ky K).2 y (Cond.code y bytes maxL ret :: gTb) d' mc ms (.ref b :: As) G S T v G' S' T') (hca : gCa y bytes maxL ret n) (hin : Cond.instanceMethod y ∈ lw_tbl) (hse : (Cond.selects "java/lang/StringBuilder" y y).before (ka K) (ks K) = true) (hlk : Cond.methodLink own idx y ∈ lw_tbl)
    (hb : gis G 4 b) (hd : d' + 1 ≤ d) (hc : mc ≤ c0) (hs : ms ≤ s0) (hn : As.length = n) (hst : st = As.reverse ++ .ref b :: rest) (hW : (rest.map fun v => v.category).sum ≤ 8) (hdg : decode cc pc = .ok (.invokevirtual idx, 3)) (h2 : v.toList ++ rest = st2)
    (k : Xj K PX G' (pc + 3) lv st2 S' T' (c0 - mc) (s0 - ms)) : Xj K PX G pc lv st S T c0 s0 := by
  refine x_run (a := (Value.ref b :: As).toArray) g hc hs h2 (fun H locs cells slots ls Z hat hcap => ?_) k
  have hM := hC (kl K) (kD K) (ky K).1 Z H.size g.2.2.2.1 hat.1
  obtain ⟨q0, hq0⟩ := va_pl_get (X := PX ++ Z) (f := gce (ky K) G S) hb.1
  rw [gce_obj (ci := 1) (fl := [.inr 20, .inl 50, .inl 51, .inl 52]) (by rw [hb.2]; rfl)] at hq0
  have hrec := va_recv g.2.1.1 hat.2.1 (ci := 1) rfl hq0
  exact va_runV (cc := cc) (nL := kN K) (Ts := gTb) (own := own) (n := n) (C := "java/lang/StringBuilder") g.1 hM ⟨callB_of n g.1.2.2.2.2 (gGood hca.1) rfl rfl rfl (g.tb hca.2.1 rfl) (g.tb hlk rfl) hca.2.2.1 (gRoom g hd hca.2.2.2), g.tb hin rfl, hse⟩
    ⟨gF_blind, hrec, fun U hU hW => ⟨rfl, gGive g hat U hU hW⟩⟩ rfl hn hat.2.2.2.2.1.1 hst (lv_room hW) hdg hcap
theorem x_callUP {K : gKx} {PX : va_W} {G G' : gG} {pc b idx n : Nat} {lv : List (Option Value)} {st rest As : List Value} {S S' : gS} {T T' : gT} {c0 s0 : Nat} {cc : ByteArray} {d d' mc ms maxL : Nat} {ret : Option FieldType} {bytes : ByteArray} {y : MethodName} {v : Option Value} (st2 : List Value) (g : Gd K "java/lang/StringBuilder" cc d)
    (hC : Ct (ky K).2 y (Cond.code y bytes maxL ret :: gTb) d' mc ms (.ref b :: As) G S T v G' S' T') (hca : gCa y bytes maxL ret n) (hcl : y.cls = "java/lang/AbstractStringBuilder") (hni : y.name ≠ "<init>") (hin : Cond.instanceMethod y ∈ lw_tbl) (hsm : Cond.sameMethod y.cls y.cls y.name y.desc ∈ lw_tbl) (hlk : Cond.methodLink "java/lang/StringBuilder" idx y ∈ lw_tbl)
    (hb : gis G 4 b) (hd : d' + 1 ≤ d) (hc : mc ≤ c0) (hs : ms ≤ s0) (hn : As.length = n) (hst : st = As.reverse ++ .ref b :: rest) (hW : (rest.map fun v => v.category).sum ≤ 8) (hdg : decode cc pc = .ok (.invokespecial idx, 3)) (h2 : v.toList ++ rest = st2)
    (k : Xj K PX G' (pc + 3) lv st2 S' T' (c0 - mc) (s0 - ms)) : Xj K PX G pc lv st S T c0 s0 := by
  refine x_run (a := (Value.ref b :: As).toArray) g hc hs h2 (fun H locs cells slots ls Z hat hcap => ?_) k
  have hM := hC (kl K) (kD K) (ky K).1 Z H.size g.2.2.2.1 hat.1
  obtain ⟨q0, hq0⟩ := va_pl_get (X := PX ++ Z) (f := gce (ky K) G S) hb.1
  rw [gce_obj (ci := 1) (fl := [.inr 20, .inl 50, .inl 51, .inl 52]) (by rw [hb.2]; rfl)] at hq0
  have hrec := va_recv g.2.1.1 hat.2.1 (ci := 1) rfl hq0
  have hG := gGood hca.1
  have hr := gRoom g hd hca.2.2.2 (mc := mc) (ms := ms)
  refine va_runSU (cc := cc) (nL := kN K) (Ts := gTb) (own := "java/lang/StringBuilder") (n := n) ((g.2.1.1.1 1 _ rfl).2) g.1 hM ⟨⟨rfl, rfl, hr.1, hr.2, pay_in g.1.2.2.2.2 hG, List.mem_cons_self⟩, g.tb hlk rfl, g.tb hsm rfl, ?_, g.tb hin rfl, g.tb hca.2.1 rfl, g.tb hca.1 rfl, hni, ?_⟩
    ⟨gF_blind, hrec, fun U hU hW => ⟨rfl, gGive g hat U hU hW⟩⟩ rfl hn hat.2.2.2.2.1.1 hst (lv_room hW) hdg hcap
  · rw [hcl]
    exact g.tb sc_SB rfl
  · intro sig h
    have h2 := hca.2.2.1.2.2
    rw [h] at h2
    exact (Option.some.inj h2).symm
section HZJ
variable {K : gKx} {own : String} {cc : ByteArray} {d : Nat}
theorem hzCS (g : Gd K own cc d) : va_Z "java/lang/String" "COMPACT_STRINGS" "Z" (.int 1) (kA K) (ks K) (ks K).heap := g.2.2.1.2.2.2.2.2.2.2.2.2.2.1
theorem hzD1 (g : Gd K own cc d) : va_Z "java/lang/Integer" "DigitOnes" "[B" (.ref ((ky K).2 50)) (kA K) (ks K) (ks K).heap := g.2.2.1.2.2.2.2.2.2.2.2.2.2.2.1
theorem hzT1 (g : Gd K own cc d) : va_T .byte ((ky K).2 50) 100 (fun j => .int (nI (48 + j % 10))) (kA K) (ks K) (ks K).heap := g.2.2.1.2.2.2.2.2.2.2.2.2.2.2.2.1
theorem hzD2 (g : Gd K own cc d) : va_Z "java/lang/Integer" "DigitTens" "[B" (.ref ((ky K).2 51)) (kA K) (ks K) (ks K).heap := g.2.2.1.2.2.2.2.2.2.2.2.2.2.2.2.2.1
theorem hzT2 (g : Gd K own cc d) : va_T .byte ((ky K).2 51) 100 (fun j => .int (nI (48 + j / 10))) (kA K) (ks K) (ks K).heap := g.2.2.1.2.2.2.2.2.2.2.2.2.2.2.2.2.2.1
theorem hzSF (g : Gd K own cc d) : va_Zq "jdk/internal/util/Preconditions" "SIOOBE_FORMATTER" "Ljava/util/function/BiFunction;" (kA K) (ks K) (ks K).heap := g.2.2.1.2.2.2.2.2.2.2.2.2.2.2.2.2.2.2
theorem hzV (g : Gd K own cc d) {k : Nat} (hk : k < 8) : va_OF "java/lang/String" "value" "[B" (.ref ((ky K).2 (30 + k))) ((ky K).2 (20 + k)) (kA K) (ks K) (ks K).heap := (g.2.2.1.2.2.2.2.2.1.1 k hk).2.2.1
theorem hzCo (g : Gd K own cc d) {k : Nat} (hk : k < 8) : va_OF "java/lang/String" "coder" "B" (.int 0) ((ky K).2 (20 + k)) (kA K) (ks K) (ks K).heap := (g.2.2.1.2.2.2.2.2.1.1 k hk).2.1
theorem hzB (g : Gd K own cc d) {k : Nat} (hk : k < 8) : va_T .byte ((ky K).2 (30 + k)) (gfl k) (fun j => .int (gfc k j)) (kA K) (ks K) (ks K).heap := (g.2.2.1.2.2.2.2.2.1.1 k hk).2.2.2
theorem seI (g : Gd K own cc d) : (Cond.selects "java/lang/StringBuilder" yJ5_isLatin1_aae02 yJ5_isLatin1_aae02).before (ka K) (ks K) = true := g.tb se_J5_isLatin1_aae02_b rfl
theorem seE (g : Gd K own cc d) : (Cond.selects "java/lang/StringBuilder" yJ5_ensureCapacityInternal_d00df yJ5_ensureCapacityInternal_d00df).before (ka K) (ks K) = true := va_Nw.use rfl (g.2.1.2.2.2.2.2.1 _ List.mem_cons_self)
theorem seN (g : Gd K own cc d) : (Cond.selects "java/lang/StringBuilder" yJ5_newCapacity_0f7a4 yJ5_newCapacity_0f7a4).before (ka K) (ks K) = true := va_Nw.use rfl (g.2.1.2.2.2.2.2.1 _ (List.mem_cons_of_mem _ List.mem_cons_self))
end HZJ
theorem x_tbB {K : gKx} {PX : va_W} {G : gG} {pc b N : Nat} {lv : List (Option Value)} {st : List Value} {S : gS} {T : gT} {c0 s0 d : Nat} {own : String} {cc : ByteArray} {f : Nat → Value} {i : Int32} (v : Value) (g : Gd K own cc d) (hdg : decode cc pc = .ok (.baload, 1)) (hT : va_T .byte b N f (kA K) (ks K) (ks K).heap) (hin : vp_in i N) (hv : f (Int32.toNatClampNeg i) = v) (k : Xj K PX G (pc + 1) lv (v :: st) S T c0 s0) : Xj K PX G pc lv (.int i :: .ref b :: st) S T c0 s0 :=
  fun H locs cells slots ls Z h => va_tb g.1.1 g.1.2.1 hT h.2.2.2.1 hin hv hdg (k H locs cells slots ls Z h)
theorem x_tbL {K : gKx} {PX : va_W} {G : gG} {pc b N : Nat} {lv : List (Option Value)} {st : List Value} {S : gS} {T : gT} {c0 s0 d : Nat} {own : String} {cc : ByteArray} {f : Nat → Value} (g : Gd K own cc d) (hdg : decode cc pc = .ok (.arraylength, 1)) (hT : va_T .byte b N f (kA K) (ks K) (ks K).heap) (k : Xj K PX G (pc + 1) lv (.int (nI N) :: st) S T c0 s0) : Xj K PX G pc lv (.ref b :: st) S T c0 s0 := by
  intro H locs cells slots ls Z h
  obtain ⟨cell, h1, h2, h3, h4, h5, h6, h7⟩ := va_T.kept hT h.2.2.2.1.2.1
  exact W.alen g.1.1 g.1.2.1 h1 h2 h5 rfl rfl hdg (k H locs cells slots ls Z h)
theorem x_acpyB {K : gKx} {PX : va_W} {G : gG} {pc a a0 idx : Nat} {lv : List (Option Value)} {st : List Value} {S : gS} {T : gT} {c0 s0 d : Nat} {own : String} {cc : ByteArray} {n : Int32} (g : Gd K own cc d) (hdg : decode cc pc = .ok (.invokestatic idx, 3)) (hlk : Cond.methodLink own idx arraycopyName ∈ lw_tbl) (hd : 1 ≤ d) (h0 : gis G 5 a0) (h1 : gis G 5 a) (hn : ¬ n < 0 ∧ Int32.toNatClampNeg n ≤ gn G a0 ∧ Int32.toNatClampNeg n ≤ gn G a) (hf : sb_Fit (gr S a0)) (hW : (st.map fun v => v.category).sum ≤ 8)
    (k : Xj K PX G (pc + 3) lv st (srow S a (va_cpy (gr S a0) (gr S a) 0 0 (Int32.toNatClampNeg n))) T c0 s0) : Xj K PX G pc lv (.int n :: .int 0 :: .ref a :: .int 0 :: .ref a0 :: st) S T c0 s0 := by
  intro H locs cells slots ls Z h
  obtain ⟨q0, hq⟩ := gFind (cy := ky K) (PX := PX ++ Z) (S := S) h0.1
  obtain ⟨q1, hr⟩ := gFind (cy := ky K) (PX := PX ++ Z) (S := S) h1.1
  have hr2 := hr
  rw [gce_y h0.2] at hq
  rw [gce_y h1.2] at hr
  have hR := g.2.2.2.2.2.2
  have hb := h.2.2.2.2.2
  have hfr : 1 ≤ (kR K).frames := by rw [hR]; exact hd
  have hw : nativeFrameWords "java/lang/System" "arraycopy" 5 ≤ 40 := by decide
  have hlc : (st.map fun v => v.category).sum + (nativeFrameWords "java/lang/System" "arraycopy" 5 + 11) ≤ (kR K).locals := by
    rw [hR]
    show _ ≤ 64 * d
    omega
  refine va_copyi (D := kD K) (own := own) (sp := 0) (dp := 0) (ty := .byte) g.1.1 g.1.2.1 (g.1.2.2.1.trans h.2.2.2.2.1.1.symm) g.1.2.2.2.1 (g.tb hlk rfl) (g.tb (w_tb 348 (by decide +kernel)) rfl) (g.tb (w_tb 347 (by decide +kernel)) rfl) (g.tb (w_tb 20 (by decide +kernel)) rfl) g.2.1.1 h.2.1 h.2.2.1 h.2.2.2.1 q0 q1 0 0 hq hr rfl rfl rfl (by decide) (by decide) hn.1 (by rw [sb_cl0, Nat.zero_add]; exact hn.2.1) (by rw [sb_cl0, Nat.zero_add]; exact hn.2.2) (fun _ _ => hf _) hfr hlc hdg (fun H1 locs1 hP hD hS => ?_)
  have e : ((PX ++ Z) ++ gw (ky K) G S).set q1 (a, .inl ((ky K).1 0, gn G a, .inl (va_cpy (gr S a0) (gr S a) (0 : Int32).toNatClampNeg (0 : Int32).toNatClampNeg n.toNatClampNeg))) = (PX ++ Z) ++ gw (ky K) G (srow S a (va_cpy (gr S a0) (gr S a) 0 0 (Int32.toNatClampNeg n))) := by
    rw [sb_cl0]
    exact gPut h.2.2.1 h1.1 hr2 (gup_row (cy := ky K) (G := G) (S := S) (va_cpy (gr S a0) (gr S a) 0 0 (Int32.toNatClampNeg n)) _ (by rw [gce_y h1.2, gr_row]))
  rw [e] at hP hD
  exact k H1 locs1 cells slots ls Z ⟨h.1, hP, hD, hS, h.2.2.2.2⟩

theorem kJ5_isLatin1 {ad : Nat → Nat} {a : Nat} {G : gG} {S : gS} (ha : gis G 4 a) (h50 : gI S 50 a = 0) : Ct ad yJ5_isLatin1_aae02 (Cond.code yJ5_isLatin1_aae02 cJ5_isLatin1_aae02 1 (some .boolean) :: gTb) 0 0 0 [.ref a] G S [] (some (.int 1)) G S [] := by
  refine Ct.of rfl (Nat.le_of_ble_eq_true rfl) (fun v hv => by simp at hv; subst hv; rfl) (fun K g e hK => ?_)
  obtain ⟨rfl, -⟩ := hK
  show Xj K [] G 0 [some (.ref a)] [] S [] 0 0
  refine x_gst g dJ5_isLatin1_aae02_0 (hzCS g) ls_J5_18 ?_
  refine x_if_eq 17 g dJ5_isLatin1_aae02_3 (by decide) (fun c => absurd c (by decide)) (fun _ => ?_)
  refine x_aload_n 0 g dJ5_isLatin1_aae02_6 rfl rfl ?_
  refine x_getiS g dJ5_isLatin1_aae02_7 gXJ4 1 50 rfl (by decide) lf_J5_22 ha ?_
  refine x_if_ne 17 g dJ5_isLatin1_aae02_10 (by decide) (fun c => absurd h50 c) (fun _ => ?_)
  refine x_iconst (v := 1) g dJ5_isLatin1_aae02_13 (by decide) ?_
  refine x_goto 18 g dJ5_isLatin1_aae02_14 (by decide) ?_
  exact x_zret rfl g e dJ5_isLatin1_aae02_18

theorem kJ5_length {ad : Nat → Nat} {a : Nat} {G : gG} {S : gS} (ha : gis G 4 a) : Ct ad yJ5_length_8abf5 (Cond.code yJ5_length_8abf5 cJ5_length_8abf5 1 (some .int) :: gTb) 0 0 0 [.ref a] G S [] (some (.int (gI S 52 a))) G S [] := by
  refine Ct.of rfl (Nat.le_of_ble_eq_true rfl) (fun v hv => by simp at hv; subst hv; rfl) (fun K g e hK => ?_)
  obtain ⟨rfl, -⟩ := hK
  show Xj K [] G 0 [some (.ref a)] [] S [] 0 0
  refine x_aload_n 0 g dJ5_length_8abf5_0 rfl rfl ?_
  refine x_getiS g dJ5_length_8abf5_1 gXJ4 3 52 rfl (by decide) lf_J5_79 ha ?_
  exact x_iret g e dJ5_length_8abf5_4

theorem kJ1_canEncode {ad : Nat → Nat} {c : Nat} {G : gG} {S : gS} {T : gT} (hc : c < 256) : Ct ad yJ1_canEncode_fc78d (Cond.code yJ1_canEncode_fc78d cJ1_canEncode_fc78d 1 (some .boolean) :: gTb) 0 0 0 [.int (nI c)] G S T (some (.int 1)) G S T := by
  refine Ct.of rfl (Nat.le_of_ble_eq_true rfl) (fun v hv => by simp at hv; subst hv; rfl) (fun K g e hK => ?_)
  obtain ⟨rfl, -⟩ := hK
  show Xj K [] G 0 [some (.int (nI c))] [] S T 0 0
  refine x_iload_n 0 g dJ1_canEncode_fc78d_0 rfl rfl ?_
  refine x_sipush (v := 255) g dJ1_canEncode_fc78d_1 (by decide) ?_
  refine x_icmp_gt 11 g dJ1_canEncode_fc78d_4 (by decide) (fun c9 => absurd c9 (show ¬ nI 255 < nI c from nI_nlt (Nat.le_of_lt_succ hc) (by decide))) (fun _ => ?_)
  refine x_iconst (v := 1) g dJ1_canEncode_fc78d_7 (by decide) ?_
  refine x_goto 12 g dJ1_canEncode_fc78d_8 (by decide) ?_
  exact x_zret rfl g e dJ1_canEncode_fc78d_12

theorem kJ8_newLength {ad : Nat → Nat} {m x y r : Nat} {G : gG} {S : gS} {T : gT} (h0 : 0 < r) (hr : r ≤ 65536) (he : nI m + (if nI x < nI y then nI y else nI x) = nI r) : Ct ad yJ8_newLength_cabcc (Cond.code yJ8_newLength_cabcc cJ8_newLength_cabcc 4 (some .int) :: gTb) 1 0 0 [.int (nI m), .int (nI x), .int (nI y)] G S T (some (.int (nI r))) G S T := by
  refine Ct.of rfl (Nat.le_of_ble_eq_true rfl) (fun v hv => by simp at hv; rcases hv with rfl | rfl | rfl <;> rfl) (fun K g e hK => ?_)
  obtain ⟨rfl, -⟩ := hK
  show Xj K [] G 0 [some (.int (nI m)), some (.int (nI x)), some (.int (nI y)), none] [] S T 0 0
  refine x_iload_n 0 g dJ8_newLength_cabcc_0 rfl rfl ?_
  refine x_iload_n 1 g dJ8_newLength_cabcc_1 rfl rfl ?_
  refine x_iload_n 2 g dJ8_newLength_cabcc_2 rfl rfl ?_
  refine x_mmax g lmm_J8_194 (by decide) (Nat.le_of_ble_eq_true rfl) dJ8_newLength_cabcc_3 ?_
  refine x_iadd g dJ8_newLength_cabcc_6 ?_
  refine x_eqi (nI r) he ?_
  refine x_istore_n 3 g dJ8_newLength_cabcc_7 rfl (Nat.le_of_ble_eq_true rfl) rfl ?_
  refine x_iconst (v := 0) g dJ8_newLength_cabcc_8 (by decide) ?_
  refine x_iload_n 3 g dJ8_newLength_cabcc_9 rfl rfl ?_
  refine x_icmp_ge 21 g dJ8_newLength_cabcc_10 (by decide) (fun c9 => absurd c9 (nI_nle h0 (by omega))) (fun _ => ?_)
  refine x_iload_n 3 g dJ8_newLength_cabcc_13 rfl rfl ?_
  refine x_ldc g dJ8_newLength_cabcc_14 lk_J8_200 ?_
  refine x_icmp_gt 21 g dJ8_newLength_cabcc_16 (by decide) (fun c9 => absurd c9 (show ¬ nI 2147483639 < nI r from nI_nlt (by omega) (by decide))) (fun _ => ?_)
  refine x_iload_n 3 g dJ8_newLength_cabcc_19 rfl rfl ?_
  exact x_iret g e dJ8_newLength_cabcc_20

theorem kJ5_newCapacity {ad : Nat → Nat} {a arr q m : Nat} {G : gG} {S : gS} (ha : gis G 4 a) (hr : gis G 5 arr) (hn : gn G arr = m) (h20 : gP S 20 a = some arr) (h50 : gI S 50 a = 0) (hq : m < q) (hq2 : sb_cap q m ≤ 65536) : Ct ad yJ5_newCapacity_0f7a4 (Cond.code yJ5_newCapacity_0f7a4 cJ5_newCapacity_0f7a4 6 (some .int) :: gTb) 2 0 0 [.ref a, .int (nI q)] G S [] (some (.int (nI (sb_cap q m)))) G S [] := by
  refine Ct.of rfl (Nat.le_of_ble_eq_true rfl) (fun v hv => by simp at hv; rcases hv with rfl | rfl <;> rfl) (fun K g e hK => ?_)
  obtain ⟨rfl, -⟩ := hK
  show Xj K [] G 0 [some (.ref a), some (.int (nI q)), none, none, none, none] [] S [] 0 0
  have e2 : nI m + ((2 : Int32) <<< ((0 : Int32) &&& 31)) = nI (m + 2) := by
    rw [sb_shl0]
    exact nI_add m 2
  have hc : sb_cap q m = m + (if q - m < m + 2 then m + 2 else q - m) := by
    unfold sb_cap
    rw [if_neg (by omega)]
    split <;> split <;> omega
  have hg := sb_cap_ge q m
  have e3 : nI m + (if nI (q - m) < nI (m + 2) then nI (m + 2) else nI (q - m)) = nI (sb_cap q m) := by
    rw [hc]
    by_cases h2 : q - m < m + 2
    · rw [if_pos h2, if_pos (nI_lt h2 (by omega))]
      exact nI_add m (m + 2)
    · rw [if_neg h2, if_neg (nI_nlt (by omega) (by omega))]
      exact nI_add m (q - m)
  refine x_aload_n 0 g dJ5_newCapacity_0f7a4_0 rfl rfl ?_
  refine x_getrS g dJ5_newCapacity_0f7a4_1 gXJ4 0 20 rfl (by decide) lf_J5_15 ha h20 ?_
  refine x_leny g dJ5_newCapacity_0f7a4_4 hr ?_
  refine x_eqi (nI m) (congrArg Int32.ofNat hn) ?_
  refine x_istore_n 2 g dJ5_newCapacity_0f7a4_5 rfl (Nat.le_of_ble_eq_true rfl) rfl ?_
  refine x_iload_n 1 g dJ5_newCapacity_0f7a4_6 rfl rfl ?_
  refine x_aload_n 0 g dJ5_newCapacity_0f7a4_7 rfl rfl ?_
  refine x_getiS g dJ5_newCapacity_0f7a4_8 gXJ4 1 50 rfl (by decide) lf_J5_22 ha ?_
  refine x_eqi 0 h50 ?_
  refine x_ishl g dJ5_newCapacity_0f7a4_11 ?_
  refine x_eqi (nI q) (sb_shl0 _) ?_
  refine x_istore_n 3 g dJ5_newCapacity_0f7a4_12 rfl (Nat.le_of_ble_eq_true rfl) rfl ?_
  refine x_iload_n 3 g dJ5_newCapacity_0f7a4_13 rfl rfl ?_
  refine x_iload_n 2 g dJ5_newCapacity_0f7a4_14 rfl rfl ?_
  refine x_isub g dJ5_newCapacity_0f7a4_15 ?_
  refine x_eqi (nI (q - m)) (pk_sub (by omega)) ?_
  refine x_istore (i := 4) g dJ5_newCapacity_0f7a4_16 (Nat.le_of_ble_eq_true rfl) rfl ?_
  refine x_iload_n 2 g dJ5_newCapacity_0f7a4_18 rfl rfl ?_
  refine x_iload (i := 4) g dJ5_newCapacity_0f7a4_19 rfl ?_
  refine x_iload_n 2 g dJ5_newCapacity_0f7a4_21 rfl rfl ?_
  refine x_iconst (v := 2) g dJ5_newCapacity_0f7a4_22 (by decide) ?_
  refine x_aload_n 0 g dJ5_newCapacity_0f7a4_23 rfl rfl ?_
  refine x_getiS g dJ5_newCapacity_0f7a4_24 gXJ4 1 50 rfl (by decide) lf_J5_22 ha ?_
  refine x_eqi 0 h50 ?_
  refine x_ishl g dJ5_newCapacity_0f7a4_27 ?_
  refine x_iadd g dJ5_newCapacity_0f7a4_28 ?_
  refine x_eqi (nI (m + 2)) e2 ?_
  refine x_cS [.int (nI (sb_cap q m))] g (kJ8_newLength (by omega) hq2 e3) ca_J8_newLength_cabcc st_J8_newLength_cabcc lm_J5_114 (Nat.le_of_ble_eq_true rfl) rfl rfl (Nat.le_of_ble_eq_true rfl) dJ5_newCapacity_0f7a4_29 rfl ?_
  refine x_istore (i := 5) g dJ5_newCapacity_0f7a4_32 (Nat.le_of_ble_eq_true rfl) rfl ?_
  refine x_iload (i := 5) g dJ5_newCapacity_0f7a4_34 rfl ?_
  refine x_ldc g dJ5_newCapacity_0f7a4_36 lk_J5_39 ?_
  refine x_icmp_ne 51 g dJ5_newCapacity_0f7a4_38 (by decide) (fun _ => ?_) (fun c9 => absurd c9 (fun z9 => by have := (nI_eq (by omega) (by decide)).mp (show nI (sb_cap q m) = nI 2147483647 from z9); omega))
  refine x_iload (i := 5) g dJ5_newCapacity_0f7a4_51 rfl ?_
  refine x_aload_n 0 g dJ5_newCapacity_0f7a4_53 rfl rfl ?_
  refine x_getiS g dJ5_newCapacity_0f7a4_54 gXJ4 1 50 rfl (by decide) lf_J5_22 ha ?_
  refine x_eqi 0 h50 ?_
  refine x_ishr g dJ5_newCapacity_0f7a4_57 ?_
  refine x_eqi (nI (sb_cap q m)) (sb_shr0 _) ?_
  exact x_iret g e dJ5_newCapacity_0f7a4_58

theorem kJ7_copyOf {ad : Nat → Nat} {arr q m : Nat} {G : gG} {S : gS} (hr : gis G 5 arr) (hn : gn G arr = m) (hq : m < q) (hq2 : q ≤ 65536) (hf : sb_Fit (gr S arr)) : CtR ad yJ7_copyOf_9075b (Cond.code yJ7_copyOf_9075b cJ7_copyOf_9075b 3 (some ( .array  .byte)) :: gTb) 1 (0 + 1) (0 + q) [.ref arr, .int (nI q)] G S [] (fun v G' S' T' => ∃ b : Nat, b ∉ gL G ∧ v = some (.ref b) ∧ G' = gadd G b 5 q ∧ S' = srow (sZ S b) b (va_cpy (gr S arr) (fun _ => 0) 0 0 m) ∧ T' = []) := by
  refine CtR.of rfl (Nat.le_of_ble_eq_true rfl) (fun v hv => by simp at hv; rcases hv with rfl | rfl <;> rfl) (fun K g e hK => ?_)
  obtain ⟨rfl, -⟩ := hK
  show Xj K [] G 0 [some (.ref arr), some (.int (nI q)), none] [] S [] (0 + 1) (0 + q)
  have e9 : ∀ b, b ∉ gL G → gr (sZ S b) arr = gr S arr := fun b hb => funext fun i => if_neg (gne hb hr.1)
  show Xj K [] G 0 [some (.ref arr), some (.int (nI q)), none] [] S [] (0 + 1) (0 + q)
  refine x_iload_n 1 g dJ7_copyOf_9075b_0 rfl rfl ?_
  refine x_aload_n 0 g dJ7_copyOf_9075b_1 rfl rfl ?_
  refine x_leny g dJ7_copyOf_9075b_2 hr ?_
  refine x_eqi (nI m) (congrArg Int32.ofNat hn) ?_
  refine x_icmp_ne 14 g dJ7_copyOf_9075b_3 (by decide) (fun _ => ?_) (fun c9 => absurd c9 (fun z => by have := (nI_eq (by omega) (by omega)).mp (show nI q = nI m from z); omega))
  refine x_iload_n 1 g dJ7_copyOf_9075b_14 rfl rfl ?_
  refine x_newa (t := 0) (ty := .byte) (N := q) (c0 := 0) (s0 := 0) 5 g dJ7_copyOf_9075b_15 (w_tb 171 (by decide +kernel)) rfl (fun _ => rfl) (fun _ _ _ _ h => gce_y h) rfl (nI_pos (by omega)) (nI_clamp (by omega)) (by show q * 1 ≤ _; omega) (fun b hb => ?_)
  refine x_astore_n 2 g dJ7_copyOf_9075b_17 rfl (Nat.le_of_ble_eq_true rfl) rfl ?_
  refine x_aload_n 0 g dJ7_copyOf_9075b_18 rfl rfl ?_
  refine x_iconst (v := 0) g dJ7_copyOf_9075b_19 (by decide) ?_
  refine x_aload_n 2 g dJ7_copyOf_9075b_20 rfl rfl ?_
  refine x_iconst (v := 0) g dJ7_copyOf_9075b_21 (by decide) ?_
  refine x_aload_n 0 g dJ7_copyOf_9075b_22 rfl rfl ?_
  refine x_leny g dJ7_copyOf_9075b_23 (gis_old hb hr) ?_
  refine x_eqi (nI m) (congrArg Int32.ofNat ((gn_old hb hr.1).trans hn)) ?_
  refine x_iload_n 1 g dJ7_copyOf_9075b_24 rfl rfl ?_
  refine x_mmin g lmm_J7_304 (by decide) (Nat.le_of_ble_eq_true rfl) dJ7_copyOf_9075b_25 ?_
  refine x_eqi (nI m) (if_neg (nI_nlt (by omega) (by omega))) ?_
  refine x_acpyB g dJ7_copyOf_9075b_28 lac_J7_150 (by decide) (gis_old hb hr) gis_add ⟨nI_pos (by omega), by rw [nI_clamp (by omega), gn_old hb hr.1, hn]; exact Nat.le_refl _, by rw [nI_clamp (by omega), gn_add]; omega⟩ (by rw [e9 b hb]; exact hf) (Nat.le_of_ble_eq_true rfl) ?_
  refine x_aload_n 2 g dJ7_copyOf_9075b_31 rfl rfl ?_
  refine x_aretR (Or.inr ⟨_, rfl⟩) g e dJ7_copyOf_9075b_32 ⟨b, hb, rfl, rfl, ?_, rfl⟩
  rw [e9 b hb, nI_clamp (by omega), show gr (sZ S b) b = fun _ => 0 from funext fun i => if_pos rfl]

theorem kJ3_checkIndex {ad : Nat → Nat} {i n : Nat} {r : Value} {G : gG} {S : gS} {T : gT} (hr : r = .null ∨ ∃ t, r = .ref t) (hi : i < n) (hn : n ≤ 65536) : Ct ad yJ3_checkIndex_8e157 (Cond.code yJ3_checkIndex_8e157 cJ3_checkIndex_8e157 3 (some .int) :: gTb) 0 0 0 [.int (nI i), .int (nI n), r] G S T (some (.int (nI i))) G S T := by
  refine Ct.of rfl (Nat.le_of_ble_eq_true rfl) (fun v hv => by rcases hr with rfl | ⟨t, rfl⟩ <;> (simp at hv; rcases hv with rfl | rfl | rfl <;> rfl)) (fun K g e hK => ?_)
  obtain ⟨rfl, -⟩ := hK
  show Xj K [] G 0 [some (.int (nI i)), some (.int (nI n)), some (r)] [] S T 0 0
  rcases hr with rfl | ⟨t, rfl⟩
  · show Xj K [] G 0 [some (.int (nI i)), some (.int (nI n)), some .null] [] S T 0 0
    refine x_iload_n 0 g dJ3_checkIndex_8e157_0 rfl rfl ?_
    refine x_if_lt 9 g dJ3_checkIndex_8e157_1 (by decide) (fun c9 => absurd c9 (nI_pos (by omega))) (fun _ => ?_)
    refine x_iload_n 0 g dJ3_checkIndex_8e157_4 rfl rfl ?_
    refine x_iload_n 1 g dJ3_checkIndex_8e157_5 rfl rfl ?_
    refine x_icmp_lt 16 g dJ3_checkIndex_8e157_6 (by decide) (fun _ => ?_) (fun c9 => absurd (nI_lt hi (by omega)) c9)
    refine x_iload_n 0 g dJ3_checkIndex_8e157_16 rfl rfl ?_
    exact x_iret g e dJ3_checkIndex_8e157_17
  · show Xj K [] G 0 [some (.int (nI i)), some (.int (nI n)), some (.ref t)] [] S T 0 0
    refine x_iload_n 0 g dJ3_checkIndex_8e157_0 rfl rfl ?_
    refine x_if_lt 9 g dJ3_checkIndex_8e157_1 (by decide) (fun c9 => absurd c9 (nI_pos (by omega))) (fun _ => ?_)
    refine x_iload_n 0 g dJ3_checkIndex_8e157_4 rfl rfl ?_
    refine x_iload_n 1 g dJ3_checkIndex_8e157_5 rfl rfl ?_
    refine x_icmp_lt 16 g dJ3_checkIndex_8e157_6 (by decide) (fun _ => ?_) (fun c9 => absurd (nI_lt hi (by omega)) c9)
    refine x_iload_n 0 g dJ3_checkIndex_8e157_16 rfl rfl ?_
    exact x_iret g e dJ3_checkIndex_8e157_17


theorem kJ0_checkIndex {ad : Nat → Nat} {i n : Nat} {G : gG} {S : gS} {T : gT} (hi : i < n) (hn : n ≤ 65536) : Ct ad yJ0_checkIndex_df160 (Cond.code yJ0_checkIndex_df160 cJ0_checkIndex_df160 2 none :: gTb) 1 0 0 [.int (nI i), .int (nI n)] G S T none G S T := by
  refine Ct.of rfl (Nat.le_of_ble_eq_true rfl) (fun v hv => by simp at hv; rcases hv with rfl | rfl <;> rfl) (fun K g e hK => ?_)
  obtain ⟨rfl, -⟩ := hK
  show Xj K [] G 0 [some (.int (nI i)), some (.int (nI n))] [] S T 0 0
  rcases hzSF g with hz | ⟨t, hz⟩
  · refine x_iload_n 0 g dJ0_checkIndex_df160_0 rfl rfl ?_
    refine x_iload_n 1 g dJ0_checkIndex_df160_1 rfl rfl ?_
    refine x_gst g dJ0_checkIndex_df160_2 hz ls_J0_1053 ?_
    refine x_cS [.int (nI i)] g (kJ3_checkIndex (r := .null) (Or.inl rfl) hi hn) ca_J3_checkIndex_8e157 st_J3_checkIndex_8e157 lm_J0_1059 (Nat.le_of_ble_eq_true rfl) rfl rfl (Nat.le_of_ble_eq_true rfl) dJ0_checkIndex_df160_5 rfl ?_
    refine x_pop g dJ0_checkIndex_df160_8 rfl ?_
    exact x_vret g e dJ0_checkIndex_df160_9
  · refine x_iload_n 0 g dJ0_checkIndex_df160_0 rfl rfl ?_
    refine x_iload_n 1 g dJ0_checkIndex_df160_1 rfl rfl ?_
    refine x_gst g dJ0_checkIndex_df160_2 hz ls_J0_1053 ?_
    refine x_cS [.int (nI i)] g (kJ3_checkIndex (r := .ref t) (Or.inr ⟨t, rfl⟩) hi hn) ca_J3_checkIndex_8e157 st_J3_checkIndex_8e157 lm_J0_1059 (Nat.le_of_ble_eq_true rfl) rfl rfl (Nat.le_of_ble_eq_true rfl) dJ0_checkIndex_df160_5 rfl ?_
    refine x_pop g dJ0_checkIndex_df160_8 rfl ?_
    exact x_vret g e dJ0_checkIndex_df160_9


theorem kJ5_charAt {ad : Nat → Nat} {a arr m i : Nat} {tx : List Nat} {G : gG} {S : gS} (ha : gis G 4 a) (hr : gis G 5 arr) (hn : gn G arr = m) (h20 : gP S 20 a = some arr) (h50 : gI S 50 a = 0) (h52 : gI S 52 a = nI tx.length) (hm : tx.length ≤ m) (hm2 : m ≤ 65536) (h3 : sb_Lat (fun i => tx.getD i 0) tx.length (gr S arr)) (hi : i < tx.length) : Ct ad yJ5_charAt_5068e (Cond.code yJ5_charAt_5068e cJ5_charAt_5068e 5 (some .char) :: gTb) 2 0 0 [.ref a, .int (nI i)] G S [] (some (.int (nI (tx.getD i 0)))) G S [] := by
  refine Ct.of rfl (Nat.le_of_ble_eq_true rfl) (fun v hv => by simp at hv; rcases hv with rfl | rfl <;> rfl) (fun K g e hK => ?_)
  obtain ⟨rfl, -⟩ := hK
  show Xj K [] G 0 [some (.ref a), some (.int (nI i)), none, none, none] [] S [] 0 0
  have hb := sb_byte _ (h3 i hi).1
  have hv : (gr S arr i &&& 255) = nI (tx.getD i 0) := by rw [(h3 i hi).2]; exact hb.1
  have hn' : narrow .char (.int (nI (tx.getD i 0))) = .int (nI (tx.getD i 0)) := (pk_charN (q := tx.getD i 0) (Nat.lt_of_lt_of_le (show tx.getD i 0 < 256 from (h3 i hi).1) (by decide))).1
  refine x_aload_n 0 g dJ5_charAt_5068e_0 rfl rfl ?_
  refine x_getiS g dJ5_charAt_5068e_1 gXJ4 1 50 rfl (by decide) lf_J5_22 ha ?_
  refine x_eqi 0 h50 ?_
  refine x_istore_n 2 g dJ5_charAt_5068e_4 rfl (Nat.le_of_ble_eq_true rfl) rfl ?_
  refine x_aload_n 0 g dJ5_charAt_5068e_5 rfl rfl ?_
  refine x_getrS g dJ5_charAt_5068e_6 gXJ4 0 20 rfl (by decide) lf_J5_15 ha h20 ?_
  refine x_astore_n 3 g dJ5_charAt_5068e_9 rfl (Nat.le_of_ble_eq_true rfl) rfl ?_
  refine x_aload_n 0 g dJ5_charAt_5068e_10 rfl rfl ?_
  refine x_getiS g dJ5_charAt_5068e_11 gXJ4 3 52 rfl (by decide) lf_J5_79 ha ?_
  refine x_eqi (nI tx.length) h52 ?_
  refine x_aload_n 3 g dJ5_charAt_5068e_14 rfl rfl ?_
  refine x_leny g dJ5_charAt_5068e_15 hr ?_
  refine x_eqi (nI m) (congrArg Int32.ofNat hn) ?_
  refine x_iload_n 2 g dJ5_charAt_5068e_16 rfl rfl ?_
  refine x_ishr g dJ5_charAt_5068e_17 ?_
  refine x_eqi (nI m) (sb_shr0 _) ?_
  refine x_mmin g lmm_J5_138 (by decide) (Nat.le_of_ble_eq_true rfl) dJ5_charAt_5068e_18 ?_
  refine x_eqi (nI tx.length) (if_neg (nI_nlt hm (by omega))) ?_
  refine x_istore (i := 4) g dJ5_charAt_5068e_21 (Nat.le_of_ble_eq_true rfl) rfl ?_
  refine x_iload_n 1 g dJ5_charAt_5068e_23 rfl rfl ?_
  refine x_iload (i := 4) g dJ5_charAt_5068e_24 rfl ?_
  refine x_cS [] g (kJ0_checkIndex hi (by omega)) ca_J0_checkIndex_df160 st_J0_checkIndex_df160 lm_J5_144 (Nat.le_of_ble_eq_true rfl) rfl rfl (Nat.le_of_ble_eq_true rfl) dJ5_charAt_5068e_26 rfl ?_
  refine x_iload_n 2 g dJ5_charAt_5068e_29 rfl rfl ?_
  refine x_if_ne 42 g dJ5_charAt_5068e_30 (by decide) (fun c => absurd rfl c) (fun _ => ?_)
  refine x_aload_n 3 g dJ5_charAt_5068e_33 rfl rfl ?_
  refine x_iload_n 1 g dJ5_charAt_5068e_34 rfl rfl ?_
  refine x_bald g dJ5_charAt_5068e_35 hr (vp_in_nI (by omega) (by omega)) ?_
  refine x_eqi (gr S arr i) (by rw [nI_clamp (by omega)]) ?_
  refine x_sipush (v := 255) g dJ5_charAt_5068e_36 (by decide) ?_
  refine x_iand g dJ5_charAt_5068e_39 ?_
  refine x_eqi (nI (tx.getD i 0)) hv ?_
  refine x_i2c g dJ5_charAt_5068e_40 hb.2.1 ?_
  exact x_zret hn' g e dJ5_charAt_5068e_41

def gmc (q m : Nat) : Nat := if q ≤ m then 0 else 1
def gms (q m : Nat) : Nat := if q ≤ m then 0 else sb_cap q m

theorem kJ5_ensure {ad : Nat → Nat} {a cap q : Nat} {tx : List Nat} (hq : q < 2 ^ 28) (hq2 : sb_cap q cap ≤ 65536) : Ct ad yJ5_ensureCapacityInternal_d00df (Cond.code yJ5_ensureCapacityInternal_d00df cJ5_ensureCapacityInternal_d00df 3 none :: gTb) 3 (gmc q cap) (gms q cap) [.ref a, .int (nI q)] gE sE [(a, cap, tx)] none gE sE [(a, sb_cap q cap, tx)] := by
  refine Ct.of rfl (Nat.le_of_ble_eq_true rfl) (fun v hv => by simp at hv; rcases hv with rfl | rfl <;> rfl) (fun K g e hK => ?_)
  obtain ⟨rfl, -⟩ := hK
  show Xj K [] gE 0 [some (.ref a), some (.int (nI q)), none] [] sE [(a, cap, tx)] (gmc q cap) (gms q cap)
  refine x_TtoG (fun arr ml by' hne h1 h2 h3 h4 => ?_)
  refine x_aload_n 0 g dJ5_ensureCapacityInternal_d00df_0 rfl rfl ?_
  refine x_getrS g dJ5_ensureCapacityInternal_d00df_1 gXJ4 0 20 rfl (by decide) lf_J5_15 gis_sa rfl ?_
  refine x_leny g dJ5_ensureCapacityInternal_d00df_4 (gis_sr hne) ?_
  refine x_eqi (nI cap) rfl ?_
  refine x_aload_n 0 g dJ5_ensureCapacityInternal_d00df_5 rfl rfl ?_
  refine x_getiS g dJ5_ensureCapacityInternal_d00df_6 gXJ4 1 50 rfl (by decide) lf_J5_22 gis_sa ?_
  refine x_ishr g dJ5_ensureCapacityInternal_d00df_9 ?_
  refine x_eqi (nI cap) (sb_shr0 _) ?_
  refine x_istore_n 2 g dJ5_ensureCapacityInternal_d00df_10 rfl (Nat.le_of_ble_eq_true rfl) rfl ?_
  refine x_iload_n 1 g dJ5_ensureCapacityInternal_d00df_11 rfl rfl ?_
  refine x_iload_n 2 g dJ5_ensureCapacityInternal_d00df_12 rfl rfl ?_
  refine x_isub g dJ5_ensureCapacityInternal_d00df_13 ?_
  have hg := sb_cap_ge q cap
  have hgm := sb_cap_gem q cap
  have e1 : (nI q - nI cap).toInt = (q : Int) - cap := pk_sub_toInt (by omega) (by omega)
  by_cases hqc : q ≤ cap
  · refine x_if_le 38 g dJ5_ensureCapacityInternal_d00df_14 (by decide) (fun _ => ?_) (fun c9 => absurd (by rw [Int32.le_iff_toInt_le, e1, Int32.toInt_zero]; omega) c9)
    rw [show sb_cap q cap = cap from if_pos hqc] at e
    refine x_GtoT gis_sa (gis_sr hne) rfl rfl rfl rfl h1 h2 h3 h4 ?_
    exact x_vret g e dJ5_ensureCapacityInternal_d00df_38
  · refine x_if_le 38 g dJ5_ensureCapacityInternal_d00df_14 (by decide) (fun c9 => absurd c9 (fun z => hqc (by rw [Int32.le_iff_toInt_le, e1, Int32.toInt_zero] at z; omega))) (fun _ => ?_)
    have r1 : gmc q cap = 1 := if_neg hqc
    have r2 : gms q cap = sb_cap q cap := if_neg hqc
    refine x_aload_n 0 g dJ5_ensureCapacityInternal_d00df_17 rfl rfl ?_
    refine x_aload_n 0 g dJ5_ensureCapacityInternal_d00df_18 rfl rfl ?_
    refine x_getrS g dJ5_ensureCapacityInternal_d00df_19 gXJ4 0 20 rfl (by decide) lf_J5_15 gis_sa rfl ?_
    refine x_aload_n 0 g dJ5_ensureCapacityInternal_d00df_22 rfl rfl ?_
    refine x_iload_n 1 g dJ5_ensureCapacityInternal_d00df_23 rfl rfl ?_
    refine x_callVP [.int (nI (sb_cap q cap)), .ref arr, .ref a] g (kJ5_newCapacity (m := cap) gis_sa (gis_sr hne) rfl rfl rfl (by omega) hq2) ca_J5_newCapacity_0f7a4 in_J5_newCapacity_0f7a4 (seN g) lm_J5_104 gis_sa (Nat.le_of_ble_eq_true rfl) (Nat.zero_le _) (Nat.zero_le _) rfl rfl (Nat.le_of_ble_eq_true rfl) dJ5_ensureCapacityInternal_d00df_24 rfl ?_
    refine x_aload_n 0 g dJ5_ensureCapacityInternal_d00df_27 rfl rfl ?_
    refine x_getiS g dJ5_ensureCapacityInternal_d00df_28 gXJ4 1 50 rfl (by decide) lf_J5_22 gis_sa ?_
    refine x_ishl g dJ5_ensureCapacityInternal_d00df_31 ?_
    refine x_eqi (nI (sb_cap q cap)) (sb_shl0 _) ?_
    refine x_callSR (rest := [.ref a]) (As := [.ref arr, .int (nI (sb_cap q cap))]) g (kJ7_copyOf (m := cap) (gis_sr hne) rfl (by omega) hq2 h4) ca_J7_copyOf_9075b st_J7_copyOf_9075b lm_J5_108 (Nat.le_of_ble_eq_true rfl) (by omega) (by omega) rfl rfl (Nat.le_of_ble_eq_true rfl) dJ5_ensureCapacityInternal_d00df_32 (fun v G' S' T' hR => ?_)
    obtain ⟨b, hb, rfl, rfl, rfl, rfl⟩ := hR
    have hab : a ≠ b := fun q => hb (by rw [← q]; exact List.mem_cons_self)
    show Xj K [] _ 35 _ [.ref b, .ref a] _ _ _ _
    refine x_putrS g dJ5_ensureCapacityInternal_d00df_35 gXJ4 0 20 rfl (by decide) rfl lf_J5_15 rfl rfl (gis_old hb gis_sa) ?_
    refine x_GtoT (tx := tx) (gis_old hb gis_sa) gis_add gn_add ?_ ?_ ?_ (by omega) hq2 ?_ ?_ ?_
    · rw [gP_sP, if_pos ⟨rfl, rfl⟩]
    · rw [gI_sP, gI_srow]; exact (if_neg hab).trans rfl
    · rw [gI_sP, gI_srow]; exact (if_neg hab).trans rfl
    · show sb_Lat _ _ (gr (srow _ b _) b); rw [gr_row]; exact sb_latKeep h3 (fun j hj => sb_cpy0 (by omega))
    · show sb_Fit (gr (srow _ b _) b); rw [gr_row]; exact sb_fitC h4 sb_fit0
    · exact x_vret g e dJ5_ensureCapacityInternal_d00df_38

theorem gLatA {tx : List Nat} {by' f : Nat → Int32} {w : Nat} {s : Nat → Nat} {sx : List Nat} (h : sb_Lat (fun i => tx.getD i 0) tx.length by') (hk : ∀ j, j < tx.length → f j = by' j) (hw : sx.length = w) (hs : ∀ i, i < w → sx.getD i 0 = s i) (hn : ∀ i, i < w → s i < 256 ∧ f (tx.length + i) = sb_b (s i)) : sb_Lat (fun i => (tx ++ sx).getD i 0) (tx ++ sx).length f := by
  intro j hj
  rw [List.length_append, hw] at hj
  by_cases hl : j < tx.length
  · have e : (tx ++ sx).getD j 0 = tx.getD j 0 := by
      rw [List.getD_eq_getElem?_getD, List.getD_eq_getElem?_getD, List.getElem?_append_left hl]
    show (tx ++ sx).getD j 0 < 256 ∧ f j = sb_b ((tx ++ sx).getD j 0)
    rw [e, hk j hl]
    exact h j hl
  · obtain ⟨i, rfl⟩ : ∃ i, j = tx.length + i := ⟨j - tx.length, by omega⟩
    have e : (tx ++ sx).getD (tx.length + i) 0 = s i := by
      rw [List.getD_eq_getElem?_getD, List.getElem?_append_right (by omega), Nat.add_sub_cancel_left, ← List.getD_eq_getElem?_getD]
      exact hs i (by omega)
    show (tx ++ sx).getD (tx.length + i) 0 < 256 ∧ f (tx.length + i) = sb_b ((tx ++ sx).getD (tx.length + i) 0)
    rw [e]
    exact hn i (by omega)

theorem kJ5_appendC {ad : Nat → Nat} {a cap c : Nat} {tx : List Nat} (hc : c < 256) (hl : tx.length < 65536) (hq2 : sb_cap (tx.length + 1) cap ≤ 65536) : Ct ad yJ5_append_3fe6f (Cond.code yJ5_append_3fe6f cJ5_append_3fe6f 2 (some ( .object "java/lang/AbstractStringBuilder")) :: gTb) 4 (gmc (tx.length + 1) cap) (gms (tx.length + 1) cap) [.ref a, .int (nI c)] gE sE [(a, cap, tx)] (some (.ref a)) gE sE [(a, sb_cap (tx.length + 1) cap, tx ++ [c])] := by
  refine Ct.of rfl (Nat.le_of_ble_eq_true rfl) (fun v hv => by simp at hv; rcases hv with rfl | rfl <;> rfl) (fun K g e hK => ?_)
  obtain ⟨rfl, -⟩ := hK
  show Xj K [] gE 0 [some (.ref a), some (.int (nI c))] [] sE [(a, cap, tx)] (gmc (tx.length + 1) cap) (gms (tx.length + 1) cap)
  refine x_TtoG (fun arr ml by' hne h1 h2 h3 h4 => ?_)
  refine x_aload_n 0 g dJ5_append_3fe6f_0 rfl rfl ?_
  refine x_aload_n 0 g dJ5_append_3fe6f_1 rfl rfl ?_
  refine x_getiS g dJ5_append_3fe6f_2 gXJ4 3 52 rfl (by decide) lf_J5_79 gis_sa ?_
  refine x_eqi (nI tx.length) rfl ?_
  refine x_iconst (v := 1) g dJ5_append_3fe6f_5 (by decide) ?_
  refine x_iadd g dJ5_append_3fe6f_6 ?_
  refine x_eqi (nI (tx.length + 1)) (nI_1 _) ?_
  refine x_GtoT (cap := cap) gis_sa (gis_sr hne) rfl rfl rfl rfl h1 h2 h3 h4 ?_
  refine x_callVT [] g (kJ5_ensure (q := tx.length + 1) (by omega) hq2) ca_J5_ensureCapacityInternal_d00df in_J5_ensureCapacityInternal_d00df (seE g) lm_J5_100 (Nat.le_of_ble_eq_true rfl) (Nat.le_refl _) (Nat.le_refl _) rfl rfl (Nat.le_of_ble_eq_true rfl) dJ5_append_3fe6f_7 rfl ?_
  clear h1 h2 h3 h4 hne ml by' arr
  refine x_TtoG (fun arr ml by' hne h1 h2 h3 h4 => ?_)
  rw [Nat.sub_self, Nat.sub_self]
  refine x_aload_n 0 g dJ5_append_3fe6f_10 rfl rfl ?_
  refine x_callVP [.int 1] g (kJ5_isLatin1 gis_sa rfl) ca_J5_isLatin1_aae02 in_J5_isLatin1_aae02 (seI g) lm_J5_83 gis_sa (Nat.le_of_ble_eq_true rfl) (Nat.zero_le _) (Nat.zero_le _) rfl rfl (Nat.le_of_ble_eq_true rfl) dJ5_append_3fe6f_11 rfl ?_
  refine x_if_eq 45 g dJ5_append_3fe6f_14 (by decide) (fun c => absurd c (by decide)) (fun _ => ?_)
  refine x_iload_n 1 g dJ5_append_3fe6f_17 rfl rfl ?_
  refine x_cS [.int 1] g (kJ1_canEncode hc) ca_J1_canEncode_fc78d st_J1_canEncode_fc78d lm_J5_191 (Nat.le_of_ble_eq_true rfl) rfl rfl (Nat.le_of_ble_eq_true rfl) dJ5_append_3fe6f_18 rfl ?_
  refine x_if_eq 45 g dJ5_append_3fe6f_21 (by decide) (fun c => absurd c (by decide)) (fun _ => ?_)
  refine x_aload_n 0 g dJ5_append_3fe6f_24 rfl rfl ?_
  refine x_getrS g dJ5_append_3fe6f_25 gXJ4 0 20 rfl (by decide) lf_J5_15 gis_sa rfl ?_
  refine x_aload_n 0 g dJ5_append_3fe6f_28 rfl rfl ?_
  refine x_dup g dJ5_append_3fe6f_29 rfl ?_
  refine x_getiS g dJ5_append_3fe6f_30 gXJ4 3 52 rfl (by decide) lf_J5_79 gis_sa ?_
  refine x_eqi (nI tx.length) rfl ?_
  refine x_dupx1 g dJ5_append_3fe6f_33 rfl rfl ?_
  refine x_iconst (v := 1) g dJ5_append_3fe6f_34 (by decide) ?_
  refine x_iadd g dJ5_append_3fe6f_35 ?_
  refine x_eqi (nI (tx.length + 1)) (nI_1 _) ?_
  refine x_putiS g dJ5_append_3fe6f_36 gXJ4 3 52 rfl (by decide) rfl lf_J5_79 rfl rfl gis_sa ?_
  refine x_iload_n 1 g dJ5_append_3fe6f_39 rfl rfl ?_
  refine x_i2b (v := sb_b c) g dJ5_append_3fe6f_40 rfl ?_
  have hcg := sb_cap_ge (tx.length + 1) cap
  refine x_bast g dJ5_append_3fe6f_41 (gis_sr hne) (show vp_in (nI tx.length) (sb_cap (tx.length + 1) cap) from vp_in_nI (by omega) (by omega)) ?_
  refine x_goto 75 g dJ5_append_3fe6f_42 (by decide) ?_
  refine x_aload_n 0 g dJ5_append_3fe6f_75 rfl rfl ?_
  rw [nI_clamp (by omega), show vp_nar .byte (sb_b c) = sb_b c from pk_vb _]
  refine x_GtoT (tx := tx ++ [c]) gis_sa (gis_sr hne) rfl ?_ ?_ ?_ (by rw [List.length_append, List.length_singleton]; exact hcg) h2 ?_ ?_ ?_
  · rfl
  · rw [gI_sr, gI_sI, if_neg (by omega)]; rfl
  · rw [gI_sr, gI_sI, if_pos ⟨rfl, rfl⟩, List.length_append]; rfl
  · refine gLatA (s := fun _ => c) (w := 1) h3 (fun j hj => ?_) rfl (fun i hi => ?_) (fun i hi => ?_)
    · rw [gr_sr, if_neg (by omega)]; rfl
    · obtain rfl : i = 0 := by omega
      rfl
    · obtain rfl : i = 0 := by omega
      exact ⟨hc, by rw [gr_sr, if_pos ⟨rfl, rfl⟩]⟩
  · intro j
    rw [gr_sr]
    split
    · exact sb_fitB _
    · exact h4 j
  · exact x_aret (r := some a) g e dJ5_append_3fe6f_76

theorem kJ4_appendC {ad : Nat → Nat} {a cap c : Nat} {tx : List Nat} (hc : c < 256) (hl : tx.length < 65536) (hq2 : sb_cap (tx.length + 1) cap ≤ 65536) : Ct ad yJ4_append_cf468 (Cond.code yJ4_append_cf468 cJ4_append_cf468 2 (some ( .object "java/lang/StringBuilder")) :: gTb) 5 (gmc (tx.length + 1) cap) (gms (tx.length + 1) cap) [.ref a, .int (nI c)] gE sE [(a, cap, tx)] (some (.ref a)) gE sE [(a, sb_cap (tx.length + 1) cap, tx ++ [c])] := by
  refine Ct.of rfl (Nat.le_of_ble_eq_true rfl) (fun v hv => by simp at hv; rcases hv with rfl | rfl <;> rfl) (fun K g e hK => ?_)
  obtain ⟨rfl, -⟩ := hK
  show Xj K [] gE 0 [some (.ref a), some (.int (nI c))] [] sE [(a, cap, tx)] (gmc (tx.length + 1) cap) (gms (tx.length + 1) cap)
  refine x_aload_n 0 g dJ4_append_cf468_0 rfl rfl ?_
  refine x_iload_n 1 g dJ4_append_cf468_1 rfl rfl ?_
  refine x_callUT [.ref a] g (kJ5_appendC hc hl hq2) ca_J5_append_3fe6f rfl (by decide) in_J5_append_3fe6f sm_J5_append_3fe6f lm_J4_50 (Nat.le_of_ble_eq_true rfl) (Nat.le_refl _) (Nat.le_refl _) rfl rfl (Nat.le_of_ble_eq_true rfl) dJ4_append_cf468_2 rfl ?_
  refine x_pop g dJ4_append_cf468_5 rfl ?_
  refine x_aload_n 0 g dJ4_append_cf468_6 rfl rfl ?_
  exact x_aret (r := some a) g e dJ4_append_cf468_7

theorem kJ6_stringSize {ad : Nat → Nat} {v : Nat} {G : gG} {S : gS} {T : gT} (hv : v < 2 ^ 31) : Ct ad yJ6_stringSize_0f7a4 (Cond.code yJ6_stringSize_0f7a4 cJ6_stringSize_0f7a4 4 (some .int) :: gTb) 0 0 0 [.int (nI v)] G S T (some (.int (nI (sb_dg v)))) G S T := by
  refine Ct.of rfl (Nat.le_of_ble_eq_true rfl) (fun v hv => by simp at hv; subst hv; rfl) (fun K g e hK => ?_)
  obtain ⟨rfl, -⟩ := hK
  show Xj K [] G 0 [some (.int (nI v)), none, none, none] [] S T 0 0
  refine x_iconst (v := 1) g dJ6_stringSize_0f7a4_0 (by decide) ?_
  refine x_istore_n 1 g dJ6_stringSize_0f7a4_1 rfl (Nat.le_of_ble_eq_true rfl) rfl ?_
  refine x_iload_n 0 g dJ6_stringSize_0f7a4_2 rfl rfl ?_
  refine x_if_lt 11 g dJ6_stringSize_0f7a4_3 (by decide) (fun c9 => absurd c9 (nI_pos hv)) (fun _ => ?_)
  refine x_iconst (v := 0) g dJ6_stringSize_0f7a4_6 (by decide) ?_
  refine x_istore_n 1 g dJ6_stringSize_0f7a4_7 rfl (Nat.le_of_ble_eq_true rfl) rfl ?_
  refine x_iload_n 0 g dJ6_stringSize_0f7a4_8 rfl rfl ?_
  refine x_ineg g dJ6_stringSize_0f7a4_9 ?_
  refine x_istore_n 0 g dJ6_stringSize_0f7a4_10 rfl (Nat.le_of_ble_eq_true rfl) rfl ?_
  refine x_bipush (v := (-10)) g dJ6_stringSize_0f7a4_11 (by decide) ?_
  refine x_istore_n 2 g dJ6_stringSize_0f7a4_13 rfl (Nat.le_of_ble_eq_true rfl) rfl ?_
  refine x_iconst (v := 1) g dJ6_stringSize_0f7a4_14 (by decide) ?_
  refine x_istore_n 3 g dJ6_stringSize_0f7a4_15 rfl (Nat.le_of_ble_eq_true rfl) rfl ?_
  show Xj K [] G 16 [some (.int (-nI v)), some (.int 0), some (.int (-10)), some (.int 1)] [] S T 0 0
  have hs : ∀ i, sb_dg v = i → gEnd K (some .int) (some (.int (nI i))) G S T := fun i q => by rw [← q]; exact e
  refine x_iload_n 3 g dJ6_stringSize_0f7a4_16 rfl rfl ?_
  refine x_bipush (v := 10) g dJ6_stringSize_0f7a4_17 (by decide) ?_
  refine x_icmp_ge 42 g dJ6_stringSize_0f7a4_19 (by decide) (fun c9 => absurd c9 (by decide)) (fun _ => ?_)
  refine x_iload_n 0 g dJ6_stringSize_0f7a4_22 rfl rfl ?_
  refine x_iload_n 2 g dJ6_stringSize_0f7a4_23 rfl rfl ?_
  refine x_icmp_le 31 g dJ6_stringSize_0f7a4_24 (by decide) (fun c9 => ?_) (fun c9 => ?_)
  rotate_left
  · have h9 : v < 10 := by
      by_cases z : 10 ≤ v
      · exact absurd ((sb_nle (a := v) (b := 10) hv (by decide)).mpr z) c9
      · omega
    refine x_iload_n 3 g dJ6_stringSize_0f7a4_27 rfl rfl ?_
    refine x_iload_n 1 g dJ6_stringSize_0f7a4_28 rfl rfl ?_
    refine x_iadd g dJ6_stringSize_0f7a4_29 ?_
    refine x_eqi (nI 1) (by decide) ?_
    exact x_iret g (hs 1 (by unfold sb_dg; (repeat' split) <;> omega)) dJ6_stringSize_0f7a4_30
  have h1 : 10 ≤ v := (sb_nle (a := v) (b := 10) hv (by decide)).mp c9
  refine x_bipush (v := 10) g dJ6_stringSize_0f7a4_31 (by decide) ?_
  refine x_iload_n 2 g dJ6_stringSize_0f7a4_33 rfl rfl ?_
  refine x_imul g dJ6_stringSize_0f7a4_34 ?_
  refine x_eqi (-100) (by decide) ?_
  refine x_istore_n 2 g dJ6_stringSize_0f7a4_35 rfl (Nat.le_of_ble_eq_true rfl) rfl ?_
  refine x_iinc (v := 2) g dJ6_stringSize_0f7a4_36 rfl (by decide) rfl ?_
  refine x_goto 16 g dJ6_stringSize_0f7a4_39 (by decide) ?_
  show Xj K [] G 16 [some (.int (-nI v)), some (.int 0), some (.int (-100)), some (.int 2)] [] S T 0 0
  refine x_iload_n 3 g dJ6_stringSize_0f7a4_16 rfl rfl ?_
  refine x_bipush (v := 10) g dJ6_stringSize_0f7a4_17 (by decide) ?_
  refine x_icmp_ge 42 g dJ6_stringSize_0f7a4_19 (by decide) (fun c9 => absurd c9 (by decide)) (fun _ => ?_)
  refine x_iload_n 0 g dJ6_stringSize_0f7a4_22 rfl rfl ?_
  refine x_iload_n 2 g dJ6_stringSize_0f7a4_23 rfl rfl ?_
  refine x_icmp_le 31 g dJ6_stringSize_0f7a4_24 (by decide) (fun c9 => ?_) (fun c9 => ?_)
  rotate_left
  · have h9 : v < 100 := by
      by_cases z : 100 ≤ v
      · exact absurd ((sb_nle (a := v) (b := 100) hv (by decide)).mpr z) c9
      · omega
    refine x_iload_n 3 g dJ6_stringSize_0f7a4_27 rfl rfl ?_
    refine x_iload_n 1 g dJ6_stringSize_0f7a4_28 rfl rfl ?_
    refine x_iadd g dJ6_stringSize_0f7a4_29 ?_
    refine x_eqi (nI 2) (by decide) ?_
    exact x_iret g (hs 2 (by unfold sb_dg; (repeat' split) <;> omega)) dJ6_stringSize_0f7a4_30
  have h2 : 100 ≤ v := (sb_nle (a := v) (b := 100) hv (by decide)).mp c9
  refine x_bipush (v := 10) g dJ6_stringSize_0f7a4_31 (by decide) ?_
  refine x_iload_n 2 g dJ6_stringSize_0f7a4_33 rfl rfl ?_
  refine x_imul g dJ6_stringSize_0f7a4_34 ?_
  refine x_eqi (-1000) (by decide) ?_
  refine x_istore_n 2 g dJ6_stringSize_0f7a4_35 rfl (Nat.le_of_ble_eq_true rfl) rfl ?_
  refine x_iinc (v := 3) g dJ6_stringSize_0f7a4_36 rfl (by decide) rfl ?_
  refine x_goto 16 g dJ6_stringSize_0f7a4_39 (by decide) ?_
  show Xj K [] G 16 [some (.int (-nI v)), some (.int 0), some (.int (-1000)), some (.int 3)] [] S T 0 0
  refine x_iload_n 3 g dJ6_stringSize_0f7a4_16 rfl rfl ?_
  refine x_bipush (v := 10) g dJ6_stringSize_0f7a4_17 (by decide) ?_
  refine x_icmp_ge 42 g dJ6_stringSize_0f7a4_19 (by decide) (fun c9 => absurd c9 (by decide)) (fun _ => ?_)
  refine x_iload_n 0 g dJ6_stringSize_0f7a4_22 rfl rfl ?_
  refine x_iload_n 2 g dJ6_stringSize_0f7a4_23 rfl rfl ?_
  refine x_icmp_le 31 g dJ6_stringSize_0f7a4_24 (by decide) (fun c9 => ?_) (fun c9 => ?_)
  rotate_left
  · have h9 : v < 1000 := by
      by_cases z : 1000 ≤ v
      · exact absurd ((sb_nle (a := v) (b := 1000) hv (by decide)).mpr z) c9
      · omega
    refine x_iload_n 3 g dJ6_stringSize_0f7a4_27 rfl rfl ?_
    refine x_iload_n 1 g dJ6_stringSize_0f7a4_28 rfl rfl ?_
    refine x_iadd g dJ6_stringSize_0f7a4_29 ?_
    refine x_eqi (nI 3) (by decide) ?_
    exact x_iret g (hs 3 (by unfold sb_dg; (repeat' split) <;> omega)) dJ6_stringSize_0f7a4_30
  have h3 : 1000 ≤ v := (sb_nle (a := v) (b := 1000) hv (by decide)).mp c9
  refine x_bipush (v := 10) g dJ6_stringSize_0f7a4_31 (by decide) ?_
  refine x_iload_n 2 g dJ6_stringSize_0f7a4_33 rfl rfl ?_
  refine x_imul g dJ6_stringSize_0f7a4_34 ?_
  refine x_eqi (-10000) (by decide) ?_
  refine x_istore_n 2 g dJ6_stringSize_0f7a4_35 rfl (Nat.le_of_ble_eq_true rfl) rfl ?_
  refine x_iinc (v := 4) g dJ6_stringSize_0f7a4_36 rfl (by decide) rfl ?_
  refine x_goto 16 g dJ6_stringSize_0f7a4_39 (by decide) ?_
  show Xj K [] G 16 [some (.int (-nI v)), some (.int 0), some (.int (-10000)), some (.int 4)] [] S T 0 0
  refine x_iload_n 3 g dJ6_stringSize_0f7a4_16 rfl rfl ?_
  refine x_bipush (v := 10) g dJ6_stringSize_0f7a4_17 (by decide) ?_
  refine x_icmp_ge 42 g dJ6_stringSize_0f7a4_19 (by decide) (fun c9 => absurd c9 (by decide)) (fun _ => ?_)
  refine x_iload_n 0 g dJ6_stringSize_0f7a4_22 rfl rfl ?_
  refine x_iload_n 2 g dJ6_stringSize_0f7a4_23 rfl rfl ?_
  refine x_icmp_le 31 g dJ6_stringSize_0f7a4_24 (by decide) (fun c9 => ?_) (fun c9 => ?_)
  rotate_left
  · have h9 : v < 10000 := by
      by_cases z : 10000 ≤ v
      · exact absurd ((sb_nle (a := v) (b := 10000) hv (by decide)).mpr z) c9
      · omega
    refine x_iload_n 3 g dJ6_stringSize_0f7a4_27 rfl rfl ?_
    refine x_iload_n 1 g dJ6_stringSize_0f7a4_28 rfl rfl ?_
    refine x_iadd g dJ6_stringSize_0f7a4_29 ?_
    refine x_eqi (nI 4) (by decide) ?_
    exact x_iret g (hs 4 (by unfold sb_dg; (repeat' split) <;> omega)) dJ6_stringSize_0f7a4_30
  have h4 : 10000 ≤ v := (sb_nle (a := v) (b := 10000) hv (by decide)).mp c9
  refine x_bipush (v := 10) g dJ6_stringSize_0f7a4_31 (by decide) ?_
  refine x_iload_n 2 g dJ6_stringSize_0f7a4_33 rfl rfl ?_
  refine x_imul g dJ6_stringSize_0f7a4_34 ?_
  refine x_eqi (-100000) (by decide) ?_
  refine x_istore_n 2 g dJ6_stringSize_0f7a4_35 rfl (Nat.le_of_ble_eq_true rfl) rfl ?_
  refine x_iinc (v := 5) g dJ6_stringSize_0f7a4_36 rfl (by decide) rfl ?_
  refine x_goto 16 g dJ6_stringSize_0f7a4_39 (by decide) ?_
  show Xj K [] G 16 [some (.int (-nI v)), some (.int 0), some (.int (-100000)), some (.int 5)] [] S T 0 0
  refine x_iload_n 3 g dJ6_stringSize_0f7a4_16 rfl rfl ?_
  refine x_bipush (v := 10) g dJ6_stringSize_0f7a4_17 (by decide) ?_
  refine x_icmp_ge 42 g dJ6_stringSize_0f7a4_19 (by decide) (fun c9 => absurd c9 (by decide)) (fun _ => ?_)
  refine x_iload_n 0 g dJ6_stringSize_0f7a4_22 rfl rfl ?_
  refine x_iload_n 2 g dJ6_stringSize_0f7a4_23 rfl rfl ?_
  refine x_icmp_le 31 g dJ6_stringSize_0f7a4_24 (by decide) (fun c9 => ?_) (fun c9 => ?_)
  rotate_left
  · have h9 : v < 100000 := by
      by_cases z : 100000 ≤ v
      · exact absurd ((sb_nle (a := v) (b := 100000) hv (by decide)).mpr z) c9
      · omega
    refine x_iload_n 3 g dJ6_stringSize_0f7a4_27 rfl rfl ?_
    refine x_iload_n 1 g dJ6_stringSize_0f7a4_28 rfl rfl ?_
    refine x_iadd g dJ6_stringSize_0f7a4_29 ?_
    refine x_eqi (nI 5) (by decide) ?_
    exact x_iret g (hs 5 (by unfold sb_dg; (repeat' split) <;> omega)) dJ6_stringSize_0f7a4_30
  have h5 : 100000 ≤ v := (sb_nle (a := v) (b := 100000) hv (by decide)).mp c9
  refine x_bipush (v := 10) g dJ6_stringSize_0f7a4_31 (by decide) ?_
  refine x_iload_n 2 g dJ6_stringSize_0f7a4_33 rfl rfl ?_
  refine x_imul g dJ6_stringSize_0f7a4_34 ?_
  refine x_eqi (-1000000) (by decide) ?_
  refine x_istore_n 2 g dJ6_stringSize_0f7a4_35 rfl (Nat.le_of_ble_eq_true rfl) rfl ?_
  refine x_iinc (v := 6) g dJ6_stringSize_0f7a4_36 rfl (by decide) rfl ?_
  refine x_goto 16 g dJ6_stringSize_0f7a4_39 (by decide) ?_
  show Xj K [] G 16 [some (.int (-nI v)), some (.int 0), some (.int (-1000000)), some (.int 6)] [] S T 0 0
  refine x_iload_n 3 g dJ6_stringSize_0f7a4_16 rfl rfl ?_
  refine x_bipush (v := 10) g dJ6_stringSize_0f7a4_17 (by decide) ?_
  refine x_icmp_ge 42 g dJ6_stringSize_0f7a4_19 (by decide) (fun c9 => absurd c9 (by decide)) (fun _ => ?_)
  refine x_iload_n 0 g dJ6_stringSize_0f7a4_22 rfl rfl ?_
  refine x_iload_n 2 g dJ6_stringSize_0f7a4_23 rfl rfl ?_
  refine x_icmp_le 31 g dJ6_stringSize_0f7a4_24 (by decide) (fun c9 => ?_) (fun c9 => ?_)
  rotate_left
  · have h9 : v < 1000000 := by
      by_cases z : 1000000 ≤ v
      · exact absurd ((sb_nle (a := v) (b := 1000000) hv (by decide)).mpr z) c9
      · omega
    refine x_iload_n 3 g dJ6_stringSize_0f7a4_27 rfl rfl ?_
    refine x_iload_n 1 g dJ6_stringSize_0f7a4_28 rfl rfl ?_
    refine x_iadd g dJ6_stringSize_0f7a4_29 ?_
    refine x_eqi (nI 6) (by decide) ?_
    exact x_iret g (hs 6 (by unfold sb_dg; (repeat' split) <;> omega)) dJ6_stringSize_0f7a4_30
  have h6 : 1000000 ≤ v := (sb_nle (a := v) (b := 1000000) hv (by decide)).mp c9
  refine x_bipush (v := 10) g dJ6_stringSize_0f7a4_31 (by decide) ?_
  refine x_iload_n 2 g dJ6_stringSize_0f7a4_33 rfl rfl ?_
  refine x_imul g dJ6_stringSize_0f7a4_34 ?_
  refine x_eqi (-10000000) (by decide) ?_
  refine x_istore_n 2 g dJ6_stringSize_0f7a4_35 rfl (Nat.le_of_ble_eq_true rfl) rfl ?_
  refine x_iinc (v := 7) g dJ6_stringSize_0f7a4_36 rfl (by decide) rfl ?_
  refine x_goto 16 g dJ6_stringSize_0f7a4_39 (by decide) ?_
  show Xj K [] G 16 [some (.int (-nI v)), some (.int 0), some (.int (-10000000)), some (.int 7)] [] S T 0 0
  refine x_iload_n 3 g dJ6_stringSize_0f7a4_16 rfl rfl ?_
  refine x_bipush (v := 10) g dJ6_stringSize_0f7a4_17 (by decide) ?_
  refine x_icmp_ge 42 g dJ6_stringSize_0f7a4_19 (by decide) (fun c9 => absurd c9 (by decide)) (fun _ => ?_)
  refine x_iload_n 0 g dJ6_stringSize_0f7a4_22 rfl rfl ?_
  refine x_iload_n 2 g dJ6_stringSize_0f7a4_23 rfl rfl ?_
  refine x_icmp_le 31 g dJ6_stringSize_0f7a4_24 (by decide) (fun c9 => ?_) (fun c9 => ?_)
  rotate_left
  · have h9 : v < 10000000 := by
      by_cases z : 10000000 ≤ v
      · exact absurd ((sb_nle (a := v) (b := 10000000) hv (by decide)).mpr z) c9
      · omega
    refine x_iload_n 3 g dJ6_stringSize_0f7a4_27 rfl rfl ?_
    refine x_iload_n 1 g dJ6_stringSize_0f7a4_28 rfl rfl ?_
    refine x_iadd g dJ6_stringSize_0f7a4_29 ?_
    refine x_eqi (nI 7) (by decide) ?_
    exact x_iret g (hs 7 (by unfold sb_dg; (repeat' split) <;> omega)) dJ6_stringSize_0f7a4_30
  have h7 : 10000000 ≤ v := (sb_nle (a := v) (b := 10000000) hv (by decide)).mp c9
  refine x_bipush (v := 10) g dJ6_stringSize_0f7a4_31 (by decide) ?_
  refine x_iload_n 2 g dJ6_stringSize_0f7a4_33 rfl rfl ?_
  refine x_imul g dJ6_stringSize_0f7a4_34 ?_
  refine x_eqi (-100000000) (by decide) ?_
  refine x_istore_n 2 g dJ6_stringSize_0f7a4_35 rfl (Nat.le_of_ble_eq_true rfl) rfl ?_
  refine x_iinc (v := 8) g dJ6_stringSize_0f7a4_36 rfl (by decide) rfl ?_
  refine x_goto 16 g dJ6_stringSize_0f7a4_39 (by decide) ?_
  show Xj K [] G 16 [some (.int (-nI v)), some (.int 0), some (.int (-100000000)), some (.int 8)] [] S T 0 0
  refine x_iload_n 3 g dJ6_stringSize_0f7a4_16 rfl rfl ?_
  refine x_bipush (v := 10) g dJ6_stringSize_0f7a4_17 (by decide) ?_
  refine x_icmp_ge 42 g dJ6_stringSize_0f7a4_19 (by decide) (fun c9 => absurd c9 (by decide)) (fun _ => ?_)
  refine x_iload_n 0 g dJ6_stringSize_0f7a4_22 rfl rfl ?_
  refine x_iload_n 2 g dJ6_stringSize_0f7a4_23 rfl rfl ?_
  refine x_icmp_le 31 g dJ6_stringSize_0f7a4_24 (by decide) (fun c9 => ?_) (fun c9 => ?_)
  rotate_left
  · have h9 : v < 100000000 := by
      by_cases z : 100000000 ≤ v
      · exact absurd ((sb_nle (a := v) (b := 100000000) hv (by decide)).mpr z) c9
      · omega
    refine x_iload_n 3 g dJ6_stringSize_0f7a4_27 rfl rfl ?_
    refine x_iload_n 1 g dJ6_stringSize_0f7a4_28 rfl rfl ?_
    refine x_iadd g dJ6_stringSize_0f7a4_29 ?_
    refine x_eqi (nI 8) (by decide) ?_
    exact x_iret g (hs 8 (by unfold sb_dg; (repeat' split) <;> omega)) dJ6_stringSize_0f7a4_30
  have h8 : 100000000 ≤ v := (sb_nle (a := v) (b := 100000000) hv (by decide)).mp c9
  refine x_bipush (v := 10) g dJ6_stringSize_0f7a4_31 (by decide) ?_
  refine x_iload_n 2 g dJ6_stringSize_0f7a4_33 rfl rfl ?_
  refine x_imul g dJ6_stringSize_0f7a4_34 ?_
  refine x_eqi (-1000000000) (by decide) ?_
  refine x_istore_n 2 g dJ6_stringSize_0f7a4_35 rfl (Nat.le_of_ble_eq_true rfl) rfl ?_
  refine x_iinc (v := 9) g dJ6_stringSize_0f7a4_36 rfl (by decide) rfl ?_
  refine x_goto 16 g dJ6_stringSize_0f7a4_39 (by decide) ?_
  show Xj K [] G 16 [some (.int (-nI v)), some (.int 0), some (.int (-1000000000)), some (.int 9)] [] S T 0 0
  refine x_iload_n 3 g dJ6_stringSize_0f7a4_16 rfl rfl ?_
  refine x_bipush (v := 10) g dJ6_stringSize_0f7a4_17 (by decide) ?_
  refine x_icmp_ge 42 g dJ6_stringSize_0f7a4_19 (by decide) (fun c9 => absurd c9 (by decide)) (fun _ => ?_)
  refine x_iload_n 0 g dJ6_stringSize_0f7a4_22 rfl rfl ?_
  refine x_iload_n 2 g dJ6_stringSize_0f7a4_23 rfl rfl ?_
  refine x_icmp_le 31 g dJ6_stringSize_0f7a4_24 (by decide) (fun c9 => ?_) (fun c9 => ?_)
  rotate_left
  · have h9 : v < 1000000000 := by
      by_cases z : 1000000000 ≤ v
      · exact absurd ((sb_nle (a := v) (b := 1000000000) hv (by decide)).mpr z) c9
      · omega
    refine x_iload_n 3 g dJ6_stringSize_0f7a4_27 rfl rfl ?_
    refine x_iload_n 1 g dJ6_stringSize_0f7a4_28 rfl rfl ?_
    refine x_iadd g dJ6_stringSize_0f7a4_29 ?_
    refine x_eqi (nI 9) (by decide) ?_
    exact x_iret g (hs 9 (by unfold sb_dg; (repeat' split) <;> omega)) dJ6_stringSize_0f7a4_30
  have h9 : 1000000000 ≤ v := (sb_nle (a := v) (b := 1000000000) hv (by decide)).mp c9
  refine x_bipush (v := 10) g dJ6_stringSize_0f7a4_31 (by decide) ?_
  refine x_iload_n 2 g dJ6_stringSize_0f7a4_33 rfl rfl ?_
  refine x_imul g dJ6_stringSize_0f7a4_34 ?_
  refine x_eqi (-1410065408) (by decide) ?_
  refine x_istore_n 2 g dJ6_stringSize_0f7a4_35 rfl (Nat.le_of_ble_eq_true rfl) rfl ?_
  refine x_iinc (v := 10) g dJ6_stringSize_0f7a4_36 rfl (by decide) rfl ?_
  refine x_goto 16 g dJ6_stringSize_0f7a4_39 (by decide) ?_
  show Xj K [] G 16 [some (.int (-nI v)), some (.int 0), some (.int (-1410065408)), some (.int 10)] [] S T 0 0
  refine x_iload_n 3 g dJ6_stringSize_0f7a4_16 rfl rfl ?_
  refine x_bipush (v := 10) g dJ6_stringSize_0f7a4_17 (by decide) ?_
  refine x_icmp_ge 42 g dJ6_stringSize_0f7a4_19 (by decide) (fun _ => ?_) (fun c9 => absurd (by decide) c9)
  refine x_bipush (v := 10) g dJ6_stringSize_0f7a4_42 (by decide) ?_
  refine x_iload_n 1 g dJ6_stringSize_0f7a4_44 rfl rfl ?_
  refine x_iadd g dJ6_stringSize_0f7a4_45 ?_
  refine x_eqi (nI 10) (by decide) ?_
  exact x_iret g (hs 10 (by unfold sb_dg; (repeat' split) <;> omega)) dJ6_stringSize_0f7a4_46

theorem srow2 (S : gS) (a : Nat) (f g : Nat → Int32) : srow (srow S a f) a g = srow S a g := by
  have h : (fun a' i' => if a' = a then g i' else if a' = a then f i' else S.2.2.1 a' i') = (fun a' i' => if a' = a then g i' else S.2.2.1 a' i') := by
    funext a' i'
    by_cases z : a' = a
    · rw [if_pos z, if_pos z]
    · rw [if_neg z, if_neg z, if_neg z]
  show (S.1, S.2.1, (fun a' i' => if a' = a then g i' else if a' = a then f i' else S.2.2.1 a' i'), S.2.2.2) = (S.1, S.2.1, _, S.2.2.2)
  rw [h]
theorem sr_row (S : gS) (a i : Nat) (f : Nat → Int32) (v : Int32) : sr (srow S a f) a i v = srow S a (upd f i v) := by
  rw [sr_srow, gr_row, srow2]
theorem srow_self (S : gS) (a : Nat) : srow S a (gr S a) = S := by
  have h : (fun a' i' => if a' = a then gr S a i' else S.2.2.1 a' i') = S.2.2.1 := by
    funext a' i'
    by_cases z : a' = a
    · rw [if_pos z, z]; rfl
    · rw [if_neg z]
  show (S.1, S.2.1, _, S.2.2.2) = S
  rw [h]
theorem x_cS' {K : gKx} {PX : va_W} {G : gG} {pc : Nat} {lv : List (Option Value)} {st : List Value} {S : gS} {T : gT} {c0 s0 : Nat} (S1 : gS) (h : S = S1) (k : Xj K PX G pc lv st S1 T c0 s0) : Xj K PX G pc lv st S T c0 s0 := h ▸ k

def gRGC (arr n v : Nat) (G : gG) (S : gS) (T : gT) : Option Value → gG → gS → gT → Prop := fun v0 G' S' T' => v0 = some (.int (nI n)) ∧ G' = G ∧ T' = T ∧ ∃ f : Nat → Int32, S' = srow S arr f ∧ (∀ j, j < n ∨ n + sb_dg v ≤ j → f j = gr S arr j) ∧ (∀ i, i < sb_dg v → f (n + sb_dg v - 1 - i) = sb_b (48 + v / 10 ^ i % 10)) ∧ (sb_Fit (gr S arr) → sb_Fit f)
theorem kJ6_getChars {ad : Nat → Nat} {arr m n v : Nat} {G : gG} {S : gS} {T : gT} (hr : gis G 5 arr) (hm : gn G arr = m) (hm2 : m ≤ 65536) (hv : v < 2 ^ 31) (hq : n + sb_dg v ≤ m) : CtR ad yJ6_getChars_ba4f3 (Cond.code yJ6_getChars_ba4f3 cJ6_getChars_ba4f3 7 (some .int) :: gTb) 0 0 0 [.int (nI v), .int (nI (n + sb_dg v)), .ref arr] G S T ((gRGC arr n v G S T)) := by
  refine CtR.of rfl (Nat.le_of_ble_eq_true rfl) (fun v hv => by simp at hv; rcases hv with rfl | rfl | rfl <;> rfl) (fun K g e hK => ?_)
  obtain ⟨rfl, -⟩ := hK
  show Xj K [] G 0 [some (.int (nI v)), some (.int (nI (n + sb_dg v))), some (.ref arr), none, none, none, none] [] S T 0 0
  refine x_iload_n 1 g dJ6_getChars_ba4f3_0 rfl rfl ?_
  refine x_istore (i := 5) g dJ6_getChars_ba4f3_1 (Nat.le_of_ble_eq_true rfl) rfl ?_
  refine x_iload_n 0 g dJ6_getChars_ba4f3_3 rfl rfl ?_
  refine x_if_ge 11 g dJ6_getChars_ba4f3_4 (by decide) (fun _ => ?_) (fun c9 => absurd (nI_pos' hv) c9)
  refine x_iconst (v := 0) g dJ6_getChars_ba4f3_11 (by decide) ?_
  refine x_istore (i := 6) g dJ6_getChars_ba4f3_12 (Nat.le_of_ble_eq_true rfl) rfl ?_
  refine x_iload (i := 6) g dJ6_getChars_ba4f3_14 rfl ?_
  refine x_if_ne 22 g dJ6_getChars_ba4f3_16 (by decide) (fun c9 => absurd rfl c9) (fun _ => ?_)
  refine x_iload_n 0 g dJ6_getChars_ba4f3_19 rfl rfl ?_
  refine x_ineg g dJ6_getChars_ba4f3_20 ?_
  refine x_istore_n 0 g dJ6_getChars_ba4f3_21 rfl (Nat.le_of_ble_eq_true rfl) rfl ?_
  have ew : ∀ (f w pp : Nat) (a : Nat → Int32), w < f → w < 2 ^ 31 → pp = n + sb_dg w → pp ≤ m → (∀ a' : Nat → Int32, (∀ j, j < n ∨ pp ≤ j → a' j = a j) → (∀ i, i < sb_dg w → a' (pp - 1 - i) = sb_b (48 + w / 10 ^ i % 10)) → (sb_Fit a → sb_Fit a') → (gRGC arr n v G S T) (some (.int (nI n))) G (srow S arr a') T) →
      Xj K [] G 22 [some (.int (-nI w)), some (.int (nI (n + sb_dg v))), some (.ref arr), none, none, some (.int (nI pp)), some (.int 0)] [] (srow S arr a) T 0 0 := by
    intro f
    induction f with
    | zero =>
      intro w pp a h
      omega
    | succ f ih =>
      intro w pp a hwf hw hp hpm hP
      have hd1 := (sb_dg_in w).1
      refine x_iload_n 0 g dJ6_getChars_ba4f3_22 rfl rfl ?_
      refine x_bipush (v := (-100)) g dJ6_getChars_ba4f3_23 (by decide) ?_
      refine x_icmp_gt 72 g dJ6_getChars_ba4f3_25 (by decide) (fun c9 => ?_) (fun c9 => ?_)
      · have h100 : w < 100 := (sb_nlt (by decide) hw).mp (show -nI 100 < -nI w from c9)
        refine x_aload_n 2 g dJ6_getChars_ba4f3_72 rfl rfl ?_
        refine x_iinc (v := nI (pp - 1)) g dJ6_getChars_ba4f3_73 rfl (show _ + (-1) = _ from sb_m1 (by omega)) rfl ?_
        refine x_iload (i := 5) g dJ6_getChars_ba4f3_76 rfl ?_
        refine x_gst g dJ6_getChars_ba4f3_78 (hzD1 g) ls_J6_83 ?_
        refine x_iload_n 0 g dJ6_getChars_ba4f3_81 rfl rfl ?_
        refine x_ineg g dJ6_getChars_ba4f3_82 ?_
        refine x_eqi (nI w) Int32.neg_neg ?_
        refine x_tbB (.int (nI (48 + w % 10))) g dJ6_getChars_ba4f3_83 (hzT1 g) (vp_in_nI (by omega) (by decide)) (by rw [nI_clamp (by omega)]) ?_
        refine x_bast g dJ6_getChars_ba4f3_84 hr (by rw [hm]; exact vp_in_nI (by omega) (by omega)) ?_
        refine x_cS' (srow S arr (upd (a) (pp - 1) (sb_b (48 + w % 10)))) (by rw [nI_clamp (by omega), sr_row]; rfl) ?_
        refine x_iload_n 0 g dJ6_getChars_ba4f3_85 rfl rfl ?_
        refine x_bipush (v := (-9)) g dJ6_getChars_ba4f3_86 (by decide) ?_
        refine x_icmp_ge 104 g dJ6_getChars_ba4f3_88 (by decide) (fun c8 => ?_) (fun c8 => ?_)
        · have h9 : w < 10 := by
            have := (sb_nle (by decide) hw).mp (show -nI 9 ≤ -nI w from c8)
            omega
          have hd : sb_dg w = 1 := if_pos h9
          refine x_iload (i := 6) g dJ6_getChars_ba4f3_104 rfl ?_
          refine x_if_eq 118 g dJ6_getChars_ba4f3_106 (by decide) (fun _ => ?_) (fun c9 => absurd rfl c9)
          refine x_iload (i := 5) g dJ6_getChars_ba4f3_118 rfl ?_
          refine x_eqi (nI n) (congrArg nI (by omega)) ?_
          refine x_iretR g e dJ6_getChars_ba4f3_120 (hP _ (fun j hj => pk_un (by omega)) (fun i hi => ?_) (fun hf => sb_fitU hf (sb_fitB _)))
          obtain rfl : i = 0 := by omega
          rw [Nat.sub_zero, pk_us, Nat.pow_zero, Nat.div_one]
        · have h9 : ¬ w < 10 := fun z => c8 ((sb_nle (a := 9) (b := w) (by decide) hw).mpr (by omega))
          have hd : sb_dg w = 2 := by rw [sb_dg, if_neg h9, if_pos h100]
          have d2 : w / 10 % 10 = w / 10 := by omega
          refine x_aload_n 2 g dJ6_getChars_ba4f3_91 rfl rfl ?_
          refine x_iinc (v := nI (pp - 1 - 1)) g dJ6_getChars_ba4f3_92 rfl (show _ + (-1) = _ from sb_m1 (by omega)) rfl ?_
          refine x_iload (i := 5) g dJ6_getChars_ba4f3_95 rfl ?_
          refine x_gst g dJ6_getChars_ba4f3_97 (hzD2 g) ls_J6_87 ?_
          refine x_iload_n 0 g dJ6_getChars_ba4f3_100 rfl rfl ?_
          refine x_ineg g dJ6_getChars_ba4f3_101 ?_
          refine x_eqi (nI w) Int32.neg_neg ?_
          refine x_tbB (.int (nI (48 + w / 10))) g dJ6_getChars_ba4f3_102 (hzT2 g) (vp_in_nI (by omega) (by decide)) (by rw [nI_clamp (by omega)]) ?_
          refine x_bast g dJ6_getChars_ba4f3_103 hr (by rw [hm]; exact vp_in_nI (by omega) (by omega)) ?_
          refine x_cS' (srow S arr (upd (upd a (pp - 1) (sb_b (48 + w % 10))) (pp - 1 - 1) (sb_b (48 + w / 10)))) (by rw [nI_clamp (by omega), sr_row]; rfl) ?_
          refine x_iload (i := 6) g dJ6_getChars_ba4f3_104 rfl ?_
          refine x_if_eq 118 g dJ6_getChars_ba4f3_106 (by decide) (fun _ => ?_) (fun c9 => absurd rfl c9)
          refine x_iload (i := 5) g dJ6_getChars_ba4f3_118 rfl ?_
          refine x_eqi (nI n) (congrArg nI (by omega)) ?_
          refine x_iretR g e dJ6_getChars_ba4f3_120 (hP _ (fun j hj => by rw [pk_un (by omega), pk_un (by omega)]) (fun i hi => ?_) (fun hf => sb_fitU (sb_fitU hf (sb_fitB _)) (sb_fitB _)))
          obtain rfl | rfl : i = 0 ∨ i = 1 := by omega
          · rw [Nat.sub_zero, pk_un (by omega), pk_us, Nat.pow_zero, Nat.div_one]
          · rw [pk_us, Nat.pow_one, d2]
      · have h100 : ¬ w < 100 := fun z => c9 ((sb_nlt (a := 100) (b := w) (by decide) hw).mpr z)
        have hd := sb_dg100 (w := w) (by omega) hw
        have hd2 := (sb_dg_in (w / 100)).1
        have e1 : w % 100 % 10 = w % 10 := by omega
        have e2 : w % 100 / 10 = w / 10 % 10 := by omega
        refine x_iload_n 0 g dJ6_getChars_ba4f3_28 rfl rfl ?_
        refine x_bipush (v := 100) g dJ6_getChars_ba4f3_29 (by decide) ?_
        refine x_idiv g dJ6_getChars_ba4f3_31 (by decide) ?_
        refine x_eqi (-nI (w / 100)) (sb_ndiv hw) ?_
        refine x_istore_n 3 g dJ6_getChars_ba4f3_32 rfl (Nat.le_of_ble_eq_true rfl) rfl ?_
        refine x_iload_n 3 g dJ6_getChars_ba4f3_33 rfl rfl ?_
        refine x_bipush (v := 100) g dJ6_getChars_ba4f3_34 (by decide) ?_
        refine x_imul g dJ6_getChars_ba4f3_36 ?_
        refine x_iload_n 0 g dJ6_getChars_ba4f3_37 rfl rfl ?_
        refine x_isub g dJ6_getChars_ba4f3_38 ?_
        refine x_eqi (nI (w % 100)) (sb_nrem hw) ?_
        refine x_istore (i := 4) g dJ6_getChars_ba4f3_39 (Nat.le_of_ble_eq_true rfl) rfl ?_
        refine x_iload_n 3 g dJ6_getChars_ba4f3_41 rfl rfl ?_
        refine x_istore_n 0 g dJ6_getChars_ba4f3_42 rfl (Nat.le_of_ble_eq_true rfl) rfl ?_
        refine x_aload_n 2 g dJ6_getChars_ba4f3_43 rfl rfl ?_
        refine x_iinc (v := nI (pp - 1)) g dJ6_getChars_ba4f3_44 rfl (show _ + (-1) = _ from sb_m1 (by omega)) rfl ?_
        refine x_iload (i := 5) g dJ6_getChars_ba4f3_47 rfl ?_
        refine x_gst g dJ6_getChars_ba4f3_49 (hzD1 g) ls_J6_83 ?_
        refine x_iload (i := 4) g dJ6_getChars_ba4f3_52 rfl ?_
        refine x_tbB (.int (nI (48 + w % 100 % 10))) g dJ6_getChars_ba4f3_54 (hzT1 g) (vp_in_nI (by omega) (by decide)) (by rw [nI_clamp (by omega)]) ?_
        refine x_bast g dJ6_getChars_ba4f3_55 hr (by rw [hm]; exact vp_in_nI (by omega) (by omega)) ?_
        refine x_cS' (srow S arr (upd (a) (pp - 1) (sb_b (48 + w % 100 % 10)))) (by rw [nI_clamp (by omega), sr_row]; rfl) ?_
        refine x_aload_n 2 g dJ6_getChars_ba4f3_56 rfl rfl ?_
        refine x_iinc (v := nI (pp - 1 - 1)) g dJ6_getChars_ba4f3_57 rfl (show _ + (-1) = _ from sb_m1 (by omega)) rfl ?_
        refine x_iload (i := 5) g dJ6_getChars_ba4f3_60 rfl ?_
        refine x_gst g dJ6_getChars_ba4f3_62 (hzD2 g) ls_J6_87 ?_
        refine x_iload (i := 4) g dJ6_getChars_ba4f3_65 rfl ?_
        refine x_tbB (.int (nI (48 + w % 100 / 10))) g dJ6_getChars_ba4f3_67 (hzT2 g) (vp_in_nI (by omega) (by decide)) (by rw [nI_clamp (by omega)]) ?_
        refine x_bast g dJ6_getChars_ba4f3_68 hr (by rw [hm]; exact vp_in_nI (by omega) (by omega)) ?_
        refine x_cS' (srow S arr (upd (upd a (pp - 1) (sb_b (48 + w % 100 % 10))) (pp - 1 - 1) (sb_b (48 + w % 100 / 10)))) (by rw [nI_clamp (by omega), sr_row]; rfl) ?_
        refine x_goto 22 g dJ6_getChars_ba4f3_69 (by decide) ?_
        show Xj K [] G 22 [some (.int (-nI (w / 100))), some (.int (nI (n + sb_dg v))), some (.ref arr), some (.int (-nI (w / 100))), some (.int (nI (w % 100))), some (.int (nI (pp - 1 - 1))), some (.int 0)] [] _ T 0 0
        rw [e1, e2]
        refine x_dr 3 (x_dr 4 ?_)
        refine ih (w / 100) (pp - 1 - 1) _ (by omega) (by omega) (by omega) (by omega) (fun a' h1 h2 h3 => ?_)
        refine hP a' (fun j hj => by rw [h1 j (by omega), pk_un (by omega), pk_un (by omega)]) (fun i hi => ?_) (fun hf => h3 (sb_fitU (sb_fitU hf (sb_fitB _)) (sb_fitB _)))
        by_cases hi2 : i < 2
        · obtain rfl | rfl : i = 0 ∨ i = 1 := by omega
          · rw [Nat.sub_zero, h1 _ (by omega), pk_un (by omega), pk_us, Nat.pow_zero, Nat.div_one]
          · rw [h1 _ (by omega), pk_us, Nat.pow_one]
        · obtain ⟨i, rfl⟩ : ∃ k, i = k + 2 := ⟨i - 2, by omega⟩
          have := h2 i (by omega)
          rw [show pp - 1 - (i + 2) = pp - 1 - 1 - 1 - i by omega, this, Nat.pow_add, Nat.mul_comm, ← Nat.div_div_eq_div_mul]
  show Xj K [] G 22 [some (.int (-nI v)), some (.int (nI (n + sb_dg v))), some (.ref arr), none, none, some (.int (nI (n + sb_dg v))), some (.int 0)] [] S T 0 0
  rw [← srow_self S arr]
  exact ew (v + 1) v (n + sb_dg v) (gr S arr) (by omega) hv rfl hq (fun a' h1 h2 h3 => ⟨rfl, rfl, rfl, a', rfl, h1, h2, h3⟩)

theorem gdec_len (v : Nat) : (gdec v).length = sb_dg v := by unfold gdec; rw [List.length_map, List.length_range]
theorem gdec_get (v i : Nat) (h : i < sb_dg v) : (gdec v).getD i 0 = sb_dec v i := by
  unfold gdec
  rw [List.getD_eq_getElem?_getD, List.getElem?_map, List.getElem?_range h]
  rfl

theorem kJ5_appendI {ad : Nat → Nat} {a cap v : Nat} {tx : List Nat} (hv : v < 2 ^ 31) (hl : tx.length < 65536) (hq2 : sb_cap (tx.length + sb_dg v) cap ≤ 65536) : Ct ad yJ5_append_c97b9 (Cond.code yJ5_append_c97b9 cJ5_append_c97b9 4 (some ( .object "java/lang/AbstractStringBuilder")) :: gTb) 4 (gmc (tx.length + sb_dg v) cap) (gms (tx.length + sb_dg v) cap) [.ref a, .int (nI v)] gE sE [(a, cap, tx)] (some (.ref a)) gE sE [(a, sb_cap (tx.length + sb_dg v) cap, tx ++ gdec v)] := by
  refine Ct.of rfl (Nat.le_of_ble_eq_true rfl) (fun v hv => by simp at hv; rcases hv with rfl | rfl <;> rfl) (fun K g e hK => ?_)
  obtain ⟨rfl, -⟩ := hK
  show Xj K [] gE 0 [some (.ref a), some (.int (nI v)), none, none] [] sE [(a, cap, tx)] (gmc (tx.length + sb_dg v) cap) (gms (tx.length + sb_dg v) cap)
  refine x_TtoG (fun arr ml by' hne h1 h2 h3 h4 => ?_)
  have hd9 := (sb_dg_in v).2
  refine x_aload_n 0 g dJ5_append_c97b9_0 rfl rfl ?_
  refine x_getiS g dJ5_append_c97b9_1 gXJ4 3 52 rfl (by decide) lf_J5_79 gis_sa ?_
  refine x_eqi (nI tx.length) rfl ?_
  refine x_istore_n 2 g dJ5_append_c97b9_4 rfl (Nat.le_of_ble_eq_true rfl) rfl ?_
  refine x_iload_n 2 g dJ5_append_c97b9_5 rfl rfl ?_
  refine x_iload_n 1 g dJ5_append_c97b9_6 rfl rfl ?_
  refine x_cS [.int (nI (sb_dg v)), .int (nI tx.length)] g (kJ6_stringSize hv) ca_J6_stringSize_0f7a4 st_J6_stringSize_0f7a4 lm_J5_245 (Nat.le_of_ble_eq_true rfl) rfl rfl (Nat.le_of_ble_eq_true rfl) dJ5_append_c97b9_7 rfl ?_
  refine x_iadd g dJ5_append_c97b9_10 ?_
  refine x_eqi (nI (tx.length + sb_dg v)) (nI_add _ _) ?_
  refine x_istore_n 3 g dJ5_append_c97b9_11 rfl (Nat.le_of_ble_eq_true rfl) rfl ?_
  refine x_aload_n 0 g dJ5_append_c97b9_12 rfl rfl ?_
  refine x_iload_n 3 g dJ5_append_c97b9_13 rfl rfl ?_
  refine x_GtoT (cap := cap) gis_sa (gis_sr hne) rfl rfl rfl rfl h1 h2 h3 h4 ?_
  refine x_callVT [] g (kJ5_ensure (q := tx.length + sb_dg v) (by omega) hq2) ca_J5_ensureCapacityInternal_d00df in_J5_ensureCapacityInternal_d00df (seE g) lm_J5_100 (Nat.le_of_ble_eq_true rfl) (Nat.le_refl _) (Nat.le_refl _) rfl rfl (Nat.le_of_ble_eq_true rfl) dJ5_append_c97b9_14 rfl ?_
  clear h1 h2 h3 h4 hne ml by' arr
  refine x_TtoG (fun arr ml by' hne h1 h2 h3 h4 => ?_)
  rw [Nat.sub_self, Nat.sub_self]
  have hcg := sb_cap_ge (tx.length + sb_dg v) cap
  refine x_aload_n 0 g dJ5_append_c97b9_17 rfl rfl ?_
  refine x_callVP [.int 1] g (kJ5_isLatin1 gis_sa rfl) ca_J5_isLatin1_aae02 in_J5_isLatin1_aae02 (seI g) lm_J5_83 gis_sa (Nat.le_of_ble_eq_true rfl) (Nat.zero_le _) (Nat.zero_le _) rfl rfl (Nat.le_of_ble_eq_true rfl) dJ5_append_c97b9_18 rfl ?_
  refine x_if_eq 37 g dJ5_append_c97b9_21 (by decide) (fun c => absurd c (by decide)) (fun _ => ?_)
  refine x_iload_n 1 g dJ5_append_c97b9_24 rfl rfl ?_
  refine x_iload_n 3 g dJ5_append_c97b9_25 rfl rfl ?_
  refine x_aload_n 0 g dJ5_append_c97b9_26 rfl rfl ?_
  refine x_getrS g dJ5_append_c97b9_27 gXJ4 0 20 rfl (by decide) lf_J5_15 gis_sa rfl ?_
  refine x_callSR (rest := []) (As := [.int (nI v), .int (nI (tx.length + sb_dg v)), .ref arr]) g (kJ6_getChars (gis_sr hne) rfl h2 hv hcg) ca_J6_getChars_ba4f3 st_J6_getChars_ba4f3 lm_J5_248 (Nat.le_of_ble_eq_true rfl) (Nat.zero_le _) (Nat.zero_le _) rfl rfl (Nat.le_of_ble_eq_true rfl) dJ5_append_c97b9_30 (fun v0 G' S' T' hR => ?_)
  obtain ⟨rfl, rfl, rfl, f, rfl, f1, f2, f3⟩ := hR
  show Xj K [] _ 33 _ [.int (nI tx.length)] _ _ _ _
  refine x_pop g dJ5_append_c97b9_33 rfl ?_
  refine x_goto 48 g dJ5_append_c97b9_34 (by decide) ?_
  refine x_aload_n 0 g dJ5_append_c97b9_48 rfl rfl ?_
  refine x_iload_n 3 g dJ5_append_c97b9_49 rfl rfl ?_
  refine x_putiS g dJ5_append_c97b9_50 gXJ4 3 52 rfl (by decide) rfl lf_J5_79 rfl rfl gis_sa ?_
  refine x_aload_n 0 g dJ5_append_c97b9_53 rfl rfl ?_
  refine x_GtoT (tx := tx ++ gdec v) gis_sa (gis_sr hne) rfl ?_ ?_ ?_ (by rw [List.length_append, gdec_len]; exact hcg) h2 ?_ ?_ ?_
  · rfl
  · rw [gI_sI, if_neg (by omega)]; rfl
  · rw [gI_sI, if_pos ⟨rfl, rfl⟩, List.length_append, gdec_len]
  · show sb_Lat _ _ (gr (srow _ arr f) arr)
    rw [gr_row]
    refine gLatA (s := fun i => sb_dec v i) (w := sb_dg v) h3 (fun j hj => f1 j (Or.inl hj)) (gdec_len v) (fun i hi => gdec_get v i hi) (fun i hi => ?_)
    have hx := f2 (sb_dg v - 1 - i) (by omega)
    rw [show tx.length + sb_dg v - 1 - (sb_dg v - 1 - i) = tx.length + i by omega] at hx
    exact ⟨show 48 + v / 10 ^ (sb_dg v - 1 - i) % 10 < 256 by omega, hx⟩
  · show sb_Fit (gr (srow _ arr f) arr)
    rw [gr_row]
    exact f3 h4
  · exact x_aret (r := some a) g e dJ5_append_c97b9_54

theorem kJ4_appendI {ad : Nat → Nat} {a cap v : Nat} {tx : List Nat} (hv : v < 2 ^ 31) (hl : tx.length < 65536) (hq2 : sb_cap (tx.length + sb_dg v) cap ≤ 65536) : Ct ad yJ4_append_bf812 (Cond.code yJ4_append_bf812 cJ4_append_bf812 2 (some ( .object "java/lang/StringBuilder")) :: gTb) 5 (gmc (tx.length + sb_dg v) cap) (gms (tx.length + sb_dg v) cap) [.ref a, .int (nI v)] gE sE [(a, cap, tx)] (some (.ref a)) gE sE [(a, sb_cap (tx.length + sb_dg v) cap, tx ++ gdec v)] := by
  refine Ct.of rfl (Nat.le_of_ble_eq_true rfl) (fun v hv => by simp at hv; rcases hv with rfl | rfl <;> rfl) (fun K g e hK => ?_)
  obtain ⟨rfl, -⟩ := hK
  show Xj K [] gE 0 [some (.ref a), some (.int (nI v))] [] sE [(a, cap, tx)] (gmc (tx.length + sb_dg v) cap) (gms (tx.length + sb_dg v) cap)
  refine x_aload_n 0 g dJ4_append_bf812_0 rfl rfl ?_
  refine x_iload_n 1 g dJ4_append_bf812_1 rfl rfl ?_
  refine x_callUT [.ref a] g (kJ5_appendI hv hl hq2) ca_J5_append_c97b9 rfl (by decide) in_J5_append_c97b9 sm_J5_append_c97b9 lm_J4_53 (Nat.le_of_ble_eq_true rfl) (Nat.le_refl _) (Nat.le_refl _) rfl rfl (Nat.le_of_ble_eq_true rfl) dJ4_append_bf812_2 rfl ?_
  refine x_pop g dJ4_append_bf812_5 rfl ?_
  refine x_aload_n 0 g dJ4_append_bf812_6 rfl rfl ?_
  exact x_aret (r := some a) g e dJ4_append_bf812_7

theorem kJ5_setLength {ad : Nat → Nat} {a cap : Nat} {tx : List Nat} : Ct ad yJ5_setLength_d00df (Cond.code yJ5_setLength_d00df cJ5_setLength_d00df 2 none :: gTb) 4 0 0 [.ref a, .int 0] gE sE [(a, cap, tx)] none gE sE [(a, sb_cap 0 cap, [])] := by
  refine Ct.of rfl (Nat.le_of_ble_eq_true rfl) (fun v hv => by simp at hv; rcases hv with rfl | rfl <;> rfl) (fun K g e hK => ?_)
  obtain ⟨rfl, -⟩ := hK
  show Xj K [] gE 0 [some (.ref a), some (.int 0)] [] sE [(a, cap, tx)] 0 0
  refine x_TtoG (fun arr ml by' hne h1 h2 h3 h4 => ?_)
  refine x_GtoT (cap := cap) gis_sa (gis_sr hne) rfl rfl rfl rfl h1 h2 h3 h4 ?_
  have hcp : sb_cap 0 cap = cap := if_pos (Nat.zero_le _)
  have hm0 : gmc 0 cap = 0 := if_pos (Nat.zero_le _)
  have hs0 : gms 0 cap = 0 := if_pos (Nat.zero_le _)
  have hc2 := h2
  clear h1 h2 h3 h4 hne ml by' arr
  refine x_iload_n 1 g dJ5_setLength_d00df_0 rfl rfl ?_
  refine x_if_ge 13 g dJ5_setLength_d00df_1 (by decide) (fun _ => ?_) (fun c9 => absurd (by decide) c9)
  refine x_aload_n 0 g dJ5_setLength_d00df_13 rfl rfl ?_
  refine x_iload_n 1 g dJ5_setLength_d00df_14 rfl rfl ?_
  refine x_eqi (nI 0) nI_0.symm ?_
  refine x_callVT [] g (kJ5_ensure (q := 0) (by decide) (by rw [hcp]; exact hc2)) ca_J5_ensureCapacityInternal_d00df in_J5_ensureCapacityInternal_d00df (seE g) lm_J5_100 (Nat.le_of_ble_eq_true rfl) (Nat.le_of_eq hm0) (Nat.le_of_eq hs0) rfl rfl (Nat.le_of_ble_eq_true rfl) dJ5_setLength_d00df_15 rfl ?_
  rw [hm0, hs0]
  refine x_TtoG (fun arr ml by' hne h1 h2 h3 h4 => ?_)
  refine x_aload_n 0 g dJ5_setLength_d00df_18 rfl rfl ?_
  refine x_getiS g dJ5_setLength_d00df_19 gXJ4 3 52 rfl (by decide) lf_J5_79 gis_sa ?_
  refine x_eqi (nI tx.length) rfl ?_
  refine x_iload_n 1 g dJ5_setLength_d00df_22 rfl rfl ?_
  refine x_icmp_ge 63 g dJ5_setLength_d00df_23 (by decide) (fun _ => ?_) (fun c9 => absurd (nI_pos' (by omega)) c9)
  refine x_aload_n 0 g dJ5_setLength_d00df_63 rfl rfl ?_
  refine x_getiS g dJ5_setLength_d00df_64 gXJ4 3 52 rfl (by decide) lf_J5_79 gis_sa ?_
  refine x_eqi (nI tx.length) rfl ?_
  refine x_iload_n 1 g dJ5_setLength_d00df_67 rfl rfl ?_
  refine x_icmp_le 76 g dJ5_setLength_d00df_68 (by decide) (fun c9 => ?_) (fun c9 => ?_)
  · skip
    refine x_aload_n 0 g dJ5_setLength_d00df_76 rfl rfl ?_
    refine x_iload_n 1 g dJ5_setLength_d00df_77 rfl rfl ?_
    refine x_putiS g dJ5_setLength_d00df_78 gXJ4 3 52 rfl (by decide) rfl lf_J5_79 rfl rfl gis_sa ?_
    refine x_GtoT (tx := []) gis_sa (gis_sr hne) rfl rfl ?_ ?_ (Nat.zero_le _) h2 (fun j hj => absurd hj (Nat.not_lt_zero j)) h4 ?_
    · rw [gI_sI, if_neg (by omega)]; rfl
    · rw [gI_sI, if_pos ⟨rfl, rfl⟩]; rfl
    · exact x_vret g e dJ5_setLength_d00df_81
  · skip
    refine x_aload_n 0 g dJ5_setLength_d00df_71 rfl rfl ?_
    refine x_iconst (v := 1) g dJ5_setLength_d00df_72 (by decide) ?_
    refine x_putiS g dJ5_setLength_d00df_73 gXJ4 2 51 rfl (by decide) rfl lf_J5_73 rfl rfl gis_sa ?_
    refine x_aload_n 0 g dJ5_setLength_d00df_76 rfl rfl ?_
    refine x_iload_n 1 g dJ5_setLength_d00df_77 rfl rfl ?_
    refine x_putiS g dJ5_setLength_d00df_78 gXJ4 3 52 rfl (by decide) rfl lf_J5_79 rfl rfl gis_sa ?_
    refine x_GtoT (tx := []) gis_sa (gis_sr hne) rfl rfl ?_ ?_ (Nat.zero_le _) h2 (fun j hj => absurd hj (Nat.not_lt_zero j)) h4 ?_
    · rw [gI_sI, if_neg (by omega), gI_sI, if_neg (by omega)]; rfl
    · rw [gI_sI, if_pos ⟨rfl, rfl⟩]; rfl
    · exact x_vret g e dJ5_setLength_d00df_81

theorem kJ4_setLength {ad : Nat → Nat} {a cap : Nat} {tx : List Nat} : Ct ad yJ4_setLength_d00df (Cond.code yJ4_setLength_d00df cJ4_setLength_d00df 2 none :: gTb) 5 0 0 [.ref a, .int 0] gE sE [(a, cap, tx)] none gE sE [(a, sb_cap 0 cap, [])] := by
  refine Ct.of rfl (Nat.le_of_ble_eq_true rfl) (fun v hv => by simp at hv; rcases hv with rfl | rfl <;> rfl) (fun K g e hK => ?_)
  obtain ⟨rfl, -⟩ := hK
  show Xj K [] gE 0 [some (.ref a), some (.int 0)] [] sE [(a, cap, tx)] 0 0
  refine x_aload_n 0 g dJ4_setLength_d00df_0 rfl rfl ?_
  refine x_iload_n 1 g dJ4_setLength_d00df_1 rfl rfl ?_
  refine x_callUT [] g (kJ5_setLength) ca_J5_setLength_d00df rfl (by decide) in_J5_setLength_d00df sm_J5_setLength_d00df lm_J4_333 (Nat.le_of_ble_eq_true rfl) (Nat.le_refl _) (Nat.le_refl _) rfl rfl (Nat.le_of_ble_eq_true rfl) dJ4_setLength_d00df_2 rfl ?_
  exact x_vret g e dJ4_setLength_d00df_5

theorem kJ4_length {ad : Nat → Nat} {a cap : Nat} {tx : List Nat} : Ct ad yJ4_length_8abf5 (Cond.code yJ4_length_8abf5 cJ4_length_8abf5 1 (some .int) :: gTb) 1 0 0 [.ref a] gE sE [(a, cap, tx)] (some (.int (nI tx.length))) gE sE [(a, cap, tx)] := by
  refine Ct.of rfl (Nat.le_of_ble_eq_true rfl) (fun v hv => by simp at hv; subst hv; rfl) (fun K g e hK => ?_)
  obtain ⟨rfl, -⟩ := hK
  show Xj K [] gE 0 [some (.ref a)] [] sE [(a, cap, tx)] 0 0
  refine x_TtoG (fun arr ml by' hne h1 h2 h3 h4 => ?_)
  refine x_aload_n 0 g dJ4_length_8abf5_0 rfl rfl ?_
  refine x_callUP [.int (nI tx.length)] g (kJ5_length gis_sa) ca_J5_length_8abf5 rfl (by decide) in_J5_length_8abf5 sm_J5_length_8abf5 lm_J4_343 gis_sa (Nat.le_of_ble_eq_true rfl) (Nat.zero_le _) (Nat.zero_le _) rfl rfl (Nat.le_of_ble_eq_true rfl) dJ4_length_8abf5_1 rfl ?_
  refine x_GtoT gis_sa (gis_sr hne) rfl rfl rfl rfl h1 h2 h3 h4 ?_
  exact x_iret g e dJ4_length_8abf5_4

theorem kJ4_charAt {ad : Nat → Nat} {a cap i : Nat} {tx : List Nat} (hi : i < tx.length) : Ct ad yJ4_charAt_5068e (Cond.code yJ4_charAt_5068e cJ4_charAt_5068e 2 (some .char) :: gTb) 3 0 0 [.ref a, .int (nI i)] gE sE [(a, cap, tx)] (some (.int (nI (tx.getD i 0)))) gE sE [(a, cap, tx)] := by
  refine Ct.of rfl (Nat.le_of_ble_eq_true rfl) (fun v hv => by simp at hv; rcases hv with rfl | rfl <;> rfl) (fun K g e hK => ?_)
  obtain ⟨rfl, -⟩ := hK
  show Xj K [] gE 0 [some (.ref a), some (.int (nI i))] [] sE [(a, cap, tx)] 0 0
  refine x_TtoG (fun arr ml by' hne h1 h2 h3 h4 => ?_)
  refine x_aload_n 0 g dJ4_charAt_5068e_0 rfl rfl ?_
  refine x_iload_n 1 g dJ4_charAt_5068e_1 rfl rfl ?_
  refine x_callUP [.int (nI (tx.getD i 0))] g (kJ5_charAt gis_sa (gis_sr hne) rfl rfl rfl rfl h1 h2 h3 hi) ca_J5_charAt_5068e rfl (by decide) in_J5_charAt_5068e sm_J5_charAt_5068e lm_J4_329 gis_sa (Nat.le_of_ble_eq_true rfl) (Nat.zero_le _) (Nat.zero_le _) rfl rfl (Nat.le_of_ble_eq_true rfl) dJ4_charAt_5068e_2 rfl ?_
  have hn' : narrow .char (.int (nI (tx.getD i 0))) = .int (nI (tx.getD i 0)) := (pk_charN (q := tx.getD i 0) (Nat.lt_of_lt_of_le (show tx.getD i 0 < 256 from (h3 i hi).1) (by decide))).1
  refine x_GtoT gis_sa (gis_sr hne) rfl rfl rfl rfl h1 h2 h3 h4 ?_
  exact x_zret hn' g e dJ4_charAt_5068e_5

theorem x_callVK {K : gKx} {PX : va_W} {G : gG} {pc k idx n : Nat} {lv : List (Option Value)} {st rest As : List Value} {S : gS} {T : gT} {c0 s0 : Nat} {own : String} {cc : ByteArray} {d d' maxL : Nat} {ret : Option FieldType} {bytes : ByteArray} {y : MethodName} {v : Option Value} (st2 : List Value) (g : Gd K own cc d) (hk : k < 8)
    (hC : Ct (ky K).2 y (Cond.code y bytes maxL ret :: gTb) d' 0 0 (.ref ((ky K).2 (20 + k)) :: As) G S T v G S T) (hca : gCa y bytes maxL ret n) (hin : Cond.instanceMethod y ∈ lw_tbl) (hse : Cond.selects "java/lang/String" y y ∈ lw_tbl) (hlk : Cond.methodLink own idx y ∈ lw_tbl)
    (hd : d' + 1 ≤ d) (hn : As.length = n) (hst : st = As.reverse ++ .ref ((ky K).2 (20 + k)) :: rest) (hW : (rest.map fun v => v.category).sum ≤ 8) (hdg : decode cc pc = .ok (.invokevirtual idx, 3)) (h2 : v.toList ++ rest = st2)
    (kk : Xj K PX G (pc + 3) lv st2 S T c0 s0) : Xj K PX G pc lv st S T c0 s0 := by
  refine x_run (a := (Value.ref ((ky K).2 (20 + k)) :: As).toArray) g (Nat.zero_le _) (Nat.zero_le _) h2 (fun H locs cells slots ls Z hat hcap => ?_) kk
  have hM := hC (kl K) (kD K) (ky K).1 Z H.size g.2.2.2.1 hat.1
  exact va_runV (cc := cc) (nL := kN K) (Ts := gTb) (own := own) (n := n) (C := "java/lang/String") g.1 hM ⟨callB_of n g.1.2.2.2.2 (gGood hca.1) rfl rfl rfl (g.tb hca.2.1 rfl) (g.tb hlk rfl) hca.2.2.1 (gRoom g hd hca.2.2.2), g.tb hin rfl, g.tb hse rfl⟩
    ⟨gF_blind, vk_recv (i := k) g.2.2.1.2.2.2.2.2.1 hk hat.2.2.2.1, fun U hU hW => ⟨rfl, gGive g hat U hU hW⟩⟩ rfl hn hat.2.2.2.2.1.1 hst (lv_room hW) hdg hcap

theorem kJ0_coder {ad : Nat → Nat} {k : Nat} {G : gG} {S : gS} {T : gT} (hk : k < 8) : Ct ad yJ0_coder_7d493 (Cond.code yJ0_coder_7d493 cJ0_coder_7d493 1 (some .byte) :: gTb) 0 0 0 [.ref (ad (20 + k))] G S T (some (.int 0)) G S T := by
  refine Ct.of rfl (Nat.le_of_ble_eq_true rfl) (fun v hv => by simp at hv; subst hv; rfl) (fun K g e hK => ?_)
  obtain ⟨rfl, -⟩ := hK
  show Xj K [] G 0 [some (.ref ((ky K).2 (20 + k)))] [] S T 0 0
  refine x_gst g dJ0_coder_7d493_0 (hzCS g) ls_J0_38 ?_
  refine x_if_eq 13 g dJ0_coder_7d493_3 (by decide) (fun c => absurd c (by decide)) (fun _ => ?_)
  refine x_aload_n 0 g dJ0_coder_7d493_6 rfl rfl ?_
  refine x_gcf g dJ0_coder_7d493_7 (hzCo g hk) ls_J0_15 ?_
  refine x_goto 14 g dJ0_coder_7d493_10 (by decide) ?_
  exact x_zret rfl g e dJ0_coder_7d493_14

theorem kJ0_isLatin1 {ad : Nat → Nat} {k : Nat} {G : gG} {S : gS} {T : gT} (hk : k < 8) : Ct ad yJ0_isLatin1_aae02 (Cond.code yJ0_isLatin1_aae02 cJ0_isLatin1_aae02 1 (some .boolean) :: gTb) 0 0 0 [.ref (ad (20 + k))] G S T (some (.int 1)) G S T := by
  refine Ct.of rfl (Nat.le_of_ble_eq_true rfl) (fun v hv => by simp at hv; subst hv; rfl) (fun K g e hK => ?_)
  obtain ⟨rfl, -⟩ := hK
  show Xj K [] G 0 [some (.ref ((ky K).2 (20 + k)))] [] S T 0 0
  refine x_gst g dJ0_isLatin1_aae02_0 (hzCS g) ls_J0_38 ?_
  refine x_if_eq 17 g dJ0_isLatin1_aae02_3 (by decide) (fun c => absurd c (by decide)) (fun _ => ?_)
  refine x_aload_n 0 g dJ0_isLatin1_aae02_6 rfl rfl ?_
  refine x_gcf g dJ0_isLatin1_aae02_7 (hzCo g hk) ls_J0_15 ?_
  refine x_if_ne 17 g dJ0_isLatin1_aae02_10 (by decide) (fun c => absurd rfl c) (fun _ => ?_)
  refine x_iconst (v := 1) g dJ0_isLatin1_aae02_13 (by decide) ?_
  refine x_goto 18 g dJ0_isLatin1_aae02_14 (by decide) ?_
  exact x_zret rfl g e dJ0_isLatin1_aae02_18

theorem kJ0_length {ad : Nat → Nat} {k : Nat} {G : gG} {S : gS} {T : gT} (hk : k < 8) : Ct ad yJ0_length_8abf5 (Cond.code yJ0_length_8abf5 cJ0_length_8abf5 1 (some .int) :: gTb) 1 0 0 [.ref (ad (20 + k))] G S T (some (.int (nI (gfl k)))) G S T := by
  refine Ct.of rfl (Nat.le_of_ble_eq_true rfl) (fun v hv => by simp at hv; subst hv; rfl) (fun K g e hK => ?_)
  obtain ⟨rfl, -⟩ := hK
  show Xj K [] G 0 [some (.ref ((ky K).2 (20 + k)))] [] S T 0 0
  refine x_aload_n 0 g dJ0_length_8abf5_0 rfl rfl ?_
  refine x_gcf g dJ0_length_8abf5_1 (hzV g hk) ls_J0_9 ?_
  refine x_tbL g dJ0_length_8abf5_4 (hzB g hk) ?_
  refine x_aload_n 0 g dJ0_length_8abf5_5 rfl rfl ?_
  refine x_callVK [.int 0, .int (nI (gfl k))] g hk (kJ0_coder hk) ca_J0_coder_7d493 in_J0_coder_7d493 se_J0_coder_7d493 lm_J0_335 (Nat.le_of_ble_eq_true rfl) rfl rfl (Nat.le_of_ble_eq_true rfl) dJ0_length_8abf5_6 rfl ?_
  refine x_ishr g dJ0_length_8abf5_9 ?_
  refine x_eqi (nI (gfl k)) (sb_shr0 _) ?_
  exact x_iret g e dJ0_length_8abf5_10

theorem gfc_ok : ∀ k, k < 8 → ∀ i, i < gfl k → gfl k ≤ 65536 ∧ gfc k i &&& 255 = gfc k i ∧ ((gfc k i).toUInt32 % 65536).toInt32 = gfc k i ∧ narrow .char (.int (gfc k i)) = .int (gfc k i) := by decide +kernel

theorem kJ1_charAt {ad : Nat → Nat} {k i : Nat} {G : gG} {S : gS} {T : gT} (hk : k < 8) (hi : i < gfl k) : Ct ad yJ1_charAt_3b067 (Cond.code yJ1_charAt_3b067 cJ1_charAt_3b067 2 (some .char) :: gTb) 2 0 0 [.ref (ad (30 + k)), .int (nI i)] G S T (some (.int (gfc k i))) G S T := by
  refine Ct.of rfl (Nat.le_of_ble_eq_true rfl) (fun v hv => by simp at hv; rcases hv with rfl | rfl <;> rfl) (fun K g e hK => ?_)
  obtain ⟨rfl, -⟩ := hK
  show Xj K [] G 0 [some (.ref ((ky K).2 (30 + k))), some (.int (nI i))] [] S T 0 0
  obtain ⟨f1, f2, f3, f4⟩ := gfc_ok k hk i hi
  refine x_iload_n 1 g dJ1_charAt_3b067_0 rfl rfl ?_
  refine x_aload_n 0 g dJ1_charAt_3b067_1 rfl rfl ?_
  refine x_tbL g dJ1_charAt_3b067_2 (hzB g hk) ?_
  refine x_cS [] g (kJ0_checkIndex hi f1) ca_J0_checkIndex_df160 st_J0_checkIndex_df160 lm_J1_9 (Nat.le_of_ble_eq_true rfl) rfl rfl (Nat.le_of_ble_eq_true rfl) dJ1_charAt_3b067_3 rfl ?_
  refine x_aload_n 0 g dJ1_charAt_3b067_6 rfl rfl ?_
  refine x_iload_n 1 g dJ1_charAt_3b067_7 rfl rfl ?_
  refine x_tbB (.int (gfc k i)) g dJ1_charAt_3b067_8 (hzB g hk) (vp_in_nI hi (by omega)) (by rw [nI_clamp (by omega)]) ?_
  refine x_sipush (v := 255) g dJ1_charAt_3b067_9 (by decide) ?_
  refine x_iand g dJ1_charAt_3b067_12 ?_
  refine x_eqi (gfc k i) f2 ?_
  refine x_i2c g dJ1_charAt_3b067_13 f3 ?_
  exact x_zret f4 g e dJ1_charAt_3b067_14

theorem kJ0_charAt {ad : Nat → Nat} {k i : Nat} {G : gG} {S : gS} {T : gT} (hk : k < 8) (hi : i < gfl k) : Ct ad yJ0_charAt_5068e (Cond.code yJ0_charAt_5068e cJ0_charAt_5068e 2 (some .char) :: gTb) 3 0 0 [.ref (ad (20 + k)), .int (nI i)] G S T (some (.int (gfc k i))) G S T := by
  refine Ct.of rfl (Nat.le_of_ble_eq_true rfl) (fun v hv => by simp at hv; rcases hv with rfl | rfl <;> rfl) (fun K g e hK => ?_)
  obtain ⟨rfl, -⟩ := hK
  show Xj K [] G 0 [some (.ref ((ky K).2 (20 + k))), some (.int (nI i))] [] S T 0 0
  obtain ⟨f1, f2, f3, f4⟩ := gfc_ok k hk i hi
  refine x_aload_n 0 g dJ0_charAt_5068e_0 rfl rfl ?_
  refine x_callVK [.int 1] g hk (kJ0_isLatin1 hk) ca_J0_isLatin1_aae02 in_J0_isLatin1_aae02 se_J0_isLatin1_aae02 lm_J0_492 (Nat.le_of_ble_eq_true rfl) rfl rfl (Nat.le_of_ble_eq_true rfl) dJ0_charAt_5068e_1 rfl ?_
  refine x_if_eq 16 g dJ0_charAt_5068e_4 (by decide) (fun c => absurd c (by decide)) (fun _ => ?_)
  refine x_aload_n 0 g dJ0_charAt_5068e_7 rfl rfl ?_
  refine x_gcf g dJ0_charAt_5068e_8 (hzV g hk) ls_J0_9 ?_
  refine x_iload_n 1 g dJ0_charAt_5068e_11 rfl rfl ?_
  refine x_cS [.int (gfc k i)] g (kJ1_charAt hk hi) ca_J1_charAt_3b067 st_J1_charAt_3b067 lm_J0_495 (Nat.le_of_ble_eq_true rfl) rfl rfl (Nat.le_of_ble_eq_true rfl) dJ0_charAt_5068e_12 rfl ?_
  exact x_zret f4 g e dJ0_charAt_5068e_15

theorem kOrd {ad : Nat → Nat} {k : Nat} {G : gG} {S : gS} {T : gT} (hk : k < 8) : Ct ad yJx29ce0_ordinal_8abf5 (Cond.code yJx29ce0_ordinal_8abf5 cJx29ce0_ordinal_8abf5 1 (some .int) :: gTb) 0 0 0 [.ref (ad k)] G S T (some (.int (nI k))) G S T := by
  refine Ct.of rfl (Nat.le_of_ble_eq_true rfl) (fun v hv => by simp at hv; subst hv; rfl) (fun K g e hK => ?_)
  obtain ⟨rfl, -⟩ := hK
  show Xj K [] G 0 [some (.ref ((ky K).2 k))] [] S T 0 0
  refine x_aload_n 0 g dJx29ce0_ordinal_8abf5_0 rfl rfl ?_
  refine x_gcf g dJx29ce0_ordinal_8abf5_1 (hzO g hk) ls_Jx29ce0_7 ?_
  exact x_iret g e dJx29ce0_ordinal_8abf5_4
