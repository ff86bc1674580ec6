/-! the law: its script, its stores, its tails -/
def gScr (K : gKx) (scr L : Nat) (xs : Nat → Int32) : Prop := va_X scr L xs (ks K) (ks K).heap ∧ scr < (ks K).heap.size ∧ ¬ kA K scr ∧ L ≤ 2560
def lvL (scr x m o oD i : Nat) : List (Option Value) := [some (.ref scr), some (.ref x), some (.ref m), some (.ref o), some (.ref oD), some (.int (nI i)), none, none, none]
def nz (v : Int32) : Bool := decide (v ≠ 0)
theorem gl_of2 {ls : Array Slot} {nL i : Nat} {lv : List (Option Value)} {v : Value} (hp : ∀ w, lv[i - 1]? = some (some w) → 0 < i → w.category = 1) (hn : lv.length = nL) (h : lv_has ls nL ((i, v) :: (gas lv).filter (fun q => !(q.1 == i) && (!(q.1 == i + 1) && !(q.1 + 1 == i && q.2.category == 2))))) : gl ls nL ((lv.set i (some v)).set (i + 1) none) := by
  refine ⟨h.1, h.2.1, by rw [List.length_set, List.length_set]; exact hn, fun j w hj => ?_⟩
  rw [List.getElem?_set] at hj
  by_cases e0 : i + 1 = j
  · rw [if_pos e0] at hj
    split at hj <;> cases hj
  · rw [if_neg e0, List.getElem?_set] at hj
    by_cases e : i = j
    · subst e
      rw [if_pos rfl] at hj
      split at hj
      · cases hj
        exact h.2.2 _ List.mem_cons_self
      · cases hj
    · rw [if_neg e] at hj
      refine h.2.2 (j, w) (List.mem_cons_of_mem _ (List.mem_filter.mpr ⟨gas_mem.mpr hj, ?_⟩))
      have h1 : (j == i) = false := by simpa using fun q : j = i => e q.symm
      have h3 : (j == i + 1) = false := by simpa using fun q : j = i + 1 => e0 q.symm
      have h2 : (j + 1 == i && w.category == 2) = false := by
        by_cases z : j + 1 = i
        · have : w.category = 1 := hp w (by rw [← z]; exact hj) (by omega)
          simp [this]
        · simp [z]
      simp [h1, h2, h3]
section LW
variable {K : gKx} {PX : va_W} {G : gG} {pc : Nat} {lv : List (Option Value)} {st : List Value} {S : gS} {T : gT} {c0 s0 d : Nat} {own : String} {cc : ByteArray} {scr L : Nat} {xs : Nat → Int32}
theorem x_dstore {i : Nat} {x : UInt64} (g : Gd K own cc d) (hdg : decode cc pc = .ok (.dstore i, 2)) (hi : i + 1 < lv.length) (hp : gpv lv i = true) (k : Xj K PX G (pc + 2) ((lv.set i (some (.double x))).set (i + 1) none) st S T c0 s0) : Xj K PX G pc lv (.double x :: st) S T c0 s0 := fun H locs cells slots ls Z h =>
  lv_dstore g.1.1 g.1.2.1 hdg (gl_has h.2.2.2.2.1) (gl_lt h.2.2.2.2.1 hi) rfl (fun ls' h' => k H locs cells slots ls' Z ⟨h.1, h.2.1, h.2.2.1, h.2.2.2.1, gl_of2 (gpv_ok hp) h.2.2.2.2.1.2.2.1 h', h.2.2.2.2.2⟩)
theorem x_scr (g : Gd K own cc d) (hs : gScr K scr L xs) {j : Nat} {i : Int32} (hi : i = nI j) (hj : j < L) (hdg : decode cc pc = .ok (.iaload, 1)) (k : Xj K PX G (pc + 1) lv (.int (xs j) :: st) S T c0 s0) : Xj K PX G pc lv (.int i :: .ref scr :: st) S T c0 s0 := by
  subst hi
  have h5 := hs.2.2.2
  refine fun H locs cells slots ls Z h => va_sld g.1.1 g.1.2.1 hs.1 hs.2.1 hs.2.2.1 h.2.2.2.1 (vp_in_nI hj (by omega)) hdg ?_
  rw [nI_clamp (by omega)]
  exact k H locs cells slots ls Z h
theorem x_slen (g : Gd K own cc d) (hs : gScr K scr L xs) (hdg : decode cc pc = .ok (.arraylength, 1)) (k : Xj K PX G (pc + 1) lv (.int (nI L) :: st) S T c0 s0) : Xj K PX G pc lv (.ref scr :: st) S T c0 s0 :=
  fun H locs cells slots ls Z h => va_slen g.1.1 g.1.2.1 hs.1 hs.2.1 hs.2.2.1 h.2.2.2.1 hdg (k H locs cells slots ls Z h)
/-- an int of the script -/
theorem x_arg (g : Gd K own cc d) (hs : gScr K scr L xs) {i j : Nat} {n : Int} (hn : Int32.ofInt n = nI j) (l0 : lv[0]? = some (some (.ref scr))) (l5 : lv[5]? = some (some (.int (nI i)))) (hij : i + j < L)
    (d0 : decode cc pc = .ok (.aload_n 0, 1)) (d1 : decode cc (pc + 1) = .ok (.iload 5, 2)) (d2 : decode cc (pc + 3) = .ok (.iconst n, 1)) (d3 : decode cc (pc + 4) = .ok (.iadd, 1)) (d4 : decode cc (pc + 5) = .ok (.iaload, 1))
    (k : Xj K PX G (pc + 6) lv (.int (xs (i + j)) :: st) S T c0 s0) : Xj K PX G pc lv st S T c0 s0 := by
  refine x_aload_n 0 g d0 rfl l0 (x_iload g d1 l5 (x_iconst g d2 hn (x_iadd g d3 ?_)))
  rw [nI_add]
  exact x_scr g hs rfl hij d4 k
/-- an int of the script, as a truth -/
theorem x_bool (g : Gd K own cc d) {v : Int32} {p3 p4 p7 p8 : Nat} (e3 : p3 = pc + 3) (e4 : p4 = pc + 4) (e7 : p7 = pc + 7) (e8 : p8 = pc + 8)
    (d0 : decode cc pc = .ok (.ifCond .eq 7, 3)) (d1 : decode cc p3 = .ok (.iconst 1, 1)) (d2 : decode cc p4 = .ok (.goto 4, 3)) (d3 : decode cc p7 = .ok (.iconst 0, 1))
    (k : Xj K PX G p8 lv (.int (gz (nz v)) :: st) S T c0 s0) : Xj K PX G pc lv (.int v :: st) S T c0 s0 := by
  subst e3 e4 e7 e8
  refine x_if_eq (pc + 7) g d0 (by omega) (fun z => ?_) (fun z => ?_)
  · have e : nz v = false := decide_eq_false (fun y => y z)
    rw [e] at k
    exact x_iconst g d3 rfl k
  · have e : nz v = true := decide_eq_true z
    rw [e] at k
    exact x_iconst g d1 rfl (x_goto (pc + 8) g d2 (by omega) k)
theorem lg_cmp_same (x : Int64) : lg_cmp x x = 0 := by
  unfold lg_cmp
  rw [if_neg (show ¬ x > x from fun z => Int64.lt_irrefl z), if_pos rfl]
theorem x_thrown (g : Gd K RL cc d) {m : Nat} {th : Int32} (hm : gis G 3 m) (ht : gI S 30 m = th) (hd : 1 ≤ d) (hW : (st.map fun v => v.category).sum ≤ 8) (hdg : decode cc pc = .ok (.invokevirtual 175, 3)) (k : Xj K PX G (pc + 3) lv (.int th :: st) S T c0 s0) : Xj K PX G pc lv (.ref m :: st) S T c0 s0 :=
  x_cV (.int th :: st) g (k_X6_thrown (by unfold f_X6_thrown; rw [gd_i hm, ht])) ca_X6_thrown in_X6_thrown se_X6_thrown lm_L_175 gXX6 hm hd rfl rfl hW hdg rfl k
/-- behind a call of both: what they threw is compared, then what they answered -/
theorem x_tailI (g : Gd K RL cc d) (hd : 1 ≤ d) {m o : Nat} {kv b : Int32} (hm : gis G 3 m) (ho : gis G 10 o) (hn : gn G o = 1) (l2 : lv[2]? = some (some (.ref m))) (l3 : lv[3]? = some (some (.ref o))) (l6 : lv[6]? = some (some (.int kv))) (l7 : lv[7]? = some (some (.int b))) (ht : gI S 30 m = kv) (hv : kv = 0 → gr S o 0 = b) {off : Int} (eo : ((pc + 28 : Nat) : Int) + off = ((3276 : Nat) : Int))
    (d0 : decode cc pc = .ok (.aload_n 2, 1)) (d1 : decode cc (pc + 1) = .ok (.invokevirtual 175, 3)) (d4 : decode cc (pc + 4) = .ok (.iload 6, 2)) (d6 : decode cc (pc + 6) = .ok (.if_icmp .eq 5, 3)) (d11 : decode cc (pc + 11) = .ok (.iload 6, 2)) (d13 : decode cc (pc + 13) = .ok (.ifCond .ne 15, 3)) (d16 : decode cc (pc + 16) = .ok (.aload_n 3, 1)) (d17 : decode cc (pc + 17) = .ok (.iconst 0, 1)) (d18 : decode cc (pc + 18) = .ok (.laload, 1)) (d19 : decode cc (pc + 19) = .ok (.iload 7, 2)) (d21 : decode cc (pc + 21) = .ok (.i2l, 1)) (d22 : decode cc (pc + 22) = .ok (.lcmp, 1)) (d23 : decode cc (pc + 23) = .ok (.ifCond .eq 5, 3)) (d28 : decode cc (pc + 28) = .ok (.goto off, 3))
    (k : Xj K PX G 3276 lv [] S T c0 s0) : Xj K PX G pc lv [] S T c0 s0 := by
  have out : Xj K PX G (pc + 28) lv [] S T c0 s0 := x_goto 3276 g d28 eo k
  refine x_aload_n 2 g d0 rfl l2 (x_thrown g hm ht hd (by decide) d1 (x_iload g d4 l6 (x_icmp_eq (pc + 11) g d6 (by omega) (fun _ => ?_) (fun z => absurd rfl z))))
  refine x_iload g d11 l6 (x_if_ne (pc + 28) g d13 (by omega) (fun _ => out) (fun z => ?_))
  refine x_aload_n 3 g d16 rfl l3 (x_iconst (v := 0) g d17 rfl (x_lald g d18 ho (vp_01 hn) (x_iload g d19 l7 (x_i2l g d21 rfl (x_lcmp g d22 ?_)))))
  rw [show gr S o (Int32.toNatClampNeg 0) = b from hv z, lg_cmp_same]
  exact x_if_eq (pc + 28) g d23 (by omega) (fun _ => out) (fun z => absurd rfl z)
theorem x_tailB (g : Gd K RL cc d) (hd : 1 ≤ d) {m o : Nat} {kv : Int32} {b : Bool} (hm : gis G 3 m) (ho : gis G 10 o) (hn : gn G o = 1) (l2 : lv[2]? = some (some (.ref m))) (l3 : lv[3]? = some (some (.ref o))) (l6 : lv[6]? = some (some (.int kv))) (l7 : lv[7]? = some (some (.int (gz b)))) (ht : gI S 30 m = kv) (hv : kv = 0 → gr S o 0 = gz b) {off : Int} (eo : ((pc + 35 : Nat) : Int) + off = ((3276 : Nat) : Int))
    (d0 : decode cc pc = .ok (.aload_n 2, 1)) (d1 : decode cc (pc + 1) = .ok (.invokevirtual 175, 3)) (d4 : decode cc (pc + 4) = .ok (.iload 6, 2)) (d6 : decode cc (pc + 6) = .ok (.if_icmp .eq 5, 3)) (d11 : decode cc (pc + 11) = .ok (.iload 6, 2)) (d13 : decode cc (pc + 13) = .ok (.ifCond .ne 22, 3)) (d16 : decode cc (pc + 16) = .ok (.aload_n 3, 1)) (d17 : decode cc (pc + 17) = .ok (.iconst 0, 1)) (d18 : decode cc (pc + 18) = .ok (.laload, 1)) (d19 : decode cc (pc + 19) = .ok (.iload 7, 2)) (d21 : decode cc (pc + 21) = .ok (.ifCond .eq 7, 3)) (d24 : decode cc (pc + 24) = .ok (.lconst 1, 1)) (d25 : decode cc (pc + 25) = .ok (.goto 4, 3)) (d28 : decode cc (pc + 28) = .ok (.lconst 0, 1)) (d29 : decode cc (pc + 29) = .ok (.lcmp, 1)) (d30 : decode cc (pc + 30) = .ok (.ifCond .eq 5, 3)) (d35 : decode cc (pc + 35) = .ok (.goto off, 3))
    (k : Xj K PX G 3276 lv [] S T c0 s0) : Xj K PX G pc lv [] S T c0 s0 := by
  have out : Xj K PX G (pc + 35) lv [] S T c0 s0 := x_goto 3276 g d35 eo k
  refine x_aload_n 2 g d0 rfl l2 (x_thrown g hm ht hd (by decide) d1 (x_iload g d4 l6 (x_icmp_eq (pc + 11) g d6 (by omega) (fun _ => ?_) (fun z => absurd rfl z))))
  refine x_iload g d11 l6 (x_if_ne (pc + 35) g d13 (by omega) (fun _ => out) (fun z => ?_))
  refine x_aload_n 3 g d16 rfl l3 (x_iconst (v := 0) g d17 rfl (x_lald g d18 ho (vp_01 hn) (x_iload g d19 l7 ?_)))
  rw [show gr S o (Int32.toNatClampNeg 0) = gz b from hv z]
  have fin : ∀ {x : Int64}, x = (gz b).toInt64 → Xj K PX G (pc + 29) lv [.long x, .long (gz b).toInt64] S T c0 s0 := fun e => by
    rw [e]
    refine x_lcmp g d29 ?_
    rw [lg_cmp_same]
    exact x_if_eq (pc + 35) g d30 (by omega) (fun _ => out) (fun z => absurd rfl z)
  cases b with
  | false => exact x_if_eq (pc + 28) g d21 (by omega) (fun _ => x_lconst (v := (0 : Int32).toInt64) g d28 (by decide) (fin rfl)) (fun z => absurd rfl z)
  | true => exact x_if_eq (pc + 28) g d21 (by omega) (fun z => absurd z (by decide)) (fun _ => x_lconst (v := (1 : Int32).toInt64) g d24 (by decide) (x_goto (pc + 29) g d25 (by omega) (fin rfl)))
theorem x_tailD (g : Gd K RL cc d) (hd : 1 ≤ d) {m o : Nat} {kv : Int32} {b : UInt64} (hm : gis G 3 m) (ho : gis G 11 o) (hn : gn G o = 1) (l2 : lv[2]? = some (some (.ref m))) (l4 : lv[4]? = some (some (.ref o))) (l6 : lv[6]? = some (some (.int kv))) (l7 : lv[7]? = some (some (.double b))) (ht : gI S 30 m = kv) (hv : kv = 0 → ggd S o = b) {off : Int} (eo : ((pc + 48 : Nat) : Int) + off = ((3276 : Nat) : Int))
    (d0 : decode cc pc = .ok (.aload_n 2, 1)) (d1 : decode cc (pc + 1) = .ok (.invokevirtual 175, 3)) (d4 : decode cc (pc + 4) = .ok (.iload 6, 2)) (d6 : decode cc (pc + 6) = .ok (.if_icmp .eq 5, 3)) (d11 : decode cc (pc + 11) = .ok (.iload 6, 2)) (d13 : decode cc (pc + 13) = .ok (.ifCond .ne 35, 3)) (d16 : decode cc (pc + 16) = .ok (.aload 4, 2)) (d18 : decode cc (pc + 18) = .ok (.iconst 0, 1)) (d19 : decode cc (pc + 19) = .ok (.daload, 1)) (d20 : decode cc (pc + 20) = .ok (.dload 7, 2)) (d22 : decode cc (pc + 22) = .ok (.dcmp .l, 1)) (d23 : decode cc (pc + 23) = .ok (.ifCond .eq 25, 3))
    (d26 : decode cc (pc + 26) = .ok (.aload 4, 2)) (d28 : decode cc (pc + 28) = .ok (.iconst 0, 1)) (d29 : decode cc (pc + 29) = .ok (.daload, 1)) (d30 : decode cc (pc + 30) = .ok (.aload 4, 2)) (d32 : decode cc (pc + 32) = .ok (.iconst 0, 1)) (d33 : decode cc (pc + 33) = .ok (.daload, 1)) (d34 : decode cc (pc + 34) = .ok (.dcmp .l, 1)) (d35 : decode cc (pc + 35) = .ok (.ifCond .eq 11, 3)) (d38 : decode cc (pc + 38) = .ok (.dload 7, 2)) (d40 : decode cc (pc + 40) = .ok (.dload 7, 2)) (d42 : decode cc (pc + 42) = .ok (.dcmp .l, 1)) (d43 : decode cc (pc + 43) = .ok (.ifCond .ne 5, 3)) (d48 : decode cc (pc + 48) = .ok (.goto off, 3))
    (k : Xj K PX G 3276 lv [] S T c0 s0) : Xj K PX G pc lv [] S T c0 s0 := by
  have out : Xj K PX G (pc + 48) lv [] S T c0 s0 := x_goto 3276 g d48 eo k
  refine x_aload_n 2 g d0 rfl l2 (x_thrown g hm ht hd (by decide) d1 (x_iload g d4 l6 (x_icmp_eq (pc + 11) g d6 (by omega) (fun _ => ?_) (fun z => absurd rfl z))))
  refine x_iload g d11 l6 (x_if_ne (pc + 48) g d13 (by omega) (fun _ => out) (fun z => ?_))
  refine x_aload g d16 l4 (x_iconst (v := 0) g d18 rfl (x_dald g d19 ho (vp_01 hn) (x_dload g d20 l7 (x_dcmp g d22 ?_))))
  rw [hv z]
  refine x_if_eq (pc + 48) g d23 (by omega) (fun _ => out) (fun y => ?_)
  refine x_aload g d26 l4 (x_iconst (v := 0) g d28 rfl (x_dald g d29 ho (vp_01 hn) (x_aload g d30 l4 (x_iconst (v := 0) g d32 rfl (x_dald g d33 ho (vp_01 hn) (x_dcmp g d34 ?_))))))
  rw [hv z]
  refine x_if_eq (pc + 46) g d35 (by omega) (fun q => absurd q y) (fun _ => ?_)
  exact x_dload g d38 l7 (x_dload g d40 l7 (x_dcmp g d42 (x_if_ne (pc + 48) g d43 (by omega) (fun _ => out) (fun q => absurd q y))))
/-- the law's float: its bits go to a double, and are compared there -/
theorem x_tailF (hfl : flOk) (g : Gd K RL cc d) (hd : 1 ≤ d) {m o : Nat} {kv : Int32} {b : UInt32} (hm : gis G 3 m) (ho : gis G 11 o) (hn : gn G o = 1) (l2 : lv[2]? = some (some (.ref m))) (l4 : lv[4]? = some (some (.ref o))) (l6 : lv[6]? = some (some (.int kv))) (l7 : lv[7]? = some (some (.float b))) (ht : gI S 30 m = kv) (hv : kv = 0 → ggd S o = FP.f2d b ∧ vf_n32 b) {off : Int} (eo : ((pc + 49 : Nat) : Int) + off = ((3276 : Nat) : Int))
    (d0 : decode cc pc = .ok (.aload_n 2, 1)) (d1 : decode cc (pc + 1) = .ok (.invokevirtual 175, 3)) (d4 : decode cc (pc + 4) = .ok (.iload 6, 2)) (d6 : decode cc (pc + 6) = .ok (.if_icmp .eq 5, 3)) (d11 : decode cc (pc + 11) = .ok (.iload 6, 2)) (d13 : decode cc (pc + 13) = .ok (.ifCond .ne 36, 3)) (d16 : decode cc (pc + 16) = .ok (.aload 4, 2)) (d18 : decode cc (pc + 18) = .ok (.iconst 0, 1)) (d19 : decode cc (pc + 19) = .ok (.daload, 1)) (d20 : decode cc (pc + 20) = .ok (.fload 7, 2)) (d22 : decode cc (pc + 22) = .ok (.f2d, 1)) (d23 : decode cc (pc + 23) = .ok (.dcmp .l, 1)) (d24 : decode cc (pc + 24) = .ok (.ifCond .eq 25, 3)) (d49 : decode cc (pc + 49) = .ok (.goto off, 3))
    (k : Xj K PX G 3276 lv [] S T c0 s0) : Xj K PX G pc lv [] S T c0 s0 := by
  have out : Xj K PX G (pc + 49) lv [] S T c0 s0 := x_goto 3276 g d49 eo k
  refine x_aload_n 2 g d0 rfl l2 (x_thrown g hm ht hd (by decide) d1 (x_iload g d4 l6 (x_icmp_eq (pc + 11) g d6 (by omega) (fun _ => ?_) (fun z => absurd rfl z))))
  refine x_iload g d11 l6 (x_if_ne (pc + 49) g d13 (by omega) (fun _ => out) (fun z => ?_))
  obtain ⟨v1, v2⟩ := hv z
  have v3 := hfl.2.2.1 b v2
  refine x_aload g d16 l4 (x_iconst (v := 0) g d18 rfl (x_dald g d19 ho (vp_01 hn) (x_fload g d20 l7 (x_f2d g d22 v3 (x_dcmp g d23 ?_)))))
  rw [v1, hfl.2.2.2 _ v3]
  exact x_if_eq (pc + 49) g d24 (by omega) (fun _ => out) (fun z => absurd rfl z)
/-- a query of both, with no refusal -/
theorem x_tailQ (g : Gd K RL cc d) {a b : Int32} {off : Int} (hab : a = b) (eo : (pc : Int) + off = ((3276 : Nat) : Int)) (d0 : decode cc pc = .ok (.if_icmp .eq off, 3)) (k : Xj K PX G 3276 lv [] S T c0 s0) : Xj K PX G pc lv [.int b, .int a] S T c0 s0 :=
  x_icmp_eq 3276 g d0 eo (fun _ => k) (fun z => absurd hab z)
end LW
theorem gpc_le {T : gT} (h : T.length = 2) : gpc T ≤ 4 ∧ gps T ≤ 208 := by
  match T, h with
  | [p, q], _ =>
    have h1 : ∀ c, gpot c ≤ 2 ∧ gpos c ≤ 104 := fun c => by
      unfold gpot gpos
      constructor <;> (repeat' split) <;> omega
    have a := h1 p.2.1
    have b := h1 q.2.1
    constructor
    · show gpot p.2.1 + (gpot q.2.1 + 0) ≤ 4
      omega
    · show gpos p.2.1 + (gpos q.2.1 + 0) ≤ 208
      omega
theorem tP.len {T : gT} {A : aW} {tx ou : List Nat} (h : tP T A tx ou) : gpc T ≤ 4 ∧ gps T ≤ 208 := gpc_le h.2.2.1.2.choose_spec.2.2
