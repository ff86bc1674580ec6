/-! the start: constants -/
def stI : List Nat := [56, 62, 65, 68, 71, 74, 77, 80]
def stT (i : Nat) : Term := .string "UmbrellaSchool$Command" (stI.getD i 0)
theorem va_En.ad {E d : String} {nm : List String} {F : List (String × String × String × List Int32)} {a a' : Nat → Nat} {A : Nat → Prop} {U : State} {H : Heap} (h : va_En E d nm F a A U H) (e : ∀ i, i < nm.length → a' i = a i) : va_En E d nm F a' A U H :=
  ⟨fun i hi => by rw [e i hi]; exact h.1 i hi, fun i j hi hj q => h.2 i j hi hj (by rw [← e i hi, ← e j hj]; exact q)⟩
theorem vk_S.ad {N : Nat} {len : List Nat} {byt : List (List Int32)} {k k' v v' : Nat → Nat} {A : Nat → Prop} {U : State} {H : Heap} (h : vk_S N len byt k v A U H) (e : ∀ i, i < N → k' i = k i) (e2 : ∀ i, i < N → v' i = v i) : vk_S N len byt k' v' A U H :=
  ⟨fun i hi => by rw [e i hi, e2 i hi]; exact h.1 i hi, fun i j hi hj q => h.2 i j hi hj (by rw [← e i hi, ← e j hj]; exact q)⟩
section STR
variable {s : State} {args : Array Value} {t u : Term} {a b : Nat}
theorem st_nq (ht : t.eval args s none [] s = some (.ref a)) (hu : u.eval args s none [] s = some (.ref b)) (hab : a ≠ b) : (Cond.not (.eq t u)).before args s = true := by
  simp [Cond.before, Cond.holds, Cond.value, ht, hu, hab]
theorem st_len {o n d : String} (h : t.eval args s none [] s = u.eval args s none [] s) : (Term.length (.field t o n d)).eval args s none [] s = (Term.length (.field u o n d)).eval args s none [] s := by
  simp only [Term.eval, h]
theorem st_el {o n d : String} {i : Int32} (h : t.eval args s none [] s = u.eval args s none [] s) : (Term.elem (.field t o n d) (.int i)).eval args s none [] s = (Term.elem (.field u o n d) (.int i)).eval args s none [] s := by
  simp only [Term.eval, h]
end STR
/-- the forms' texts -/
theorem st_S {s : State} {args : Array Value} (hg : stG.before args s = true) : ∃ adK adV : Nat → Nat, vk_S 8 (gForms.map List.length) gForms adK adV (fun q => s.heap.size ≤ q) s s.heap ∧ ∀ i : Nat, i < 8 → (stT i).eval args s none [] s = some (.ref (adK i)) := by
  have m1 : ∀ i, i < 8 → inC (Cond.exactly (stT i) "java/lang/String") stG = true := by decide +kernel
  have m2 : ∀ i, i < 8 → inC (Cond.eq (.field (stT i) "java/lang/String" "coder" "B") (.int 0)) stG = true := by decide +kernel
  have m3 : ∀ i, i < 8 → inC (Cond.arrayOf (.field (stT i) "java/lang/String" "value" "[B") .byte) stG = true := by decide +kernel
  have m4 : ∀ i, i < 8 → inC (Cond.eq (.length (.field (stT i) "java/lang/String" "value" "[B")) (.int (Int32.ofNat ((gForms.map List.length).getD i 0)))) stG = true := by decide +kernel
  have m5 : ∀ i, i < 8 → ∀ j, j < (gForms.map List.length).getD i 0 → inC (Cond.eq (.elem (.field (stT i) "java/lang/String" "value" "[B") (.int (Int32.ofNat j))) (.int ((gForms.getD i []).getD j 0))) stG = true := by decide +kernel
  have m6 : ∀ i, i < 8 → (gForms.map List.length).getD i 0 < 2 ^ 31 ∧ 0 < (gForms.map List.length).getD i 0 := by decide
  have m7 : ∀ i, i < 8 → ∀ j, j < 8 → i ≠ j → Int32.ofNat ((gForms.map List.length).getD i 0) ≠ Int32.ofNat ((gForms.map List.length).getD j 0) ∨ (gForms.getD i []).getD 0 0 ≠ (gForms.getD j []).getD 0 0 := by decide
  refine vk_Sof (tm := stT) (fun i hi => (m6 i hi).1) (fun i hi => st_of hg (m1 i hi)) (fun i hi => st_of hg (m2 i hi)) (fun i hi => st_of hg (m3 i hi)) (fun i hi => st_of hg (m4 i hi)) (fun i hi j hj => st_of hg (m5 i hi j hj)) (fun i j hi hj hn => Or.inl ?_) (fun a h => Nat.not_le.mpr h)
  obtain ⟨a, -, -, -, h1, -⟩ := Cond.exactly_spec (st_of hg (m1 i hi))
  obtain ⟨b, -, -, -, h2, -⟩ := Cond.exactly_spec (st_of hg (m1 j hj))
  refine st_nq h1 h2 (fun q => ?_)
  have e : (stT i).eval args s none [] s = (stT j).eval args s none [] s := by
    rw [q] at h1
    exact h1.trans h2.symm
  rcases m7 i hi j hj hn with z | z
  · have l1 := va_eqt (st_of hg (m4 i hi))
    rw [st_len e, va_eqt (st_of hg (m4 j hj))] at l1
    exact z (Value.int.inj (Option.some.inj l1)).symm
  · have l1 := va_eqt (st_of hg (m5 i hi 0 (m6 i hi).2))
    rw [st_el e, va_eqt (st_of hg (m5 j hj 0 (m6 j hj).2))] at l1
    exact z (Value.int.inj (Option.some.inj l1)).symm
/-- the commands, the refusals -/
theorem st_C {s : State} {args : Array Value} (hts : ∀ w ∈ lw_tbl, w.before args s = true) (hg : stG.before args s = true) : ∃ adC : Nat → Nat, va_En "UmbrellaSchool$Command" "LUmbrellaSchool$Command;" gCmds [("java/lang/Enum", "ordinal", "I", [0, 1, 2, 3, 4, 5, 6, 7]), ("UmbrellaSchool$Command", "leastLength", "I", [5, 10, 10, 5, 6, 10, 8, 4])] adC (fun q => s.heap.size ≤ q) s s.heap ∧ ∀ i, i < 8 → (Term.static "UmbrellaSchool$Command" (gCmds.getD i "") "LUmbrellaSchool$Command;").eval args s none [] s = some (.ref (adC i)) := by
  have m1 : ∀ i, i < 8 → Cond.laysStatic "UmbrellaSchool$Command" (gCmds.getD i "") "LUmbrellaSchool$Command;" ∈ tables_1 := by decide +kernel
  have m2 : ∀ i, i < 8 → inC (Cond.exactly (.static "UmbrellaSchool$Command" (gCmds.getD i "") "LUmbrellaSchool$Command;") "UmbrellaSchool$Command") stG = true := by decide +kernel
  have m3 : ∀ q ∈ ([("java/lang/Enum", "ordinal", "I", [0, 1, 2, 3, 4, 5, 6, 7]), ("UmbrellaSchool$Command", "leastLength", "I", [5, 10, 10, 5, 6, 10, 8, 4])] : List (String × String × String × List Int32)), ∀ i, i < 8 → inC (Cond.eq (.field (.static "UmbrellaSchool$Command" (gCmds.getD i "") "LUmbrellaSchool$Command;") q.1 q.2.1 q.2.2.1) (.int (q.2.2.2.getD i 0))) stG = true := by decide +kernel
  have m4 : ∀ i, i < 8 → ∀ j, j < 8 → i ≠ j → inC (Cond.not (.eq (.static "UmbrellaSchool$Command" (gCmds.getD i "") "LUmbrellaSchool$Command;") (.static "UmbrellaSchool$Command" (gCmds.getD j "") "LUmbrellaSchool$Command;"))) stG = true ∨ inC (Cond.not (.eq (.static "UmbrellaSchool$Command" (gCmds.getD j "") "LUmbrellaSchool$Command;") (.static "UmbrellaSchool$Command" (gCmds.getD i "") "LUmbrellaSchool$Command;"))) stG = true := by decide +kernel
  exact va_Enof2 (fun i hi => hts _ (List.mem_append_right _ (m1 i hi))) (hts _ (w_tb 10 (by decide +kernel))) (fun i hi => st_of hg (m2 i hi)) (fun q hq i hi => st_of hg (m3 q hq i hi)) (fun i j hi hj hn => (m4 i hi j hj hn).imp (st_of hg) (st_of hg)) (fun a h => Nat.not_le.mpr h)
theorem st_R {s : State} {args : Array Value} (hts : ∀ w ∈ lw_tbl, w.before args s = true) (hg : stG.before args s = true) : ∃ adR : Nat → Nat, va_En "UmbrellaSchool$Refusal" "LUmbrellaSchool$Refusal;" gRefs [] adR (fun q => s.heap.size ≤ q) s s.heap ∧ ∀ i, i < 4 → (Term.static "UmbrellaSchool$Refusal" (gRefs.getD i "") "LUmbrellaSchool$Refusal;").eval args s none [] s = some (.ref (adR i)) := by
  have m1 : ∀ i, i < 4 → Cond.laysStatic "UmbrellaSchool$Refusal" (gRefs.getD i "") "LUmbrellaSchool$Refusal;" ∈ tables_1 := by decide +kernel
  have m2 : ∀ i, i < 4 → inC (Cond.exactly (.static "UmbrellaSchool$Refusal" (gRefs.getD i "") "LUmbrellaSchool$Refusal;") "UmbrellaSchool$Refusal") stG = true := by decide +kernel
  have m4 : ∀ i, i < 4 → ∀ j, j < 4 → i ≠ j → inC (Cond.not (.eq (.static "UmbrellaSchool$Refusal" (gRefs.getD i "") "LUmbrellaSchool$Refusal;") (.static "UmbrellaSchool$Refusal" (gRefs.getD j "") "LUmbrellaSchool$Refusal;"))) stG = true ∨ inC (Cond.not (.eq (.static "UmbrellaSchool$Refusal" (gRefs.getD j "") "LUmbrellaSchool$Refusal;") (.static "UmbrellaSchool$Refusal" (gRefs.getD i "") "LUmbrellaSchool$Refusal;"))) stG = true := by decide +kernel
  exact va_Enof2 (F := []) (fun i hi => hts _ (List.mem_append_right _ (m1 i hi))) (hts _ (w_tb 12 (by decide +kernel))) (fun i hi => st_of hg (m2 i hi)) (fun q hq => by cases hq) (fun i j hi hj hn => (m4 i hi j hj hn).imp (st_of hg) (st_of hg)) (fun a h => Nat.not_le.mpr h)
/-- rows of numbers -/
theorem st_row {s : State} {args : Array Value} (hts : ∀ w ∈ lw_tbl, w.before args s = true) (hg : stG.before args s = true) {C n d : String} {ty : FieldType} {N : Nat} {f : Nat → Int32} (hN : N < 2 ^ 31) (h1 : Cond.laysStatic C n d ∈ lw_tbl) (h2 : Cond.initialized C ∈ lw_tbl) (h3 : inC (Cond.arrayOf (.static C n d) ty) stG = true) (h4 : inC (Cond.eq (.length (.static C n d)) (.int (Int32.ofNat N))) stG = true) (h5 : ∀ j, j < N → inC (Cond.eq (.elem (.static C n d) (.int (Int32.ofNat j))) (.int (f j))) stG = true) : ∃ t : Nat, va_Z C n d (.ref t) (fun q => s.heap.size ≤ q) s s.heap ∧ va_T ty t N (fun j => .int (f j)) (fun q => s.heap.size ≤ q) s s.heap := by
  obtain ⟨t, e, hT⟩ := va_Tof (tm := .static C n d) (ty := ty) (N := N) (f := fun j => .int (f j)) (A := fun q => s.heap.size ≤ q) hN (st_of hg h3) (va_eqt (st_of hg h4)) (fun j hj => va_eqt (st_of hg (h5 j hj))) (fun a h => Nat.not_le.mpr h)
  exact ⟨t, va_Zof (hts _ h1) (hts _ h2) e (fun a h => Nat.not_le.mpr h), hT⟩
theorem st_sw {s : State} {args : Array Value} (hts : ∀ w ∈ lw_tbl, w.before args s = true) (hg : stG.before args s = true) : ∃ t : Nat, va_Z "UmbrellaSchool$1" "$SwitchMap$UmbrellaSchool$Command" "[I" (.ref t) (fun q => s.heap.size ≤ q) s s.heap ∧ va_T .int t 8 (fun j => .int (gsw j)) (fun q => s.heap.size ≤ q) s s.heap :=
  st_row hts hg (by decide) (w_tb 369 (by decide +kernel)) (w_tb 11 (by decide +kernel)) (by decide +kernel) (by decide +kernel) (by decide +kernel)
theorem st_ones {s : State} {args : Array Value} (hts : ∀ w ∈ lw_tbl, w.before args s = true) (hg : stG.before args s = true) : ∃ t : Nat, va_Z "java/lang/Integer" "DigitOnes" "[B" (.ref t) (fun q => s.heap.size ≤ q) s s.heap ∧ va_T .byte t 100 (fun j => .int (nI (48 + j % 10))) (fun q => s.heap.size ≤ q) s s.heap :=
  st_row hts hg (by decide) (w_tb 1067 (by decide +kernel)) (w_tb 30 (by decide +kernel)) (by decide +kernel) (by decide +kernel) (by decide +kernel)
theorem st_tens {s : State} {args : Array Value} (hts : ∀ w ∈ lw_tbl, w.before args s = true) (hg : stG.before args s = true) : ∃ t : Nat, va_Z "java/lang/Integer" "DigitTens" "[B" (.ref t) (fun q => s.heap.size ≤ q) s s.heap ∧ va_T .byte t 100 (fun j => .int (nI (48 + j / 10))) (fun q => s.heap.size ≤ q) s s.heap :=
  st_row hts hg (by decide) (w_tb 1069 (by decide +kernel)) (w_tb 30 (by decide +kernel)) (by decide +kernel) (by decide +kernel) (by decide +kernel)
theorem st_H {s : State} {args : Array Value} (hts : ∀ w ∈ lw_tbl, w.before args s = true) (hg : stG.before args s = true) : ∃ ad : Nat → Nat, ∀ c1, gH (c1, ad) (fun q => s.heap.size ≤ q) s s.heap := by
  have hA : ∀ a : Nat, a < s.heap.size → ¬ (fun q => s.heap.size ≤ q) a := fun a h => Nat.not_le.mpr h
  obtain ⟨adC, eC, vC⟩ := st_C hts hg
  obtain ⟨adR, eR, -⟩ := st_R hts hg
  obtain ⟨adK, adV, eS, vK⟩ := st_S hg
  have f1 : ∀ i, i < 8 → inC (Cond.eq (.field (.static "UmbrellaSchool$Command" (gCmds.getD i "") "LUmbrellaSchool$Command;") "UmbrellaSchool$Command" "form" "Ljava/lang/String;") (stT i)) stG = true := by decide +kernel
  have eF := va_Efof (N := 8) (E := "UmbrellaSchool$Command") (d0 := "LUmbrellaSchool$Command;") (o := "UmbrellaSchool$Command") (n := "form") (d := "Ljava/lang/String;") (nm := gCmds) (v := fun i => .ref (adK i)) (tm := stT) (ad := adC) (A := fun q => s.heap.size ≤ q) vC (fun i hi => st_of hg (f1 i hi)) vK hA
  have f2 : ∀ j, j < 8 → inC (Cond.eq (.elem (.static "UmbrellaSchool" "COMMANDS" "[LUmbrellaSchool$Command;") (.int (Int32.ofNat j))) (.static "UmbrellaSchool$Command" (gCmds.getD j "") "LUmbrellaSchool$Command;")) stG = true := by decide +kernel
  obtain ⟨t40, v40, e40⟩ := va_Tof (args := args) (tm := .static "UmbrellaSchool" "COMMANDS" "[LUmbrellaSchool$Command;") (ty := .object "UmbrellaSchool$Command") (N := 8) (f := fun j => .ref (adC j)) (A := fun q => s.heap.size ≤ q) (by decide) (st_of hg (by decide +kernel)) (va_eqt (z := 8) (st_of hg (by decide +kernel))) (fun j hj => va_eqv (st_of hg (f2 j hj)) (vC j hj)) hA
  have z40 := va_Zof (C := "UmbrellaSchool") (n := "COMMANDS") (hts _ (w_tb 1253 (by decide +kernel))) (hts _ (w_tb 1 (by decide +kernel))) v40 hA
  obtain ⟨t41, z41, e41⟩ := st_sw hts hg
  obtain ⟨t50, z50, e50⟩ := st_ones hts hg
  obtain ⟨t51, z51, e51⟩ := st_tens hts hg
  have zc := va_Zof (A := fun q => s.heap.size ≤ q) (hts _ (w_tb 149 (by decide +kernel))) (hts _ (w_tb 6 (by decide +kernel))) (va_eqi (C := "java/lang/String") (n := "COMPACT_STRINGS") (d := "Z") (z := 1) (st_of hg (by decide +kernel))) hA
  have zu := vx_Zqof (C := Bundle.tN) (n := "UNASSIGNED_STACK") (d := Bundle.steD) (A := fun q => s.heap.size ≤ q) (hts _ (w_tb 255 (by decide +kernel))) (hts _ (w_tb 13 (by decide +kernel))) (st_of hg (by decide +kernel)) hA
  have zs := vx_Zqof (C := Bundle.tN) (n := "SUPPRESSED_SENTINEL") (d := Bundle.listD) (A := fun q => s.heap.size ≤ q) (hts _ (w_tb 257 (by decide +kernel))) (hts _ (w_tb 13 (by decide +kernel))) (st_of hg (by decide +kernel)) hA
  have zp := va_Zqof (C := "jdk/internal/util/Preconditions") (n := "SIOOBE_FORMATTER") (d := "Ljava/util/function/BiFunction;") (A := fun q => s.heap.size ≤ q) (hts _ (w_tb 997 (by decide +kernel))) (hts _ (w_tb 27 (by decide +kernel))) (st_of hg (by decide +kernel)) hA
  obtain ⟨ad, had⟩ : ∃ ad : Nat → Nat, ad = fun n => if n < 10 then adC n else if n < 20 then adR (n - 10) else if n < 30 then adK (n - 20) else if n < 40 then adV (n - 30) else if n = 40 then t40 else if n = 41 then t41 else if n = 50 then t50 else t51 := ⟨_, rfl⟩
  have d0 : ∀ i, i < 8 → ad i = adC i := fun i hi => by rw [had]; exact if_pos (by omega)
  have d1 : ∀ i, i < 8 → ad (10 + i) = adR i := fun i hi => by
    rw [had]
    show (if 10 + i < 10 then _ else if 10 + i < 20 then adR (10 + i - 10) else _) = _
    rw [if_neg (by omega), if_pos (by omega), Nat.add_sub_cancel_left]
  have d2 : ∀ i, i < 8 → ad (20 + i) = adK i := fun i hi => by
    rw [had]
    show (if 20 + i < 10 then _ else if 20 + i < 20 then _ else if 20 + i < 30 then adK (20 + i - 20) else _) = _
    rw [if_neg (by omega), if_neg (by omega), if_pos (by omega), Nat.add_sub_cancel_left]
  have d3 : ∀ i, i < 8 → ad (30 + i) = adV i := fun i hi => by
    rw [had]
    show (if 30 + i < 10 then _ else if 30 + i < 20 then _ else if 30 + i < 30 then _ else if 30 + i < 40 then adV (30 + i - 30) else _) = _
    rw [if_neg (by omega), if_neg (by omega), if_neg (by omega), if_pos (by omega), Nat.add_sub_cancel_left]
  have d40 : ad 40 = t40 := by rw [had]; rfl
  have d41 : ad 41 = t41 := by rw [had]; rfl
  have d50 : ad 50 = t50 := by rw [had]; rfl
  have d51 : ad 51 = t51 := by rw [had]; rfl
  refine ⟨ad, fun c1 => ⟨zu, zs, eC.ad d0, eR.ad (fun i hi => d1 i (Nat.lt_of_lt_of_le hi (by decide))), fun k hk => ?_, eS.ad d2 d3, ?_, ?_, ?_, ?_, zc, ?_, ?_, ?_, ?_, zp⟩⟩
  · show va_OF _ _ _ (.ref (ad (20 + k))) (ad k) _ _ _
    rw [d2 k hk, d0 k hk]
    exact eF k hk
  · show va_Z _ _ _ (.ref (ad 40)) _ _ _
    rw [d40]; exact z40
  · show va_T _ (ad 40) 8 (fun j => .ref (ad j)) _ _ _
    rw [d40]
    obtain ⟨cell, q1, q2, q3, q4, q5, q6, q7⟩ := e40
    exact ⟨cell, q1, q2, q3, q4, q5, fun j hj => by rw [d0 j hj]; exact q6 j hj, q7⟩
  · show va_Z _ _ _ (.ref (ad 41)) _ _ _
    rw [d41]; exact z41
  · show va_T _ (ad 41) 8 _ _ _ _
    rw [d41]; exact e41
  · show va_Z _ _ _ (.ref (ad 50)) _ _ _
    rw [d50]; exact z50
  · show va_T _ (ad 50) 100 _ _ _ _
    rw [d50]; exact e50
  · show va_Z _ _ _ (.ref (ad 51)) _ _ _
    rw [d51]; exact z51
  · show va_T _ (ad 51) 100 _ _ _ _
    rw [d51]; exact e51
