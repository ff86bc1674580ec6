/-! the start: what the Statement gives of it -/
def atN : Nat → Nat → Cond → Cond
  | 0, _, T => T
  | k + 1, n, .and a b => atN k n (if n / 2 ^ k % 2 = 1 then b else a)
  | _ + 1, _, T => T
theorem atN_b {s : State} {args : Array Value} : ∀ (k n : Nat) (T : Cond), T.before args s = true → (atN k n T).before args s = true := by
  intro k
  induction k with
  | zero => intro n T h; exact h
  | succ k ih =>
    intro n T h
    cases T with
    | and a b =>
      rw [Cond.before_and, Bool.and_eq_true] at h
      rw [atN]
      refine ih n _ ?_
      split
      · exact h.2
      · exact h.1
    | _ => exact h
def stG : Cond := Jvm.Cond.and given_1 narrow_1
theorem st_at {s : State} {args : Array Value} (h : stG.before args s = true) {c : Cond} (n : Nat) (hc : atN 12 n stG = c) : c.before args s = true := hc ▸ atN_b 12 n stG h
theorem st_dec {α : Type} (l : List α) (f : Nat → Cond) (h : α → Cond) (d : (List.range l.length).all (fun i => (l[i]?).all (fun q => decide (f i = h q))) = true) : ∀ i, i < l.length → ∀ q, l[i]? = some q → f i = h q := by
  intro i hi q hq
  have := List.all_eq_true.mp d i (List.mem_range.mpr hi)
  rw [hq] at this
  exact of_decide_eq_true this
theorem st_arr {s : State} {args : Array Value} {ty : FieldType} (h : (Cond.arrayClass ty).before args s = true) (hp : ∀ cA, va_RA s cA ty = (s.vm.findClass ("[" ++ ty.toString) = some cA)) : ∃ cA, ArrOfT s cA ty ∧ va_RA s cA ty := by
  obtain ⟨c, k, comp, h1, h2, h3⟩ := Cond.arrayClass_spec h
  refine ⟨c, fun N z => ⟨(fun k h => by cases h), k, h2, comp, h3⟩, ?_⟩
  rw [hp]
  exact h1
theorem st_arrO {s : State} {args : Array Value} {C : String} (h : (Cond.arrayOver (.object C)).before args s = true) : ∃ cA, ArrOfT s cA (.object C) ∧ va_RA s cA (.object C) := by
  obtain ⟨comp, c, k, h1, h2, h3, h4, h5⟩ := Cond.arrayOver_spec h
  exact ⟨c, fun N z => ⟨(fun k h => by cases h), k, h3, comp, h4⟩, k, comp, h3, h4, h1, h5⟩
theorem hmJ0 : ∀ w ∈ u_ws RJ0 TJ0 4, w ∈ tables_1 := by decide +kernel
theorem hmJx0 : ∀ w ∈ u_ws RJx00060 TJx00060 6, w ∈ tables_1 := by decide +kernel
theorem hmJx7 : ∀ w ∈ u_ws RJx7c733 TJx7c733 6, w ∈ tables_1 := by decide +kernel
/-- the classes, the rows' classes -/
theorem st_K {s : State} {args : Array Value} (hts : ∀ w ∈ lw_tbl, w.before args s = true) : ∃ (D : va_G) (c1 : Nat → ClassId), va_K D vwCl (gty (c1, fun _ => 0)) s := by
  have kn : ∀ {C : String} {T : u_T} {N n : Nat}, (∀ w ∈ u_ws C T N, w ∈ tables_1) → (Cond.instantiable C n).before args s = true → ∃ (cC : ClassId) (iS : Nat → Nat), u_Kn s C T N cC iS := fun hm hi => u_known hts (fun w hw => List.mem_append_right _ (hm w hw)) hi
  obtain ⟨d0, i0, k0⟩ := kn hmJ0 (n := 4) (hts _ (w_tb 559 (by decide +kernel)))
  obtain ⟨d1, i1, k1⟩ := kn hmJ4 (n := 4) (hts _ (w_tb 140 (by decide +kernel)))
  obtain ⟨d2, i2, k2⟩ := kn hmJx0 (n := 6) (hts _ (w_tb 544 (by decide +kernel)))
  obtain ⟨d3, i3, k3⟩ := kn hmJx7 (n := 6) (hts _ (w_tb 930 (by decide +kernel)))
  obtain ⟨d4, i4, k4⟩ := kn hmX1 (n := 8) (hts _ (w_tb 40 (by decide +kernel)))
  obtain ⟨d5, i5, k5⟩ := kn hmX4 (n := 12) (hts _ (w_tb 47 (by decide +kernel)))
  obtain ⟨d6, i6, k6⟩ := kn hmX5 (n := 9) (hts _ (w_tb 32 (by decide +kernel)))
  obtain ⟨d7, i7, k7⟩ := kn hmX6 (n := 18) (hts _ (w_tb 1340 (by decide +kernel)))
  obtain ⟨a0, b0⟩ := st_arr (ty := .byte) (hts _ (w_tb 171 (by decide +kernel))) (fun _ => rfl)
  obtain ⟨a1, b1⟩ := st_arr (ty := .char) (hts _ (w_tb 1400 (by decide +kernel))) (fun _ => rfl)
  obtain ⟨a2, b2⟩ := st_arr (ty := .int) (hts _ (w_tb 107 (by decide +kernel))) (fun _ => rfl)
  obtain ⟨a3, b3⟩ := st_arrO (C := "UmbrellaSchool$Books") (hts _ (w_tb 138 (by decide +kernel)))
  obtain ⟨a4, b4⟩ := st_arrO (C := "UmbrellaSchool$Umbrella") (hts _ (w_tb 46 (by decide +kernel)))
  obtain ⟨a5, b5⟩ := st_arr (ty := .long) (hts _ (w_tb 1844 (by decide +kernel))) (fun _ => rfl)
  obtain ⟨a6, b6⟩ := st_arr (ty := .double) (hts _ (w_tb 1845 (by decide +kernel))) (fun _ => rfl)
  refine ⟨(fun k => [d0, d1, d2, d3, d4, d5, d6, d7].getD k d0, fun k => match k with | 0 => i0 | 1 => i1 | 2 => i2 | 3 => i3 | 4 => i4 | 5 => i5 | 6 => i6 | _ => i7), fun k => [a0, a1, a2, a3, a4, a5, a6].getD k a0, fun k q hq => ?_, fun k q hq => ?_⟩
  · match k, hq with
    | 0, hq => cases hq; exact k0
    | 1, hq => cases hq; exact k1
    | 2, hq => cases hq; exact k2
    | 3, hq => cases hq; exact k3
    | 4, hq => cases hq; exact k4
    | 5, hq => cases hq; exact k5
    | 6, hq => cases hq; exact k6
    | 7, hq => cases hq; exact k7
    | k + 8, hq => cases hq
  · match k, hq with
    | 0, hq => cases hq; exact b0
    | 1, hq => cases hq; exact b1
    | 2, hq => cases hq; exact b2
    | 3, hq => cases hq; exact b3
    | 4, hq => cases hq; exact b4
    | 5, hq => cases hq; exact b5
    | 6, hq => cases hq; exact b6
    | k + 7, hq => cases hq
theorem st_F {s : State} {args : Array Value} (hts : ∀ w ∈ lw_tbl, w.before args s = true) (hg : stG.before args s = true) {D : va_G} {cy : gY} (hK : va_K D vwCl (gty cy) s) : gF D cy s := by
  have hx0 : (Cond.selects "java/lang/StringBuilder" ⟨"java/lang/AbstractStringBuilder", "isLatin1", "()Z"⟩ ⟨"java/lang/AbstractStringBuilder", "isLatin1", "()Z"⟩).before args s = true := hts _ (w_tb 982 (by decide +kernel))
  have hin0 : (Cond.instanceMethod ⟨"java/lang/AbstractStringBuilder", "isLatin1", "()Z"⟩).before args s = true := hts _ (List.mem_append_right _ (by decide +kernel))
  have hins : (Cond.instantiable "java/lang/StringBuilder" 4).before args s = true := hts _ (w_tb 140 (by decide +kernel))
  have m1 : ∀ q ∈ gNest, Cond.methodLinkNest q.1 q.2.1 q.2.2.1 q.2.2.2 ∈ tables_1 := by decide +kernel
  have m2 : ∀ q ∈ gMsg, Cond.stringRef q.1 q.2.1 q.2.2 ∈ tables_1 := by decide +kernel
  have m3 : ∀ i, i < gMsg.length → ∀ q, gMsg[i]? = some q → atN 12 (([2796, 2918, 2886, 2963, 3123, 3156, 3218, 3255, 3314, 3357, 3406, 3450, 3485, 2653, 2691, 2736, 2836, 2616] : List Nat).getD i 0) stG = Cond.exactly (.string q.1 q.2.1) "java/lang/String" := st_dec gMsg _ _ (by decide +kernel)
  have m4 : ∀ q ∈ gCast, Cond.castable q.1 q.2 ∈ tables_1 := by decide +kernel
  have m5 : ∀ y ∈ gDecl, Cond.declares y ∈ tables_1 := by decide +kernel
  have m6 : ∀ y ∈ gPrv, Cond.privateMethod y ∈ tables_1 ∧ Cond.instanceMethod y ∈ tables_1 ∧ (y.cls ≠ "java/lang/invoke/MethodHandle" ∧ y.cls ≠ "java/lang/invoke/VarHandle") ∧ "java/lang/AbstractStringBuilder" = y.cls := by decide +kernel
  have m7 : ∀ C ∈ gAO, Cond.arrayOver (.object C) ∈ tables_1 := by decide +kernel
  have m8 : ∀ i, i < gNcs.length → ∀ q, gNcs[i]? = some q → atN 12 (([2500, 2535, 2538, 2503] : List Nat).getD i 0) stG = Cond.not (.castable q.1 q.2) := st_dec gNcs _ _ (by decide +kernel)
  refine ⟨hK, fun q hq => va_Nw.of rfl (hts _ (List.mem_append_right _ (m1 q hq))), fun q hq => ?_, fun q hq => va_Nw.of rfl (hts _ (List.mem_append_right _ (m4 q hq))), fun y hy => va_Nw.of rfl (hts _ (List.mem_append_right _ (m5 y hy))), fun y hy => ?_, fun C hC => va_AO.of (hts _ (List.mem_append_right _ (m7 C hC))), fun q hq => va_Nc.of ((List.getElem?_of_mem hq).elim (fun i hi => st_at hg _ (m8 i (List.getElem?_eq_some_iff.mp hi).1 q hi)))⟩
  · obtain ⟨i, hi⟩ := List.getElem?_of_mem hq
    obtain ⟨a, c, cell, k, h1, -⟩ := Cond.exactly_spec (st_at hg _ (m3 i (List.getElem?_eq_some_iff.mp hi).1 q hi))
    exact ⟨a, vk_R.of (hts _ (List.mem_append_right _ (m2 q hq))) h1⟩
  · obtain ⟨p1, p2, p3, p4⟩ := m6 y hy
    exact va_Nw.of rfl (selP p3 (by decide) p4 hx0 hin0 hins (hts _ (List.mem_append_right _ p1)) (hts _ (List.mem_append_right _ p2)))
