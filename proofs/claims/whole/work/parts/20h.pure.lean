/-! the class: books -/
def bOk (G : gG) (S : gS) (x : gBA) : Prop := bSh G S x ∧ (bFp x).Nodup
theorem bOk.fr {G : gG} {S S' : gS} {x : gBA} {X : List Nat} (h : bOk G S x) (e : gFr X S S') : bOk G S' x := ⟨h.1.fr e, h.2⟩
theorem bOk.parts {G : gG} {S : gS} {x : gBA} (h : bOk G S x) : (∀ i, i < 6 → x.1 ∉ uFp (x.2.2 i)) ∧ (∀ i, i < 6 → (uFp (x.2.2 i)).Nodup) ∧ ∀ i j, i < 6 → j < 6 → i ≠ j → ∀ a ∈ uFp (x.2.2 i), a ∉ uFp (x.2.2 j) := by
  have h1 : List.Pairwise (fun a b => a ≠ b) (bFp x) := h.2
  unfold bFp at h1
  obtain ⟨h2, h3⟩ := List.pairwise_cons.mp h1
  obtain ⟨h4, h5⟩ := List.pairwise_cons.mp h3
  obtain ⟨h6, h7⟩ := List.pairwise_flatMap.mp h5
  refine ⟨fun i hi q => h2 x.1 (List.mem_cons_of_mem _ (List.mem_flatMap.mpr ⟨i, List.mem_range.mpr hi, q⟩)) rfl, fun i hi => h6 i (List.mem_range.mpr hi), ?_⟩
  have key : ∀ i j, i < j → j < 6 → ∀ a ∈ uFp (x.2.2 i), ∀ b ∈ uFp (x.2.2 j), a ≠ b := by
    intro i j hij hj
    have := List.pairwise_iff_getElem.mp h7 i j (by rw [List.length_range]; omega) (by rw [List.length_range]; omega) hij
    rw [List.getElem_range, List.getElem_range] at this
    exact this
  intro i j hi hj hij a ha hb
  rcases Nat.lt_or_gt_of_ne hij with q | q
  · exact key i j q hj a ha a hb rfl
  · exact key j i q hi a hb a ha rfl
theorem uOk.of {G : gG} {S : gS} {x : gUA} (h : uSh G S x) (hn : (uFp x).Nodup) : uOk G S x := by
  refine ⟨h, ?_⟩
  have h1 : List.Pairwise (fun a b => a ≠ b) (uFp x) := hn
  have key : ∀ i j, i < j → j < 4 → x.2 i ≠ x.2 j := by
    intro i j hij hj
    have := List.pairwise_iff_getElem.mp h1 (i + 1) (j + 1) (by unfold uFp; simp; omega) (by unfold uFp; simp; omega) (by omega)
    have hg : ∀ k, (hk : k < 4) → (uFp x)[k + 1]'(by unfold uFp; simp; omega) = x.2 k := by
      intro k hk
      have hk' : k = 0 ∨ k = 1 ∨ k = 2 ∨ k = 3 := by omega
      rcases hk' with rfl | rfl | rfl | rfl <;> rfl
    rw [hg i (by omega), hg j hj] at this
    exact this
  intro i j hi hj hij
  rcases Nat.lt_or_gt_of_ne hij with q | q
  · exact key i j q hj
  · exact fun e => key j i q hi e.symm
theorem bOk.u {G : gG} {S : gS} {x : gBA} (h : bOk G S x) {i : Nat} (hi : i < 6) : uOk G S (x.2.2 i) := uOk.of (h.1.2.2.2.2 i hi).2 (h.parts.2.1 i hi)
-- rows and umbrellas copied
theorem va_cpy0 {f g : Nat → Int32} {n k : Nat} (h : k < n) : va_cpy f g 0 0 n k = f k := by
  unfold va_cpy
  rw [if_pos ⟨Nat.zero_le _, by omega⟩, Nat.zero_add, Nat.sub_zero]
section CB
variable {G : gG} {S : gS} {x : gBA} {M : mB} {N : Nat}
theorem c_copyRow {a b n : Nat} (ha : gis G 7 a) (hb : gis G 7 b) (hna : gn G a = n) (hnb : gn G b = n) (hn : n < 2 ^ 31) : f_X5_copyRow G a b S = some (srow S b (va_cpy (gr S a) (gr S b) 0 0 n)) := by
  unfold f_X5_copyRow
  have e : (if (Int32.ofNat n) < (Int32.ofNat n) then (Int32.ofNat n) else (Int32.ofNat n)) = nI n := by
    by_cases q : (Int32.ofNat n) < (Int32.ofNat n)
    · rw [if_pos q]; rfl
    · rw [if_neg q]; rfl
  rw [gd_i ha, gd_i hb, hna, hnb, e, nI_clamp hn, gd_i ⟨nI_pos hn, Nat.le_refl _, Nat.le_refl _⟩, glt_S]
theorem uV.row {G : gG} {S S' : gS} {x : gUA} {z : Nat → Int32} {a : Nat → Nat → Int32} {f : Nat → Int32} (j : Nat) (h : uV S x z a) (ho : uOk G S x) (hj : j < 4) (e : S' = srow S (x.2 j) f) : uV S' x z (fun j' => if j' = j then f else a j') := by
  subst e
  refine ⟨h.1, fun j' hj' => ?_⟩
  by_cases c : j' = j
  · subst c
    show _ = if j' = j' then f else a j'
    rw [gr_same, if_pos rfl]
  · show _ = if j' = j then f else a j'
    rw [gr_other _ (ho.2 _ _ hj' hj c), if_neg c]
    exact h.2 _ hj'
theorem gFr.row' {X : List Nat} {S S1 S2 : gS} {a : Nat} {f : Nat → Int32} (h : gFr X S S1) (e : S2 = srow S1 a f) (ha : a ∈ X) : gFr X S S2 := by subst e; exact h.row ha
theorem c_ucopy {x y : gUA} (h : uOk G S x) (hy : uOk G S y) (hd : ∀ a ∈ uFp y, a ∉ uFp x) : wp (f_X4_copyFrom G x.1 y.1 S) (fun S' => gFr (uFp x) S S' ∧ ∀ U : mU, U.2.length ≤ 20 → uR S y U → uR S' x U) := by
  unfold f_X4_copyFrom
  refine wp_gd hy.1.1 (wp_gb hy.p0.1 (wp_gd h.1.1 (wp_gb h.p0.1 ?_)))
  refine wp_gb (c_copyRow hy.p0.2.1 h.p0.2.1 hy.p0.2.2 h.p0.2.2 (by decide)) ?_
  obtain ⟨S1, e1⟩ : ∃ S1, S1 = srow S (x.2 0) (va_cpy (gr S (y.2 0)) (gr S (x.2 0)) 0 0 20) := ⟨_, rfl⟩
  rw [← e1]
  have v0 : uV S x (fun f => gI S (10 + f) x.1) (fun j => gr S (x.2 j)) := ⟨fun _ _ => rfl, fun _ _ => rfl⟩
  have v1 := v0.row 0 h (by decide) e1
  have f1 := (gFr.rfl' (S := S)).row' e1 (uFp_r x (show 0 < 4 by decide))
  have o1 := h.fr f1
  have y1 := hy.fr f1
  refine wp_gb y1.p1.1 (wp_gb o1.p1.1 ?_)
  refine wp_gb (c_copyRow y1.p1.2.1 o1.p1.2.1 y1.p1.2.2 o1.p1.2.2 (by decide)) ?_
  obtain ⟨S2, e2⟩ : ∃ S2, S2 = srow S1 (x.2 1) (va_cpy (gr S1 (y.2 1)) (gr S1 (x.2 1)) 0 0 20) := ⟨_, rfl⟩
  rw [← e2]
  have v2 := v1.row 1 o1 (by decide) e2
  have f2 := f1.row' e2 (uFp_r x (show 1 < 4 by decide))
  have o2 := h.fr f2
  have y2 := hy.fr f2
  refine wp_gb y2.p2.1 (wp_gb o2.p2.1 ?_)
  refine wp_gb (c_copyRow y2.p2.2.1 o2.p2.2.1 y2.p2.2.2 o2.p2.2.2 (by decide)) ?_
  obtain ⟨S3, e3⟩ : ∃ S3, S3 = srow S2 (x.2 2) (va_cpy (gr S2 (y.2 2)) (gr S2 (x.2 2)) 0 0 32) := ⟨_, rfl⟩
  rw [← e3]
  have v3 := v2.row 2 o2 (by decide) e3
  have f3 := f2.row' e3 (uFp_r x (show 2 < 4 by decide))
  have o3 := h.fr f3
  have y3 := hy.fr f3
  refine wp_gb y3.p3.1 (wp_gb o3.p3.1 ?_)
  refine wp_gb (c_copyRow y3.p3.2.1 o3.p3.2.1 y3.p3.2.2 o3.p3.2.2 (by decide)) ?_
  obtain ⟨S4, e4⟩ : ∃ S4, S4 = srow S3 (x.2 3) (va_cpy (gr S3 (y.2 3)) (gr S3 (x.2 3)) 0 0 32) := ⟨_, rfl⟩
  rw [← e4]
  have v4 := v3.row 3 o3 (by decide) e4
  have f4 := f3.row' e4 (uFp_r x (show 3 < 4 by decide))
  refine wp_glt fun S5 e5 => wp_glt fun S6 e6 => wp_glt fun S7 e7 => wp_glt fun S8 e8 => wp_glt fun S9 e9 => wp_glt fun SA eA => wp_glt fun SB eB => wp_glt fun SC eC => wp_ret ?_
  have v5 := v4.I 0 e5
  have f5 := f4.I' e5 (uFp_0 x)
  have v6 := v5.I 1 e6
  have f6 := f5.I' e6 (uFp_0 x)
  have v7 := v6.I 2 e7
  have f7 := f6.I' e7 (uFp_0 x)
  have v8 := v7.I 3 e8
  have f8 := f7.I' e8 (uFp_0 x)
  have v9 := v8.I 4 e9
  have f9 := f8.I' e9 (uFp_0 x)
  have vA := v9.I 5 eA
  have fA := f9.I' eA (uFp_0 x)
  have vB := vA.I 6 eB
  have fB := fA.I' eB (uFp_0 x)
  have vC := vB.I 7 eC
  have fC := fB.I' eC (uFp_0 x)
  refine ⟨fC, fun U hU hR => ?_⟩
  have hy0 := hd y.1 (uFp_0 y)
  have q1 := (f1.1 _ (hd _ (uFp_r y (show 1 < 4 by decide)))).2
  have q2 := (f2.1 _ (hd _ (uFp_r y (show 2 < 4 by decide)))).2
  have q3 := (f3.1 _ (hd _ (uFp_r y (show 3 < 4 by decide)))).2
  refine uR.of vC (fun f hf => ?_) (fun k t hk => ?_) (fun c hc => ?_)
  · have hf' : f = 0 ∨ f = 1 ∨ f = 2 ∨ f = 3 ∨ f = 4 ∨ f = 5 ∨ f = 6 ∨ f = 7 := by omega
    rcases hf' with rfl | rfl | rfl | rfl | rfl | rfl | rfl | rfl
    · exact ((f4.1 _ hy0).1 10).trans (hR.1 0 (by decide))
    · exact ((f5.1 _ hy0).1 11).trans (hR.1 1 (by decide))
    · exact ((f6.1 _ hy0).1 12).trans (hR.1 2 (by decide))
    · exact ((f7.1 _ hy0).1 13).trans (hR.1 3 (by decide))
    · exact ((f8.1 _ hy0).1 14).trans (hR.1 4 (by decide))
    · exact ((f9.1 _ hy0).1 15).trans (hR.1 5 (by decide))
    · exact ((fA.1 _ hy0).1 16).trans (hR.1 6 (by decide))
    · exact ((fB.1 _ hy0).1 17).trans (hR.1 7 (by decide))
  · have hkl := (List.getElem?_eq_some_iff.mp hk).1
    show va_cpy (gr S (y.2 0)) (gr S (x.2 0)) 0 0 20 k = nI t.1 ∧ va_cpy (gr S1 (y.2 1)) (gr S1 (x.2 1)) 0 0 20 k = trw t
    rw [va_cpy0 (by omega), va_cpy0 (by omega), q1]
    exact hR.2.1 k t hk
  · show va_cpy (gr S2 (y.2 2)) (gr S2 (x.2 2)) 0 0 32 c = nI (ct U.2 c) ∧ va_cpy (gr S3 (y.2 3)) (gr S3 (x.2 3)) 0 0 32 c = sm U.2 c
    rw [va_cpy0 hc, va_cpy0 hc, q2, q3]
    exact hR.2.2 c hc
theorem bFp_0 (x : gBA) : x.1 ∈ bFp x := List.mem_cons_self
/-- seven numbers written -/
theorem bR.nums {S S' : gS} {x : gBA} {n : Nat → Int32} (hu : ∀ i, i < 6 → uR S' (x.2.2 i) (M.2 i)) (h : gI S' 0 x.1 = n 0 ∧ gI S' 1 x.1 = n 1 ∧ gI S' 2 x.1 = n 2 ∧ gI S' 3 x.1 = n 3 ∧ gI S' 4 x.1 = n 6 ∧ gI S' 5 x.1 = n 4 ∧ gI S' 6 x.1 = n 5) : bR S' x (n, M.2) := ⟨h, hu⟩
theorem c_copy_L {x y : gBA} (hd : ∀ a ∈ bFp y, a ∉ bFp x) (hM : ∀ i, i < 6 → (M.2 i).2.length ≤ 20) : ∀ (n k : Nat) (S : gS), bOk G S x → bOk G S y → k ≤ 6 → 6 - k < n → bR S y M → (∀ i, i < k → uR S (x.2.2 i) (M.2 i)) → wp (f_X1_copyFrom_L2 G x.1 y.1 n (nI k) S) (fun S' => bR S' x M ∧ gFr (bFp x) S S') := by
  intro n
  induction n with
  | zero => intro k S _ _ _ hn; omega
  | succ n ih =>
    intro k S hx hy hk hn hR hu
    rw [f_X1_copyFrom_L2]
    refine wp_gd hx.1.1 (wp_gb hx.1.2.1 (wp_gd hx.1.2.2.1 ?_))
    rw [hx.1.2.2.2.1, show Int32.ofNat 6 = nI 6 from rfl]
    by_cases c : 6 ≤ k
    · refine wp_t (nI_le c (by omega)) (wp_gd hy.1.1 ?_)
      refine wp_glt fun S1 e1 => wp_glt fun S2 e2 => wp_glt fun S3 e3 => wp_glt fun S4 e4 => wp_glt fun S5 e5 => wp_glt fun S6 e6 => wp_glt fun S7 e7 => wp_ret ?_
      have hne : y.1 ≠ x.1 := fun q => hd y.1 (bFp_0 y) (q ▸ bFp_0 x)
      have hf : gFr [x.1] S S7 := (((((((gFr.rfl' (S := S)).I' e1 List.mem_cons_self).I' e2 List.mem_cons_self).I' e3 List.mem_cons_self).I' e4 List.mem_cons_self).I' e5 List.mem_cons_self).I' e6 List.mem_cons_self).I' e7 List.mem_cons_self
      obtain ⟨⟨g0, g1, g2, g3, g4, g5, g6⟩, gu⟩ := hR
      refine ⟨⟨?_, fun i hi => (hu i (by omega)).fr hf (fun a ha q => hx.parts.1 i hi (by rw [List.mem_singleton.mp q] at ha; exact ha))⟩, hf.mono (fun a ha => by rw [List.mem_singleton.mp ha]; exact bFp_0 x)⟩
      subst e1 e2 e3 e4 e5 e6 e7
      simp only [gI_sI, hne, and_false, if_false, and_true, if_true, Nat.reduceEqDiff, g0, g1, g2, g3, g4, g5, g6, and_self]
    · refine wp_f (nI_ge (by omega) (by decide)) (wp_gd hy.1.1 (wp_gb hy.1.2.1 (wp_gd hy.1.2.2.1 ?_)))
      rw [hy.1.2.2.2.1, show Int32.ofNat 6 = nI 6 from rfl]
      refine wp_f (nI_ge (by omega) (by decide)) (wp_gb hx.1.2.1 (wp_gd hx.1.2.2.1 ?_))
      rw [hx.1.2.2.2.1, nI_clamp (by omega)]
      refine wp_gd (vp_nI (by omega) (by decide)) (wp_gb (hx.1.2.2.2.2 k (by omega)).1 (wp_gb hy.1.2.1 (wp_gd hy.1.2.2.1 ?_)))
      rw [hy.1.2.2.2.1]
      refine wp_gd (vp_nI (by omega) (by decide)) (wp_gb (hy.1.2.2.2.2 k (by omega)).1 (wp_gd (hx.u (by omega)).1.1 ?_))
      refine wp_gbw (c_ucopy (hx.u (i := k) (by omega)) (hy.u (by omega)) (fun a ha q => hd a (uFp_b (by omega) ha) (uFp_b (by omega) q))) ?_
      rintro S1 ⟨f1, hU⟩
      refine wp_glt (fun z e => ?_)
      rw [nI_1] at e
      subst e
      have fb : gFr (bFp x) S S1 := f1.mono (fun a ha => uFp_b (by omega) ha)
      refine wp_mono (ih (k + 1) S1 (hx.fr fb) (hy.fr fb) (by omega) (by omega) (hR.fr fb hd) (fun i hi => ?_)) (fun S' h' => ⟨h'.1, fb.trans h'.2⟩)
      by_cases q : i = k
      · subst q
        exact hU _ (hM i (by omega)) (hR.2 i (by omega))
      · exact (hu i (by omega)).fr f1 (hx.parts.2.2 i k (by omega) (by omega) q)
theorem c_copy {x y : gBA} (hx : bOk G S x) (hy : bOk G S y) (hd : ∀ a ∈ bFp y, a ∉ bFp x) (hM : ∀ i, i < 6 → (M.2 i).2.length ≤ 20) (hR : bR S y M) : wp (f_X1_copyFrom G x.1 y.1 S) (fun S' => bR S' x M ∧ gFr (bFp x) S S') :=
  c_copy_L hd hM gN 0 S hx hy (by omega) (by rw [gN_e]; omega) hR (fun i hi => absurd hi (Nat.not_lt_zero i))
-- an umbrella by its number
theorem c_uat (h : bOk G S x) {c : Nat} (hc : gI S 0 x.1 = nI c) (h6 : c ≤ 6) {i : Nat} {a : Int32} (ha : a = nI i) (hi : i < c) : f_X1_umbrellaAt G x.1 a S = some (.inr (x.2.2 i).1) := by
  subst ha
  unfold f_X1_umbrellaAt
  rw [if_neg (nI_pos (by omega)), gd_i h.1.1, hc, if_neg (nI_ge hi (by omega)), h.1.2.1, gb_S, gd_i h.1.2.2.1, h.1.2.2.2.1, show Int32.ofNat 6 = nI 6 from rfl, if_pos (nI_lt (by omega) (by decide)), gb_S, gd_i h.1.2.2.1, h.1.2.2.2.1, gd_i (vp_nI (by omega) (by decide)), nI_clamp (by omega), (h.1.2.2.2.2 i (by omega)).1, gb_S]
theorem c_uatE (h : bOk G S x) {c : Nat} (hc : gI S 0 x.1 = nI c) {a : Int32} (ha : a < 0 ∨ nI c ≤ a) : f_X1_umbrellaAt G x.1 a S = some (.inl "java/lang/IndexOutOfBoundsException") := by
  unfold f_X1_umbrellaAt
  by_cases q : a < 0
  · rw [if_pos q]
  · rw [if_neg q, gd_i h.1.1, hc, if_pos (ha.resolve_left q)]
end CB
