/-! the start: the world that the constructors leave -/
def mB0 : mB := (fun k => if k = 1 then 2 else if k = 2 then 3 else 0, fun _ => mU0)
def mX0 : mX := ((mB0, mB0, []), (false, -1, -1), ([], []))
theorem bW0 : bW 0 mB0 := by
  refine ⟨⟨rfl, by decide⟩, ⟨2, by decide, rfl⟩, ⟨3, by decide, rfl⟩, fun i hi => absurd hi (Nat.not_lt_zero _), fun _ _ => rfl, rfl⟩
theorem wX0 : wX 0 mX0 := ⟨bW0, fun q => (by cases q), ⟨Nat.zero_le _, fun M hm => (by cases hm)⟩, Or.inl rfl, Or.inl rfl, ⟨Nat.zero_le _, fun c hc => (by cases hc)⟩, Nat.zero_le _, fun c hc => (by cases hc)⟩
theorem nd_at {l : List Nat} (h : l.Nodup) {i j : Nat} (hi : i < l.length) (hj : j < l.length) (hn : i ≠ j) : l[i] ≠ l[j] := by
  have h1 : List.Pairwise (fun a b => a ≠ b) l := h
  rcases Nat.lt_or_gt_of_ne hn with q | q
  · exact List.pairwise_iff_getElem.mp h1 i j hi hj q
  · exact fun e => List.pairwise_iff_getElem.mp h1 j i hj hi q e.symm
theorem nd_7 {r : Nat → Nat} (h : [r 0, r 1, r 2, r 3, r 4, r 5, r 6].Nodup) : ∀ i j, i < 7 → j < 7 → i ≠ j → r i ≠ r j := by
  intro i j hi hj hn
  have hg : ∀ k (hk : k < 7), [r 0, r 1, r 2, r 3, r 4, r 5, r 6][k]'hk = r k := by
    intro k hk
    have hk' : k = 0 ∨ k = 1 ∨ k = 2 ∨ k = 3 ∨ k = 4 ∨ k = 5 ∨ k = 6 := by omega
    rcases hk' with rfl | rfl | rfl | rfl | rfl | rfl | rfl <;> rfl
  have := nd_at h (i := i) (j := j) hi hj hn
  rw [hg i hi, hg j hj] at this
  exact this
theorem nd_flat {bs : List gBA} (h : (bs.flatMap bFp).Nodup) : (∀ y ∈ bs, (bFp y).Nodup) ∧ ∀ b c (hb : b < bs.length) (hc : c < bs.length), b ≠ c → ∀ a ∈ bFp bs[b], a ∉ bFp bs[c] := by
  have h1 : List.Pairwise (fun a b => a ≠ b) (bs.flatMap bFp) := h
  obtain ⟨h6, h7⟩ := List.pairwise_flatMap.mp h1
  refine ⟨fun y hy => h6 y hy, fun b c hb hc hn a ha hq => ?_⟩
  rcases Nat.lt_or_gt_of_ne hn with q | q
  · exact List.pairwise_iff_getElem.mp h7 b c hb hc q a ha a hq rfl
  · exact List.pairwise_iff_getElem.mp h7 c b hc hb q a hq a ha rfl
theorem bR_0 {S : gS} {x : gBA} (h : bZe S x) : bR S x mB0 := by
  obtain ⟨h0, h1, h2, h3, h4, h5, h6, hu⟩ := h
  refine ⟨⟨h0, h1, h2, h3, h4, h5, h6⟩, fun i hi => ?_⟩
  obtain ⟨u1, u2⟩ := hu i hi
  exact ⟨fun f _ => u1 f, fun k t hk => (by cases hk), fun c _ => ⟨u2 2 (by decide) c, u2 3 (by decide) c⟩⟩
theorem wR_init {G : gG} {S : gS} {x m o oD hi s1 s2 : Nat} {bs : List gBA} {r : Nat → Nat} (hx : gis G 2 x) (hbs : bs.length = 11) (hV : ∀ y ∈ bs, bSh G S y ∧ bZe S y) (hnd : (bs.flatMap bFp).Nodup) (hi0 : hi ∉ bs.flatMap bFp) (ghi : gis G 8 hi) (nhi : gn G hi = 9)
    (px : gP S 5 x = (bs[0]?).map Prod.fst ∧ gP S 6 x = (bs[1]?).map Prod.fst ∧ gP S 7 x = some hi ∧ gP S 8 x = some s1 ∧ gP S 9 x = some s2) (ix : gI S 20 x = 0 ∧ gI S 21 x = 0 ∧ gI S 22 x = -1 ∧ gI S 23 x = -1) (hq : ∀ i, i < 9 → gq S hi i = (bs[2 + i]?).map Prod.fst) (h12 : s1 ≠ s2)
    (hm : gis G 3 m) (hr : ∀ j, j < 7 → gP S (10 + j) m = some (r j) ∧ gis G (g6k j) (r j) ∧ gn G (r j) = g6n j) (hrn : [r 0, r 1, r 2, r 3, r 4, r 5, r 6].Nodup) (im : gI S 37 m = -1 ∧ gI S 38 m = -1 ∧ ∀ f, f ≠ 7 → f ≠ 8 → gI S (30 + f) m = 0) (r0 : ∀ i, gr S (r 0) i = if i = 1 then 2 else if i = 2 then 3 else 0)
    (ho : gis G 10 o ∧ gn G o = 1) (hoD : gis G 11 oD ∧ gn G oD = 1) (dis : ∀ y ∈ bs.flatMap bFp, y ≠ x ∧ y ≠ m ∧ y ≠ o ∧ y ≠ oD ∧ ∀ j, j < 7 → r j ≠ y) (d2 : x ≠ m ∧ x ≠ o ∧ x ≠ oD ∧ m ≠ o ∧ m ≠ oD ∧ o ≠ oD ∧ ∀ j, j < 7 → r j ≠ x ∧ r j ≠ o ∧ r j ≠ oD) :
    wR G S [(s2, 16, []), (s1, 16, [])] ((x, hi, s1, s2), (m, o, oD), (fun b => bs.getD b (0, 0, fun _ => (0, fun _ => 0))), r) 0 mX0 := by
  obtain ⟨A, hA⟩ : ∃ A : aW, A = ((x, hi, s1, s2), (m, o, oD), (fun b => bs.getD b (0, 0, fun _ => (0, fun _ => 0))), r) := ⟨_, rfl⟩
  rw [← hA]
  have ea : ∀ b (hb : b < bs.length), aB A b = bs[b] := fun b hb => by
    rw [hA]
    show bs.getD b _ = _
    rw [List.getD_eq_getElem?_getD, List.getElem?_eq_getElem hb]
    rfl
  have ein : ∀ b, b < 11 → aB A b ∈ bs := fun b hb => by rw [ea b (by omega)]; exact List.getElem_mem _
  have ex : ax A = x := by rw [hA]; rfl
  have em : am A = m := by rw [hA]; rfl
  have eo : ao A = o := by rw [hA]; rfl
  have eoD : aoD A = oD := by rw [hA]; rfl
  have eh : ah A = hi := by rw [hA]; rfl
  have e1 : at1 A = s1 := by rw [hA]; rfl
  have e2 : at2 A = s2 := by rw [hA]; rfl
  have er : ar A = r := by rw [hA]; rfl
  have efst : ∀ b, b < 11 → (bs[b]?).map Prod.fst = some (aB A b).1 := fun b hb => by
    rw [ea b (by omega), List.getElem?_eq_getElem (show b < bs.length by omega)]
    rfl
  obtain ⟨n1, n2⟩ := nd_flat hnd
  have fin : ∀ b, b < 11 → ∀ a ∈ bFp (aB A b), a ∈ bs.flatMap bFp := fun b hb a ha => List.mem_flatMap.mpr ⟨_, ein b hb, ha⟩
  obtain ⟨p5, p6, p7, p8, p9⟩ := px
  obtain ⟨i20, i21, i22, i23⟩ := ix
  obtain ⟨j37, j38, j0⟩ := im
  obtain ⟨q1, q2, q3, q4, q5, q6, q7⟩ := d2
  have sh : wSh G S A := by
    refine ⟨⟨by rw [ex]; exact hx, by rw [ex, p5]; exact efst 0 (by decide), by rw [ex, p6]; exact efst 1 (by decide), by rw [ex, eh]; exact p7, by rw [eh]; exact ghi, by rw [eh]; exact nhi, by rw [ex, e1]; exact p8, by rw [ex, e2]; exact p9, by rw [e1, e2]; exact h12⟩, ⟨fun b hb => ⟨(hV _ (ein b hb)).1, n1 _ (ein b hb)⟩, fun b c hb hc hn a ha => ?_, fun b hb e => ?_⟩, ?_, fun b hb => ⟨fun q => ?_, fun q => ?_, fun q => ?_, fun q => ?_, fun j hj q => ?_⟩, ⟨by rw [ex, em]; exact q1, by rw [eo, eoD]; exact q6, fun j hj => by rw [er, eo, eoD]; exact (q7 j hj).2⟩, by rw [eo]; exact ho.1, by rw [eo]; exact ho.2, by rw [eoD]; exact hoD.1, by rw [eoD]; exact hoD.2, by rw [ex, eo]; exact q2, by rw [ex, eoD]; exact q3, by rw [em, eo]; exact q4, by rw [em, eoD]; exact q5, fun j hj => by rw [er, ex]; exact (q7 j hj).1⟩
    · rw [ea b (by omega)] at ha
      rw [ea c (by omega)]
      exact n2 b c (by omega) (by omega) hn a ha
    · refine hi0 ?_
      rw [← eh, ← e]
      exact fin b hb _ (List.mem_cons_of_mem _ List.mem_cons_self)
    · rw [em, er]
      exact ⟨hm, hr, nd_7 hrn⟩
    · exact (dis _ (fin b hb _ q)).1 ex
    · exact (dis _ (fin b hb _ q)).2.1 em
    · exact (dis _ (fin b hb _ q)).2.2.1 eo
    · exact (dis _ (fin b hb _ q)).2.2.2.1 eoD
    · exact (dis _ (fin b hb _ q)).2.2.2.2 j hj (by rw [er])
  have hT : tP [(s2, 16, []), (s1, 16, [])] A [] [] := by
    have t1 : tg [(s2, 16, []), (s1, 16, [])] s1 = some [] ∧ tc [(s2, 16, []), (s1, 16, [])] s1 = some 16 := by
      unfold tg tc
      rw [List.find?_cons, show (s2 == s1) = false from by simpa using Ne.symm h12, List.find?_cons, show (s1 == s1) = true from by simp]
      exact ⟨rfl, rfl⟩
    have t2 : tg [(s2, 16, []), (s1, 16, [])] s2 = some [] ∧ tc [(s2, 16, []), (s1, 16, [])] s2 = some 16 := by
      unfold tg tc
      rw [List.find?_cons, show (s2 == s2) = true from by simp]
      exact ⟨rfl, rfl⟩
    unfold tP tK gcap
    rw [e1, e2, t1.1, t1.2, t2.1, t2.2]
    exact ⟨rfl, rfl, ⟨Or.inl rfl, 16, rfl, Nat.zero_le _, rfl⟩, Or.inl rfl, 16, rfl, Nat.zero_le _, rfl⟩
  refine ⟨⟨sh, ⟨bR_0 (hV _ (ein 0 (by decide))).2, fun q => (by cases q), ?_, ⟨fun i => 2 + i, fun i hi => (by show 2 ≤ 2 + i ∧ 2 + i < 11; omega), fun i j _ _ hn => (by show 2 + i ≠ 2 + j; omega), fun i hi => ?_, fun k M hk => (by cases hk)⟩, hT⟩, ?_, ?_⟩, wX0⟩
  · rw [ex]
    exact ⟨i20, i21, i22, i23⟩
  · rw [eh, hq i hi]
    exact efst (2 + i) (by omega)
  · rw [er]
    refine ⟨fun k _ => r0 k, fun i hi => absurd hi (Nat.not_lt_zero _)⟩
  · unfold mO
    rw [em, er]
    refine ⟨fun q => (by cases q), ⟨j0 1 (by decide) (by decide), j0 3 (by decide) (by decide), j37, j38, j0 5 (by decide) (by decide), j0 4 (by decide) (by decide)⟩, ⟨0, by decide, j0 2 (by decide) (by decide), fun k M hk => (by cases hk)⟩, fun k c hk => (by cases hk), fun k c hk => (by cases hk)⟩
section NEWR
variable {K : gKx} {PX : va_W} {G : gG} {pc : Nat} {lv : List (Option Value)} {st : List Value} {S : gS} {T : gT} {c0 s0 d : Nat} {own : String} {cc : ByteArray}
theorem x_newL (g : Gd K own cc d) (hdg : decode cc pc = .ok (.newarray .long, 2)) (harr : Cond.arrayClass .long ∈ lw_tbl) (k : ∀ b : Nat, b ∉ gL G → Xj K PX (gadd G b 10 1) (pc + 2) lv (.ref b :: st) (sZ S b) T c0 s0) : Xj K PX G pc lv (.int 1 :: st) S T (c0 + 1) (s0 + 1) := by
  intro H locs cells slots ls Z h
  have hR := g.2.2.2.2.2.2
  have hb := h.2.2.2.2.2
  refine va_newa (D := kD K) (ty := .long) (N' := 1) (a0 := (1, .inr (.inl (fun _ => 0)))) g.1.1 g.1.2.1 (atype := .long) (g.tb harr rfl) rfl g.2.1.1 h.2.1 h.2.2.1 h.2.2.2.1 g.2.2.2.2.1 (fun cA => rfl) (by decide) rfl (by decide) (by rw [hR]; show _ ≤ kC K; omega) (by rw [hR]; show _ ≤ kS K; omega) hdg (fun q cA H1 hK hP hD hS => ?_)
  have hcA := gName (t := 5) (ty := .long) hK rfl
  have hq : q ∉ gL G := va_pl_fresh2 (X := PX ++ Z) (f := gce (ky K) G S) hD
  have ew : ((PX ++ Z) ++ gw (ky K) G S) ++ [(q, .inl (cA, 1, .inr (.inl (fun _ => 0))))] = (PX ++ Z) ++ gw (ky K) (gadd G q 10 1) (sZ S q) := by
    have er : (fun i => (gr (sZ S q) q i).toInt64) = fun _ => (0 : Int64) := funext fun i => by
      show (if q = q then (0 : Int32) else _).toInt64 = 0
      rw [if_pos rfl]
      rfl
    rw [gw_add hq, ← List.append_assoc, gce_l gK_add, gn_add, er, hcA]
  rw [ew] at hP hD
  exact k q hq H1 locs (cells + 1) (slots + 1) ls Z ⟨h.1, hP, hD, hS, h.2.2.2.2.1, by omega, by omega⟩
theorem x_newD (g : Gd K own cc d) (hdg : decode cc pc = .ok (.newarray .double, 2)) (harr : Cond.arrayClass .double ∈ lw_tbl) (k : ∀ b : Nat, b ∉ gL G → Xj K PX (gadd G b 11 1) (pc + 2) lv (.ref b :: st) (sZ S b) T c0 s0) : Xj K PX G pc lv (.int 1 :: st) S T (c0 + 1) (s0 + 1) := by
  intro H locs cells slots ls Z h
  have hR := g.2.2.2.2.2.2
  have hb := h.2.2.2.2.2
  refine va_newa (D := kD K) (ty := .double) (N' := 1) (a0 := (1, .inr (.inr (.inr (.inl (fun _ => 0)))))) g.1.1 g.1.2.1 (atype := .double) (g.tb harr rfl) rfl g.2.1.1 h.2.1 h.2.2.1 h.2.2.2.1 g.2.2.2.2.1 (fun cA => rfl) (by decide) rfl (by decide) (by rw [hR]; show _ ≤ kC K; omega) (by rw [hR]; show _ ≤ kS K; omega) hdg (fun q cA H1 hK hP hD hS => ?_)
  have hcA := gName (t := 6) (ty := .double) hK rfl
  have hq : q ∉ gL G := va_pl_fresh2 (X := PX ++ Z) (f := gce (ky K) G S) hD
  have ew : ((PX ++ Z) ++ gw (ky K) G S) ++ [(q, .inl (cA, 1, .inr (.inr (.inr (.inl (fun _ => 0))))))] = (PX ++ Z) ++ gw (ky K) (gadd G q 11 1) (sZ S q) := by
    have er : (fun i => gdb (gr (sZ S q) q (2 * i)) (gr (sZ S q) q (2 * i + 1))) = fun _ => (0 : UInt64) := funext fun i => by
      show gdb (if q = q then (0 : Int32) else _) (if q = q then (0 : Int32) else _) = 0
      rw [if_pos rfl, if_pos rfl]
      rfl
    rw [gw_add hq, ← List.append_assoc, gce_d gK_add, gn_add, er, hcA]
  rw [ew] at hP hD
  exact k q hq H1 locs (cells + 1) (slots + 1) ls Z ⟨h.1, hP, hD, hS, h.2.2.2.2.1, by omega, by omega⟩
end NEWR
