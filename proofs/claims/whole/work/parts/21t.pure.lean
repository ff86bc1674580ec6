/-! texts: both sides alike -/
section DH
variable {G : gG} {S : gS} {T : gT} {A : aW} {N : Nat} {X : mX} {α : Type}
/-- refused, by both sides -/
theorem t_no (h : wR G S T A N X) {cs : List String} {E : String} {b : α} {i : Nat} {F5 : Option ((String ⊕ α) × gS × gT)} {F6 : gS → Option (α × gS)} (h5 : F5 = some (.inl E, S, T)) (hE : cs[i]? = some E) (h6 : ∀ S', wC G S' T A X X → F6 S' = some (b, sI (sI S' 30 (am A) 0) 30 (am A) (nI (i + 1)))) : tStep G T A N X cs (fun res S1 T1 => F5 = some (res, S1, T1)) (fun S' b S2 => F6 S' = some (b, S2)) :=
  ⟨.inl E, S, T, X, h5, h.2.mono (by omega), h.1, fun S' hc => ⟨b, _, h6 S' hc, hc.z.f, oK.trans oK.I oK.I, i, hE, th_at⟩⟩
theorem wC.line {S' S2 : gS} {T1 : gT} {l : List Nat} (hc : wC G S' T1 A (xOut X l) X) (hq : qW (sI S' 30 (am A) 0) (am A) (ar A) l S2) : wC G S2 T1 A (xOut X l) (xOut X l) ∧ oK A S' S2 ∧ gI S2 30 (am A) = 0 := by
  obtain ⟨q1, q2, q3, q4⟩ := hq
  have c1 := hc.I (S' := sI S' 30 (am A) 0) rfl (Or.inl rfl)
  have hn : ∀ j, j < 7 → j ≠ 4 → ar A j ∉ [am A, ar A 4] := fun j hj h4 => by
    have h1 := mSh.ne c1.1.2.2.1 hj
    have h2 := c1.1.2.2.1.2.2 j 4 hj (by decide) h4
    simp_all
  have hr : ∀ j, j < 7 → j ≠ 4 → gr S2 (ar A j) = gr (sI S' 30 (am A) 0) (ar A j) := fun j hj h4 => funext fun i => (q1.1 _ (hn j hj h4)).2 i
  have hin : ∀ a ∈ [am A, ar A 4], a = am A ∨ ∃ j, j < 7 ∧ a = ar A j := fun a ha => by
    rcases List.mem_cons.mp ha with z | z
    · exact Or.inl z
    · exact Or.inr ⟨4, by decide, List.mem_singleton.mp z⟩
  refine ⟨c1.ref q1 hin ?_ ?_, oK.trans oK.I (oK.ref c1.1 q1 hin), ?_⟩
  · rw [hr 0 (by decide) (by decide)]
    exact c1.2.2.1
  · obtain ⟨m1, ⟨n1, n2, n3, n4, n5, n6⟩, ⟨fc, f1, f2, f3⟩, m4, m5⟩ := c1.2.2.2
    refine ⟨?_, ⟨?_, ?_, ?_, ?_, ?_, q3⟩, ⟨fc, f1, ?_, ?_⟩, ?_, q4⟩
    · rw [hr 2 (by decide) (by decide)]; exact m1
    · rw [q2 31 (by decide)]; exact n1
    · rw [q2 33 (by decide)]; exact n2
    · rw [q2 37 (by decide)]; exact n3
    · rw [q2 38 (by decide)]; exact n4
    · rw [q2 35 (by decide)]; exact n5
    · rw [q2 32 (by decide)]; exact f2
    · rw [hr 1 (by decide) (by decide)]; exact f3
    · rw [hr 5 (by decide) (by decide)]; exact m4
  · rw [q2 30 (by decide), gI_sI, if_pos ⟨rfl, rfl⟩]
/-- a line, by both sides -/
theorem t_line (h : wR G S T A N X) {cs : List String} {F5 : Option ((String ⊕ Int32) × gS × gT)} {F6 : gS → Option (Int32 × gS)} {l : List Nat} {v : Int32} (h5 : wp F5 (fun y => y.1 = .inr v ∧ y.2.1 = S ∧ tP y.2.2 A X.2.2.1 l)) (hl : l.length ≤ 60) (hl2 : ∀ c ∈ l, c < 128)
    (h6 : ∀ Y S' T1, wC G S' T1 A Y X → wp (F6 S') (fun y => y.1 = v ∧ qW (sI S' 30 (am A) 0) (am A) (ar A) l y.2)) : tStep G T A N X cs (fun res S1 T1 => F5 = some (res, S1, T1)) (fun S' b S2 => F6 S' = some (b, S2)) := by
  obtain ⟨⟨r, S1, T1⟩, e, e1, e2, e3⟩ := h5
  have e1 : r = .inr v := e1
  have e2 : S1 = S := e2
  have e3 : tP T1 A X.2.2.1 l := e3
  subst e1 e2
  obtain ⟨hc, hW⟩ := h
  refine ⟨_, _, T1, xOut X l, e, ?_, hc.t e3, fun S' hc' => ?_⟩
  · obtain ⟨w1, w2, w3, w4, w5, w6, w7⟩ := hW.mono (show N ≤ N + 40000 by omega)
    exact ⟨w1, w2, w3, w4, w5, w6, hl, hl2⟩
  · obtain ⟨⟨b, S2⟩, g1, g2, g3⟩ := h6 _ S' T1 hc'
    have g3 : qW (sI S' 30 (am A) 0) (am A) (ar A) l S2 := g3
    obtain ⟨g4, gk, g5⟩ := hc'.line g3
    exact ⟨b, S2, g1, g4, gk, g5, g2⟩
theorem qW0 {m : Nat} {r : Nat → Nat} {S : gS} : qW S m r [] (sI S 34 m 0) := by
  refine ⟨gFr.rfl'.I (by simp), fun f hf => ?_, ?_, fun k c hk => ?_⟩
  · rw [gI_sI, if_neg (fun q => hf q.1)]
  · rw [gI_sI, if_pos ⟨rfl, rfl⟩]; rfl
  · cases hk
theorem ua_tT (h : wR G S T A N X) {u : Nat} {a : Int32} (ha : a = nI u) (hu : u < mc X.1.1) {F : Nat → Option ((String ⊕ α) × gS × gT)} : (gd (gis G 2 (ax A)) <| gb (gP S 5 (ax A)) fun b => gd (gis G 0 b) <| gbx1 (f_X1_umbrellaAt G b a S) (fun E => some (.inl E, S, T)) fun r => F r) = F ((aB A 0).2.2 u).1 := by
  have hb := h.1.1.2.1.1 0 (by decide)
  rw [gd_i h.1.1.1.1, h.1.1.1.2.1, gb_S, gd_i hb.1.1, c_at hb h.1.2.1.1 h.2.1 ha hu, gbx1_R]
theorem ua_fT (h : wR G S T A N X) {a : Int32} (ha : mUmb X.1.1 a = false) {F : Nat → Option ((String ⊕ α) × gS × gT)} : (gd (gis G 2 (ax A)) <| gb (gP S 5 (ax A)) fun b => gd (gis G 0 b) <| gbx1 (f_X1_umbrellaAt G b a S) (fun E => some (.inl E, S, T)) fun r => F r) = some (.inl eIO, S, T) := by
  have hb := h.1.1.2.1.1 0 (by decide)
  rw [gd_i h.1.1.1.1, h.1.1.1.2.1, gb_S, gd_i hb.1.1, c_uatE hb (h.1.2.1.1.cnt h.2.1) (mUmb_f h.2.1 ha), gbx1_L]
theorem x_rHabits (h : wR G S T A N X) (a : Int32) : tStep G T A N X [eIO] (fun res S1 T1 => f_X5_renderHabits G (ax A) a S T = some (res, S1, T1)) (fun S' b S2 => f_X6_renderHabits G (am A) a S' = some (b, S2)) := by
  have h6 := h.2.1.1.2
  cases hu : mUmb X.1.1 a with
  | false =>
    refine t_no h (i := 0) (b := 0) (ua_fT h hu) rfl (fun S' hc => ?_)
    unfold f_X6_renderHabits
    rw [gd_i hc.m.1, glt_S, n_umb hc.z.m hc.z.2.2.1, hu, gb_S, if_pos (show gz false = 0 from rfl), fails_eq hc.m.1, gb2_S]
    rfl
  | true =>
    obtain ⟨u, u1, u2, u3⟩ := mUmb_t h.2.1 hu
    subst u2
    have hU := (h.1.1.2.1.1 0 (by decide)).u (i := u) (by omega)
    have hUW := h.2.1.2.2.2.1 u u1
    refine t_line h (l := mHt (mHab (X.1.1.2 u).2) 16) (v := nI (mHt (mHab (X.1.1.2 u).2) 16).length) ?_ ?_ (mHt_lt _ _) (fun Y S' T1 hc => ?_)
    · unfold f_X5_renderHabits
      rw [ua_tT h rfl u1]
      refine wp_gb h.1.1.1.2.2.2.2.2.2.2.1 (wp_gb h.1.P.2.1 (wp_glt (fun T1 e1 => ?_)))
      have p0 : tP T1 A X.2.2.1 [] := by rw [e1]; exact h.1.P.put2 h.1.1.1.2.2.2.2.2.2.2.2 (by decide) (by show 0 ≤ _; omega)
      exact c_hb_L h.1.1 hU (h.1.2.1.1.2 u (by omega)) hUW gN 0 T1 p0 (by decide) (by rw [gN_e]; omega)
    · have := mHt_len (mHab (X.1.1.2 u).2) 16
      omega
    · have hz := hc.I (S' := sI S' 30 (am A) 0) rfl (Or.inl rfl)
      unfold f_X6_renderHabits
      refine wp_gd hc.1.2.2.1.1 (wp_glt (fun S1 e1 => wp_gb (n_umb (e1 ▸ hz.1.2.2.1) (e1 ▸ hz.2.2.1) _) ?_))
      rw [hu]
      refine wp_f (by decide) (wp_glt (fun S2 e2 => ?_))
      rw [← e1]
      exact q_hb_L (e1 ▸ hz.1.2.2.1) (by omega) ((e1 ▸ hz.2.2.1 : rowR (gr S1 (ar A 0)) X.1.1).2 u u1) hUW gN 0 S2 (by rw [e2]; exact qW0) (by decide) (by rw [gN_e]; omega)
/-- an umbrella's line -/
def mLine (U : mU) (per s : Nat) (cap : Nat) : List Nat := (((((((gdec U.2.length ++ [47]) ++ gdec cap) ++ [112]) ++ gdec per) ++ [42]) ++ gdec s) ++ [58]) ++ mXt (mHas (U.1 7)) 4
theorem len_dec (l : List Nat) (v : Nat) : (l ++ gdec v).length ≤ l.length + 10 := by
  rw [List.length_append, gdec_len]
  have := (sb_dg_in v).2
  omega
theorem len_one (l : List Nat) (c : Nat) : (l ++ [c]).length = l.length + 1 := by rw [List.length_append]; rfl
theorem lt_app {l k : List Nat} (h1 : ∀ c ∈ l, c < 128) (h2 : ∀ c ∈ k, c < 128) : ∀ c ∈ l ++ k, c < 128 := fun c hc => by
  rcases List.mem_append.mp hc with q | q
  · exact h1 c q
  · exact h2 c q
theorem lt_one {x : Nat} (h : x < 128) : ∀ c ∈ [x], c < 128 := fun c hc => by rw [List.mem_singleton.mp hc]; exact h
theorem x_rUmb (h : wR G S T A N X) (hN : N + 40000 ≤ 2 ^ 30) (a : Int32) : tStep G T A N X [eIO] (fun res S1 T1 => f_X5_renderUmbrella G (ax A) a S T = some (res, S1, T1)) (fun S' b S2 => f_X6_renderUmbrella G (am A) a S' = some (b, S2)) := by
  have h6 := h.2.1.1.2
  cases hu : mUmb X.1.1 a with
  | false =>
    refine t_no h (i := 0) (b := 0) (ua_fT h hu) rfl (fun S' hc => ?_)
    unfold f_X6_renderUmbrella
    rw [gd_i hc.m.1, glt_S, n_umb hc.z.m hc.z.2.2.1, hu, gb_S, if_pos (show gz false = 0 from rfl), fails_eq hc.m.1, gb2_S]
    rfl
  | true =>
    obtain ⟨u, u1, u2, u3⟩ := mUmb_t h.2.1 hu
    subst u2
    have hU := (h.1.1.2.1.1 0 (by decide)).u (i := u) (by omega)
    have hR := h.1.2.1.1.2 u (by omega)
    have hUW := h.2.1.2.2.2.1 u u1
    obtain ⟨⟨cap, c1, c2, c3, c4⟩, ⟨per, p1, p2⟩, r1, -, -, ⟨s, s1, s2⟩, -⟩ := id hUW
    have i3 : gI S 13 ((aB A 0).2.2 u).1 = nI (X.1.1.2 u).2.length := (hR.1 3 (by decide)).trans r1
    have i0 : gI S 10 ((aB A 0).2.2 u).1 = nI cap := (hR.1 0 (by decide)).trans c1
    have i1 : gI S 11 ((aB A 0).2.2 u).1 = nI per := (hR.1 1 (by decide)).trans p1
    have i6 : gI S 16 ((aB A 0).2.2 u).1 = nI s := (hR.1 6 (by decide)).trans s2
    have s9 := h.1.1.1.2.2.2.2.2.2.2.1
    have g1 : gis G 1 ((aB A 0).2.2 u).1 := hU.1.1
    obtain ⟨L1, hL1⟩ : ∃ l, l = gdec (X.1.1.2 u).2.length := ⟨_, rfl⟩
    have n1 : L1.length ≤ 10 := by rw [hL1]; exact len_dec [] _
    obtain ⟨L2, hL2⟩ : ∃ l, l = L1 ++ [47] := ⟨_, rfl⟩
    have n2 : L2.length = L1.length + 1 := by rw [hL2]; exact len_one _ _
    obtain ⟨L3, hL3⟩ : ∃ l, l = L2 ++ gdec cap := ⟨_, rfl⟩
    have n3 : L3.length ≤ L2.length + 10 := by rw [hL3]; exact len_dec _ _
    obtain ⟨L4, hL4⟩ : ∃ l, l = L3 ++ [112] := ⟨_, rfl⟩
    have n4 : L4.length = L3.length + 1 := by rw [hL4]; exact len_one _ _
    obtain ⟨L5, hL5⟩ : ∃ l, l = L4 ++ gdec per := ⟨_, rfl⟩
    have n5 : L5.length ≤ L4.length + 1 := by rw [hL5, List.length_append, gdec1 (by omega)]; exact Nat.le_refl _
    obtain ⟨L6, hL6⟩ : ∃ l, l = L5 ++ [42] := ⟨_, rfl⟩
    have n6 : L6.length = L5.length + 1 := by rw [hL6]; exact len_one _ _
    obtain ⟨L7, hL7⟩ : ∃ l, l = L6 ++ gdec s := ⟨_, rfl⟩
    have n7 : L7.length ≤ L6.length + 10 := by rw [hL7]; exact len_dec _ _
    obtain ⟨L8, hL8⟩ : ∃ l, l = L7 ++ [58] := ⟨_, rfl⟩
    have n8 : L8.length = L7.length + 1 := by rw [hL8]; exact len_one _ _
    have nx := mXt_len (mHas ((X.1.1.2 u).1 7)) 4
    refine t_line h (l := L8 ++ mXt (mHas ((X.1.1.2 u).1 7)) 4) (v := nI (L8 ++ mXt (mHas ((X.1.1.2 u).1 7)) 4).length) ?_ ?_ ?_ (fun Y S' T1 hc => ?_)
    · unfold f_X5_renderUmbrella
      rw [ua_tT h rfl u1]
      refine wp_gb s9 (wp_gb h.1.P.2.1 (wp_glt (fun T0 e1 => ?_)))
      have p0 : tP T0 A X.2.2.1 [] := by rw [e1]; exact h.1.P.put2 h.1.1.1.2.2.2.2.2.2.2.2 (by decide) (by show 0 ≤ _; omega)
      refine wp_gb s9 (wp_gd g1 (c_putn h.1.1 p0 i3 (by omega) (by decide) (fun T1 t1 => ?_)))
      rw [List.nil_append, ← hL1] at t1
      refine wp_gb s9 (c_putc h.1.1 t1 (c := 47) rfl (by decide) (by omega) (fun T2 t2 => ?_))
      rw [← hL2] at t2
      refine wp_gb s9 (c_putn h.1.1 t2 i0 (by omega) (by omega) (fun T3 t3 => ?_))
      rw [← hL3] at t3
      refine wp_gb s9 (c_putc h.1.1 t3 (c := 112) rfl (by decide) (by omega) (fun T4 t4 => ?_))
      rw [← hL4] at t4
      refine wp_gb s9 (c_putn h.1.1 t4 i1 (by omega) (by omega) (fun T5 t5 => ?_))
      rw [← hL5] at t5
      refine wp_gb s9 (c_putc h.1.1 t5 (c := 42) rfl (by decide) (by omega) (fun T6 t6 => ?_))
      rw [← hL6] at t6
      refine wp_gb s9 (c_putn h.1.1 t6 i6 (by omega) (by omega) (fun T7 t7 => ?_))
      rw [← hL7] at t7
      refine wp_gb s9 (c_putc h.1.1 t7 (c := 58) rfl (by decide) (by omega) (fun T8 t8 => ?_))
      rw [← hL8] at t8
      exact c_xt_L h.1.1 hU hR (by omega) gN 0 T8 (by rw [mXt, List.append_nil]; exact t8) (by decide) (by rw [gN_e]; omega)
    · rw [List.length_append]
      omega
    · have q1 := lt_app (hL1 ▸ gdec_lt (X.1.1.2 u).2.length) (lt_one (x := 47) (by decide))
      rw [← hL2] at q1
      have q3 := lt_app (lt_app q1 (gdec_lt cap)) (lt_one (x := 112) (by decide))
      rw [← hL3, ← hL4] at q3
      have q5 := lt_app (lt_app q3 (gdec_lt per)) (lt_one (x := 42) (by decide))
      rw [← hL5, ← hL6] at q5
      have q7 := lt_app (lt_app q5 (gdec_lt s)) (lt_one (x := 58) (by decide))
      rw [← hL7, ← hL8] at q7
      exact lt_app q7 (mXt_lt _ 4 (by decide))
    · have hz := hc.I (S' := sI S' 30 (am A) 0) rfl (Or.inl rfl)
      obtain ⟨S1, e1⟩ : ∃ S1, S1 = sI S' 30 (am A) 0 := ⟨_, rfl⟩
      rw [← e1] at hz
      have hm := hz.1.2.2.1
      have hr := hz.2.2.1.2 u u1
      have h0 : ar A 0 ∉ [am A, ar A 4] := by
        have := mSh.ne hm (show 0 < 7 by decide)
        have := hm.2.2 0 4 (by decide) (by decide) (by decide)
        simp_all
      have of : ∀ (l : List Nat) (S2 : gS) (k : Nat) (b : Int32), qW S1 (am A) (ar A) l S2 → k < 8 → b = nI k → f_X6_of G (am A) (nI u) b S2 = some ((X.1.1.2 u).1 k) := fun l S2 k b q2 hk hb => by
        rw [q_of (hm.fr q2.1) rfl hb (by omega), (q2.1.1 _ h0).2, hr.1 k hk]
      unfold f_X6_renderUmbrella
      rw [gd_i hc.1.2.2.1.1, ← e1, glt_S, n_umb hm hz.2.2.1, gb_S, hu, if_neg (by decide)]
      refine wp_glt (fun S2 e2 => ?_)
      have w0 : qW S1 (am A) (ar A) [] S2 := by rw [e2]; exact qW0
      refine wp_gb (of _ _ 3 _ w0 (by decide) rfl) (wp_gbw (q_number hm r1 (by omega) w0 (by decide)) (fun S3 w1 => ?_))
      rw [List.nil_append, ← hL1] at w1
      refine wp_gbw (q_writes hm w1 (by omega) (c := 47) rfl (by decide)) (fun S4 w2 => ?_)
      rw [← hL2] at w2
      refine wp_gb (of _ _ 0 _ w2 (by decide) rfl) (wp_gbw (q_number hm c1 (by omega) w2 (by omega)) (fun S5 w3 => ?_))
      rw [← hL3] at w3
      refine wp_gbw (q_writes hm w3 (by omega) (c := 112) rfl (by decide)) (fun S6 w4 => ?_)
      rw [← hL4] at w4
      refine wp_gb (of _ _ 1 _ w4 (by decide) rfl) (wp_gbw (q_number hm p1 (by omega) w4 (by omega)) (fun S7 w5 => ?_))
      rw [← hL5] at w5
      refine wp_gbw (q_writes hm w5 (by omega) (c := 42) rfl (by decide)) (fun S8 w6 => ?_)
      rw [← hL6] at w6
      refine wp_gb (of _ _ 6 _ w6 (by decide) rfl) (wp_gbw (q_number hm s2 (by omega) w6 (by omega)) (fun S9 w7 => ?_))
      rw [← hL7] at w7
      refine wp_gbw (q_writes hm w7 (by omega) (c := 58) rfl (by decide)) (fun S10 w8 => ?_)
      rw [← hL8] at w8
      exact q_xt_L hm (by omega) hr hUW (by omega) gN 0 S10 (by rw [mXt, List.append_nil]; exact w8) (by decide) (by rw [gN_e]; omega)
end DH
