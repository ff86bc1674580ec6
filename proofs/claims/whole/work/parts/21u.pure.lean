/-! a character typed, a character of the line -/
section DI
variable {G : gG} {S : gS} {T : gT} {A : aW} {N : Nat} {X : mX}
theorem wC.m4 {S' : gS} {Y : mX} (h : wC G S' T A Y X) : gP S' 14 (am A) = some (ar A 4) ∧ gis G 6 (ar A 4) ∧ gn G (ar A 4) = 60 := h.1.2.2.1.2.1 4 (by decide)
theorem wC.m5 {S' : gS} {Y : mX} (h : wC G S' T A Y X) : gP S' 15 (am A) = some (ar A 5) ∧ gis G 6 (ar A 5) ∧ gn G (ar A 5) = 60 := h.1.2.2.1.2.1 5 (by decide)
theorem x_outAt (h : wR G S T A N X) (a : Int32) : tAsk G S T A X [eIO] (f_X5_outputAt G (ax A) a S T) (f_X6_outputAt G (am A) a) := by
  have s9 := h.1.1.1.2.2.2.2.2.2.2.1
  obtain ⟨-, -, -, -, -, -, hl, hlt⟩ := h.2
  have six : ∀ S', wC G S' T A X X → f_X6_outputAt G (am A) a S' = if gz (mBtw a 0 (nI X.2.2.2.length - 1)) = 0 then some (0, sI (sI S' 30 (am A) 0) 30 (am A) 1) else (gd (vp_in a 60) <| gd (narrow .char (.int (gr S' (ar A 4) a.toNatClampNeg)) = .int (gr S' (ar A 4) a.toNatClampNeg)) <| some (gr S' (ar A 4) a.toNatClampNeg, sI S' 30 (am A) 0)) := by
    intro S' hc
    have e34 : gI (sI S' 30 (am A) 0) 34 (am A) = nI X.2.2.2.length := hc.z.2.2.2.2.1.2.2.2.2.2
    obtain ⟨m1, m2, m3⟩ := hc.z.m4
    unfold f_X6_outputAt
    rw [gd_i hc.m.1, glt_S, e34, q_isB, gb_S, fails_eq hc.m.1, gb2_S, m1, gb_S, gd_i m2, m3]
    show (if gz (mBtw a 0 (nI X.2.2.2.length - 1)) = 0 then (gd (narrow .char (.int (nI 0)) = .int (nI 0)) <| some (nI 0, _)) else _) = _
    rw [gd_i (narc (by decide))]
    rfl
  rcases i_cases a (n := X.2.2.2.length) (by omega) with ⟨j, hj, rfl⟩ | hj
  · obtain ⟨c, hc1⟩ : ∃ c, X.2.2.2[j]? = some c := ⟨_, List.getElem?_eq_getElem hj⟩
    have hc2 : c < 128 := hlt c (List.mem_of_getElem? hc1)
    refine ⟨.inr (nI c), ?_, fun S' hc => ask_ok hc ?_⟩
    · have e : List.getD X.2.2.2 j 0 = c := by rw [List.getD_eq_getElem?_getD, hc1]; rfl
      unfold f_X5_outputAt
      rw [if_neg (nI_pos (by omega)), gd_i h.1.1.1.1, s9, gb_S, h.1.P.2.1, gb_S, if_pos (nI_lt hj (by omega)), gb_S, h.1.P.2.1, gb_S, gd_i (vp_nI hj (by omega)), nI_clamp (by omega), e, gd_i (narc hc2)]
    · have er : gr S' (ar A 4) j = nI c := hc.2.2.2.2.2.2.2 j c hc1
      rw [six S' hc, show mBtw (nI j) 0 (nI X.2.2.2.length - 1) = true from decide_eq_true (b_in (by omega) hj), if_neg (by decide), gd_i (vp_nI (by omega) (by decide)), nI_clamp (by omega), er, gd_i (narc hc2)]
  · refine ⟨.inl eIO, ?_, fun S' hc => ask_no hc (i := 0) (b := (0 : Int32)) ?_ rfl⟩
    · unfold f_X5_outputAt
      rcases hj with q | q
      · rw [if_pos q]
      · by_cases q2 : a < 0
        · rw [if_pos q2]
        · rw [if_neg q2, gd_i h.1.1.1.1, s9, gb_S, h.1.P.2.1, gb_S, if_neg (Int32.not_lt.mpr q)]
    · rw [six S' hc, show mBtw a 0 (nI X.2.2.2.length - 1) = false from decide_eq_false (b_out (by omega) hj), if_pos (show gz false = 0 from rfl)]
      rfl
theorem x_type (h : wR G S T A N X) (a : Int32) : tStep G T A N X [eIA, eIS] (fun res S1 T1 => f_X5_type G (ax A) a S T = some (res, S1, T1)) (fun S' b S2 => f_X6_type G (am A) a S' = some (b, S2)) := by
  have s8 := h.1.1.1.2.2.2.2.2.2.1
  have hn := h.1.1.1.2.2.2.2.2.2.2.2
  have hW := h.2
  obtain ⟨-, -, -, -, -, ⟨hl, hlt⟩, -⟩ := h.2
  cases hb : mBtw a 32 126 with
  | false =>
    refine t_no h (i := 0) (E := eIA) (b := 0) ?_ rfl (fun S' hc => ?_)
    · unfold f_X5_type
      rw [c_isB, hb, gb_S, if_pos (show gz false = 0 from rfl)]
    · unfold f_X6_type
      rw [gd_i hc.m.1, glt_S, q_isB, gb_S]
      show (if gz (mBtw a 32 126) = 0 then _ else _) = _
      rw [hb, if_pos (show gz false = 0 from rfl), fails_eq hc.m.1, gb2_S]
      rfl
  | true =>
    have hb' := of_decide_eq_true hb
    obtain ⟨c, hc1, hc2, hc3⟩ : ∃ c, c ≤ 126 ∧ a = nI c ∧ 32 ≤ c := by
      obtain ⟨c, c1, c2, -⟩ := mBtw_t (n := 126) (by decide) rfl (mBtw_0 (by decide) hb)
      refine ⟨c, c1, c2, ?_⟩
      rw [c2] at hb'
      exact (nI_leI (a := 32) (by decide) (by omega)).mp hb'.1
    have e35 : ∀ Y S', wC G S' T A Y X → gI (sI S' 30 (am A) 0) 35 (am A) = nI X.2.2.1.length := fun Y S' hc => hc.2.2.2.2.1.2.2.2.2.1
    by_cases q : X.2.2.1.length = 60
    · refine t_no h (i := 1) (E := eIS) (b := 0) ?_ rfl (fun S' hc => ?_)
      · unfold f_X5_type
        rw [c_isB, hb, gb_S, if_neg (by decide), gd_i h.1.1.1.1, s8, gb_S, h.1.P.1, gb_S, q, if_neg (by decide)]
      · unfold f_X6_type
        rw [gd_i hc.m.1, glt_S, q_isB, gb_S]
        show (if gz (mBtw a 32 126) = 0 then _ else _) = _
        rw [hb, if_neg (by decide), e35 _ _ hc, q, if_pos (by rfl), fails_eq hc.m.1, gb2_S]
        rfl
    · have lt : X.2.2.1.length < 60 := by omega
      have el : (X.2.2.1 ++ [c]).length = X.2.2.1.length + 1 := len_one _ _
      have tp := h.1.P.put1 (l := X.2.2.1 ++ [c]) hn (by omega) (by omega)
      subst hc2
      refine ⟨.inr (nI (X.2.2.1.length + 1)), S, ts T (at1 A) (X.2.2.1 ++ [c]), xTx X (X.2.2.1 ++ [c]), ?_, ?_, h.1.t1 tp, fun S' hc => ?_⟩
      · show f_X5_type G (ax A) (nI c) S T = some (.inr (nI (X.2.2.1.length + 1)), S, ts T (at1 A) (X.2.2.1 ++ [c]))
        unfold f_X5_type
        rw [c_isB, hb, gb_S, if_neg (by decide), gd_i h.1.1.1.1, s8, gb_S, h.1.P.1, gb_S, if_pos (show nI X.2.2.1.length < 60 from nI_lt (b := 60) lt (by decide)), gb_S, h.1.P.1, gb_S, nI_clamp (by omega), gd_i ⟨nI_pos' (by omega), (show nI c ≤ nI 255 from nI_le (by omega) (by decide)), h.1.P.2.2.1.1⟩, gd_i (by omega), glt_S, gb_S, tp.1, gb_S, el]
      · obtain ⟨w1, w2, w3, w4, w5, w6, w7⟩ := hW.mono (show N ≤ N + 40000 by omega)
        refine ⟨w1, w2, w3, w4, w5, ⟨by show (X.2.2.1 ++ [c]).length ≤ 60; omega, fun d hd => ?_⟩, w7⟩
        rcases List.mem_append.mp hd with z | z
        · exact w6.2 d z
        · rw [List.mem_singleton.mp z]
          omega
      · obtain ⟨m1, m2, m3⟩ := (hc.I (S' := sI S' 30 (am A) 0) rfl (Or.inl rfl)).m5
        obtain ⟨S1, e1⟩ : ∃ S1, S1 = sI S' 30 (am A) 0 := ⟨_, rfl⟩
        have c1 := hc.I e1 (Or.inl rfl)
        obtain ⟨S2, e2⟩ : ∃ S2, S2 = sr S1 (ar A 5) X.2.2.1.length (nI c) := ⟨_, rfl⟩
        obtain ⟨S3, e3⟩ : ∃ S3, S3 = sI S2 35 (am A) (nI (X.2.2.1.length + 1)) := ⟨_, rfl⟩
        have f1 : gI S1 35 (am A) = nI X.2.2.1.length := c1.2.2.2.2.1.2.2.2.2.1
        have f2 : gI S2 35 (am A) = nI X.2.2.1.length := by rw [e2]; exact f1
        have f3 : gI S3 35 (am A) = nI (X.2.2.1.length + 1) := by rw [e3, gI_sI, if_pos ⟨rfl, rfl⟩]
        have f30 : gI S3 30 (am A) = 0 := by
          rw [e3, gI_sI, if_neg (fun z => absurd z.1 (by decide)), e2]
          show gI S1 30 (am A) = 0
          rw [e1, gI_sI, if_pos ⟨rfl, rfl⟩]
        have fr : gFr [am A, ar A 5] S1 S3 := (gFr.rfl'.r' e2 (by simp)).I' e3 (by simp)
        have hin : ∀ a ∈ [am A, ar A 5], a = am A ∨ ∃ j, j < 7 ∧ a = ar A j := fun a ha => by
          rcases List.mem_cons.mp ha with z | z
          · exact Or.inl z
          · exact Or.inr ⟨5, by decide, List.mem_singleton.mp z⟩
        refine ⟨nI (X.2.2.1.length + 1), S3, ?_, ?_, oK.trans (by rw [e1]; exact oK.I) (oK.ref c1.1 fr hin), f30, rfl⟩
        · show f_X6_type G (am A) (nI c) S' = some (nI (X.2.2.1.length + 1), S3)
          unfold f_X6_type
          rw [gd_i hc.1.2.2.1.1, ← e1, glt_S, q_isB, gb_S]
          show (if gz (mBtw (nI c) 32 126) = 0 then _ else _) = _
          rw [← e1] at m1
          rw [hb, if_neg (by decide), f1, if_neg (show ¬ nI X.2.2.1.length = 60 from fun z => q ((nI_eq (a := X.2.2.1.length) (b := 60) (by omega) (by decide)).mp z)), m1, gb_S, gd_i m2, gd_i (by rw [m3]; exact vp_nI lt (by decide)), nI_clamp (by omega), nar127 c (by omega), ← e2, glt_S, f2, nI_1, ← e3, glt_S, f3]
        · refine c1.ref (Z := xTx X (X.2.2.1 ++ [c])) fr hin ?_ ?_
          · have : gr S3 (ar A 0) = gr S1 (ar A 0) := by
              funext i
              rw [e3, gr_sI, e2]
              exact gr_sr_ne (c1.1.2.2.1.2.2 0 5 (by decide) (by decide) (by decide))
            rw [this]
            exact c1.2.2.1
          · have hI : ∀ f, f ≠ 35 → gI S3 f (am A) = gI S1 f (am A) := fun f hf => by
              rw [e3, gI_sI, if_neg (fun z => hf z.1), e2]
              rfl
            have hr : ∀ j, j < 7 → j ≠ 5 → gr S3 (ar A j) = gr S1 (ar A j) := fun j hj h5 => by
              funext i
              rw [e3, gr_sI, e2]
              exact gr_sr_ne (c1.1.2.2.1.2.2 j 5 hj (by decide) h5)
            obtain ⟨m1, ⟨n1, n2, n3, n4, n5, n6⟩, ⟨fc, g1, g2, g3⟩, m4, m5⟩ := c1.2.2.2
            refine ⟨?_, ⟨?_, ?_, ?_, ?_, ?_, ?_⟩, ⟨fc, g1, ?_, ?_⟩, ?_, ?_⟩
            · rw [hr 2 (by decide) (by decide)]; exact m1
            · rw [hI 31 (by decide)]; exact n1
            · rw [hI 33 (by decide)]; exact n2
            · rw [hI 37 (by decide)]; exact n3
            · rw [hI 38 (by decide)]; exact n4
            · show gI S3 35 (am A) = nI (X.2.2.1 ++ [c]).length
              rw [f3, el]
            · rw [hI 34 (by decide)]; exact n6
            · rw [hI 32 (by decide)]; exact g2
            · rw [hr 1 (by decide) (by decide)]; exact g3
            · intro k d hk
              rw [e3, gr_sI, e2, gr_sr_at]
              rcases app1 hk with z | ⟨rfl, rfl⟩
              · rw [if_neg (fun y => by have := (List.getElem?_eq_some_iff.mp z).1; omega)]
                exact m4 k d z
              · rw [if_pos rfl]
            · rw [hr 4 (by decide) (by decide)]; exact m5
end DI
