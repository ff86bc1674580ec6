/-! the start: the law's first instructions -/
def gG0 : gG := ([], fun _ => 0, fun _ => 0)
def gS0 : gS := (fun _ _ => 0, fun _ _ => none, fun _ _ => 0, fun _ _ => none)
set_option maxRecDepth 100000 in
theorem law_start {K : gKx} {scr L : Nat} {xs : Nat → Int32} (g : Gd K RL cL_law 1475) (hs : gScr K scr L xs) (hfl : flOk) (hret : ∀ G lv S T c0 s0, Xj K [] G 3283 lv [.int 1] S T c0 s0) : Xj K [] gG0 0 [some (.ref scr), none, none, none, none, none, none, none, none] [] gS0 [] 4464 214748 := by
  have hL := hs.2.2.2
  refine x_newo (c0 := 4463) (s0 := 214739) g dL_law_0 gXX5 cl_L_8 (w_tb 32 (by decide +kernel)) (w_tb 1 (by decide +kernel)) (by intro j hj; rcases (by omega : j = 0 ∨ j = 1 ∨ j = 2 ∨ j = 3 ∨ j = 4 ∨ j = 5 ∨ j = 6 ∨ j = 7 ∨ j = 8) with rfl | rfl | rfl | rfl | rfl | rfl | rfl | rfl | rfl <;> rfl) (fun x hx0 => ?_)
  refine x_dup g dL_law_3 rfl ?_
  refine x_callIR (rest := [.ref x]) (As := []) g (k_X5_init gis_add) ca_X5_init rfl in_X5_init lm_L_165 (Nat.le_of_ble_eq_true rfl) (Nat.le_of_ble_eq_true rfl) (Nat.le_of_ble_eq_true rfl) rfl rfl (Nat.le_of_ble_eq_true rfl) dL_law_4 (fun v G1 S1 T1 hR => ?_)
  obtain ⟨rfl, bs, hi, s1, s2, b11, rfl, h12, V, hi1, hi2, ghi, nhi, px, ix, hq⟩ := hR
  show Xj K [] G1 7 _ [.ref x] S1 _ 4106 206880
  refine x_astore_n 1 g dL_law_7 rfl (Nat.le_of_ble_eq_true rfl) rfl ?_
  refine x_newo (c0 := 4105) (s0 := 206862) g dL_law_8 gXX6 cl_L_166 (w_tb 1340 (by decide +kernel)) (w_tb 8 (by decide +kernel)) (by intro j hj; rcases (by omega : j = 0 ∨ j = 1 ∨ j = 2 ∨ j = 3 ∨ j = 4 ∨ j = 5 ∨ j = 6 ∨ j = 7 ∨ j = 8 ∨ j = 9 ∨ j = 10 ∨ j = 11 ∨ j = 12 ∨ j = 13 ∨ j = 14 ∨ j = 15 ∨ j = 16 ∨ j = 17) with rfl | rfl | rfl | rfl | rfl | rfl | rfl | rfl | rfl | rfl | rfl | rfl | rfl | rfl | rfl | rfl | rfl | rfl <;> rfl) (fun m hm => ?_)
  refine x_dup g dL_law_11 rfl ?_
  refine x_callIR (rest := [.ref m]) (As := []) g (k_X6_init gis_add (fun f => if_pos rfl)) ca_X6_init rfl in_X6_init lm_L_168 (Nat.le_of_ble_eq_true rfl) (Nat.le_of_ble_eq_true rfl) (Nat.le_of_ble_eq_true rfl) rfl rfl (Nat.le_of_ble_eq_true rfl) dL_law_12 (fun v G2 S2 T2 hR => ?_)
  obtain ⟨rfl, rfl, r, E2, rn, rnew, g3m, hr, im, r0, r1⟩ := hR
  show Xj K [] G2 15 _ [.ref m] S2 _ 4098 204802
  refine x_astore_n 2 g dL_law_15 rfl (Nat.le_of_ble_eq_true rfl) rfl ?_
  refine x_iconst (v := 1) g dL_law_16 rfl ?_
  refine x_newL (c0 := 4097) (s0 := 204801) g dL_law_17 (w_tb 1844 (by decide +kernel)) (fun o ho => ?_)
  refine x_astore_n 3 g dL_law_19 rfl (Nat.le_of_ble_eq_true rfl) rfl ?_
  refine x_iconst (v := 1) g dL_law_20 rfl ?_
  refine x_newD (c0 := 4096) (s0 := 204800) g dL_law_21 (w_tb 1845 (by decide +kernel)) (fun oD hoD => ?_)
  refine x_astore g dL_law_23 (Nat.le_of_ble_eq_true rfl) rfl ?_
  refine x_iconst (v := 0) g dL_law_25 rfl ?_
  refine x_istore g dL_law_26 (Nat.le_of_ble_eq_true rfl) rfl ?_
  have gx1 : gis G1 2 x := V.1.gis gis_add
  have e12 : gEx G1 S1 G2 S2 [] := (gEx.new hm).old E2 (fun y hy => Or.inl (by rw [List.mem_singleton.mp hy]; exact hm))
  have e23 : gEx G2 S2 (gadd G2 o 10 1) (sZ S2 o) [] := gEx.new ho
  have e34 : gEx (gadd G2 o 10 1) (sZ S2 o) (gadd (gadd G2 o 10 1) oD 11 1) (sZ (sZ S2 o) oD) [] := gEx.new hoD
  have e24 := e23.trans e34
  have e14 := e12.trans e24
  have nn : ∀ {a : Nat}, a ∉ ([] : List Nat) := fun {a} q => by cases q
  have rin : ∀ j, j < 7 → r j ∈ [r 0, r 1, r 2, r 3, r 4, r 5, r 6] := fun j hj => by
    have hj' : j = 0 ∨ j = 1 ∨ j = 2 ∨ j = 3 ∨ j = 4 ∨ j = 5 ∨ j = 6 := by omega
    rcases hj' with rfl | rfl | rfl | rfl | rfl | rfl | rfl <;> simp
  have rj1 : ∀ j, j < 7 → ∀ a, a ∈ gL G1 → r j ≠ a := fun j hj a ha e => rnew _ (rin j hj) (by rw [e]; exact List.mem_append_left _ ha)
  have hw := wR_init (G := gadd (gadd G2 o 10 1) oD 11 1) (S := sZ (sZ S2 o) oD) (x := x) (m := m) (o := o) (oD := oD) (hi := hi) (s1 := s1) (s2 := s2) (bs := bs) (r := r) (e14.gis gx1) b11 (fun y hy => ⟨(V.2.1 y hy).1.ex e14 (fun _ _ q => by cases q), (V.2.1 y hy).2.ex (V.2.1 y hy).1 e14 (fun _ _ q => by cases q)⟩) V.2.2.1 hi2 (e14.gis ghi) ((e14.1 hi ghi.1).2.2.trans nhi)
    ⟨((e14.2 x gx1.1 nn).1 5).2.trans px.1, ((e14.2 x gx1.1 nn).1 6).2.trans px.2.1, ((e14.2 x gx1.1 nn).1 7).2.trans px.2.2.1, ((e14.2 x gx1.1 nn).1 8).2.trans px.2.2.2.1, ((e14.2 x gx1.1 nn).1 9).2.trans px.2.2.2.2⟩ ⟨((e14.2 x gx1.1 nn).1 20).1.trans ix.1, ((e14.2 x gx1.1 nn).1 21).1.trans ix.2.1, ((e14.2 x gx1.1 nn).1 22).1.trans ix.2.2.1, ((e14.2 x gx1.1 nn).1 23).1.trans ix.2.2.2⟩ (fun i hi9 => ((e14.2 hi ghi.1 nn).2 i).2.trans (hq i hi9)) h12
    (e24.gis g3m) (fun j hj => ⟨((e24.2 m g3m.1 nn).1 (10 + j)).2.trans (hr j hj).1, e24.gis (hr j hj).2.1, (e24.1 _ (hr j hj).2.1.1).2.2.trans (hr j hj).2.2⟩) rn ⟨((e24.2 m g3m.1 nn).1 37).1.trans im.1, ((e24.2 m g3m.1 nn).1 38).1.trans im.2.1, fun f f7 f8 => ((e24.2 m g3m.1 nn).1 (30 + f)).1.trans (im.2.2 f f7 f8)⟩ (fun i => ((e24.2 _ (hr 0 (by decide)).2.1.1 nn).2 i).1.trans (r0 i))
    ⟨e34.gis gis_add, (e34.1 o gis_add.1).2.2.trans gn_add⟩ ⟨gis_add, gn_add⟩ (fun y hy => ?_) ?_
  · exact law_loop (A := ((x, hi, s1, s2), (m, o, oD), (fun b => bs.getD b (0, 0, fun _ => (0, fun _ => 0))), r)) g hs hfl (hret _) 512 0 0 _ _ mX0 hw (Nat.zero_le _) (by omega) (Nat.le_of_ble_eq_true rfl)
  · obtain ⟨y1, y2⟩ := V.2.2.2 y hy
    refine ⟨fun e => y1 (by rw [e]; exact gis_add.1), fun e => hm (e ▸ y2), fun e => ho (e ▸ (e12.1 y y2).1), fun e => hoD (e ▸ (e23.1 y (e12.1 y y2).1).1), fun j hj => rj1 j hj y y2⟩
  · refine ⟨fun e => hm (e ▸ gx1.1), fun e => ho (e ▸ (e12.1 x gx1.1).1), fun e => hoD (e ▸ (e23.1 x (e12.1 x gx1.1).1).1), fun e => ho (e ▸ g3m.1), fun e => hoD (e ▸ (e23.1 m g3m.1).1), fun e => hoD (e ▸ gis_add.1), fun j hj => ⟨rj1 j hj x gx1.1, fun e => ho (e ▸ (hr j hj).2.1.1), fun e => hoD (e ▸ (e23.1 _ (hr j hj).2.1.1).1)⟩⟩
